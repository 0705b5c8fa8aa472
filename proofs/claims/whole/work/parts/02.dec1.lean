theorem dX3_pairWays_8 : decode cX3_pairWays 8 = .ok (.isub, 1) := by decide +kernel
theorem dX3_pairWays_9 : decode cX3_pairWays 9 = .ok (.invokestatic 58, 3) := by decide +kernel
theorem dX3_pairWays_12 : decode cX3_pairWays 12 = .ok (.iadd, 1) := by decide +kernel
theorem dX3_pairWays_13 : decode cX3_pairWays 13 = .ok (.istore 4, 2) := by decide +kernel
theorem dX3_pairWays_15 : decode cX3_pairWays 15 = .ok (.iload_n 0, 1) := by decide +kernel
theorem dX3_pairWays_16 : decode cX3_pairWays 16 = .ok (.iload_n 3, 1) := by decide +kernel
theorem dX3_pairWays_17 : decode cX3_pairWays 17 = .ok (.isub, 1) := by decide +kernel
theorem dX3_pairWays_18 : decode cX3_pairWays 18 = .ok (.invokestatic 58, 3) := by decide +kernel
theorem dX3_pairWays_21 : decode cX3_pairWays 21 = .ok (.iload_n 1, 1) := by decide +kernel
theorem dX3_pairWays_22 : decode cX3_pairWays 22 = .ok (.iload_n 2, 1) := by decide +kernel
theorem dX3_pairWays_23 : decode cX3_pairWays 23 = .ok (.isub, 1) := by decide +kernel
theorem dX3_pairWays_24 : decode cX3_pairWays 24 = .ok (.invokestatic 58, 3) := by decide +kernel
theorem dX3_pairWays_27 : decode cX3_pairWays 27 = .ok (.iadd, 1) := by decide +kernel
theorem dX3_pairWays_28 : decode cX3_pairWays 28 = .ok (.istore 5, 2) := by decide +kernel
theorem dX3_pairWays_30 : decode cX3_pairWays 30 = .ok (.iload 4, 2) := by decide +kernel
theorem dX3_pairWays_32 : decode cX3_pairWays 32 = .ok (.iload 5, 2) := by decide +kernel
theorem dX3_pairWays_34 : decode cX3_pairWays 34 = .ok (.invokestatic 67, 3) := by decide +kernel
theorem dX3_pairWays_37 : decode cX3_pairWays 37 = .ok (.ireturn, 1) := by decide +kernel
theorem dX3_waysAmong_0 : decode cX3_waysAmong 0 = .ok (.iconst 0, 1) := by decide +kernel
theorem dX3_waysAmong_1 : decode cX3_waysAmong 1 = .ok (.istore_n 2, 1) := by decide +kernel
theorem dX3_waysAmong_2 : decode cX3_waysAmong 2 = .ok (.iconst 0, 1) := by decide +kernel
theorem dX3_waysAmong_3 : decode cX3_waysAmong 3 = .ok (.istore_n 3, 1) := by decide +kernel
theorem dX3_waysAmong_4 : decode cX3_waysAmong 4 = .ok (.iload_n 3, 1) := by decide +kernel
theorem dX3_waysAmong_5 : decode cX3_waysAmong 5 = .ok (.aload_n 0, 1) := by decide +kernel
theorem dX3_waysAmong_6 : decode cX3_waysAmong 6 = .ok (.getfield 15, 3) := by decide +kernel
theorem dX3_waysAmong_9 : decode cX3_waysAmong 9 = .ok (.if_icmp .ge 43, 3) := by decide +kernel
theorem dX3_waysAmong_12 : decode cX3_waysAmong 12 = .ok (.iload_n 3, 1) := by decide +kernel
theorem dX3_waysAmong_13 : decode cX3_waysAmong 13 = .ok (.iconst 1, 1) := by decide +kernel
theorem dX3_waysAmong_14 : decode cX3_waysAmong 14 = .ok (.iadd, 1) := by decide +kernel
theorem dX3_waysAmong_15 : decode cX3_waysAmong 15 = .ok (.istore 4, 2) := by decide +kernel
theorem dX3_waysAmong_17 : decode cX3_waysAmong 17 = .ok (.iload 4, 2) := by decide +kernel
theorem dX3_waysAmong_19 : decode cX3_waysAmong 19 = .ok (.aload_n 0, 1) := by decide +kernel
theorem dX3_waysAmong_20 : decode cX3_waysAmong 20 = .ok (.getfield 15, 3) := by decide +kernel
theorem dX3_waysAmong_23 : decode cX3_waysAmong 23 = .ok (.if_icmp .ge 23, 3) := by decide +kernel
theorem dX3_waysAmong_26 : decode cX3_waysAmong 26 = .ok (.iload_n 2, 1) := by decide +kernel
theorem dX3_waysAmong_27 : decode cX3_waysAmong 27 = .ok (.aload_n 1, 1) := by decide +kernel
theorem dX3_waysAmong_28 : decode cX3_waysAmong 28 = .ok (.iload_n 3, 1) := by decide +kernel
theorem dX3_waysAmong_29 : decode cX3_waysAmong 29 = .ok (.iaload, 1) := by decide +kernel
theorem dX3_waysAmong_30 : decode cX3_waysAmong 30 = .ok (.aload_n 1, 1) := by decide +kernel
theorem dX3_waysAmong_31 : decode cX3_waysAmong 31 = .ok (.iload 4, 2) := by decide +kernel
theorem dX3_waysAmong_33 : decode cX3_waysAmong 33 = .ok (.iaload, 1) := by decide +kernel
theorem dX3_waysAmong_34 : decode cX3_waysAmong 34 = .ok (.isub, 1) := by decide +kernel
theorem dX3_waysAmong_35 : decode cX3_waysAmong 35 = .ok (.invokestatic 58, 3) := by decide +kernel
theorem dX3_waysAmong_38 : decode cX3_waysAmong 38 = .ok (.iadd, 1) := by decide +kernel
theorem dX3_waysAmong_39 : decode cX3_waysAmong 39 = .ok (.istore_n 2, 1) := by decide +kernel
theorem dX3_waysAmong_40 : decode cX3_waysAmong 40 = .ok (.iinc 4 1, 3) := by decide +kernel
theorem dX3_waysAmong_43 : decode cX3_waysAmong 43 = .ok (.goto (-26), 3) := by decide +kernel
theorem dX3_waysAmong_46 : decode cX3_waysAmong 46 = .ok (.iinc 3 1, 3) := by decide +kernel
theorem dX3_waysAmong_49 : decode cX3_waysAmong 49 = .ok (.goto (-45), 3) := by decide +kernel
theorem dX3_waysAmong_52 : decode cX3_waysAmong 52 = .ok (.iload_n 2, 1) := by decide +kernel
theorem dX3_waysAmong_53 : decode cX3_waysAmong 53 = .ok (.ireturn, 1) := by decide +kernel
theorem dX4_init_0 : decode cX4_init 0 = .ok (.aload_n 0, 1) := by decide +kernel
theorem dX4_init_1 : decode cX4_init 1 = .ok (.invokespecial 3, 3) := by decide +kernel
theorem dX4_init_4 : decode cX4_init 4 = .ok (.aload_n 0, 1) := by decide +kernel
theorem dX4_init_5 : decode cX4_init 5 = .ok (.aload_n 1, 1) := by decide +kernel
theorem dX4_init_6 : decode cX4_init 6 = .ok (.putfield 9, 3) := by decide +kernel
theorem dX4_init_9 : decode cX4_init 9 = .ok (.aload_n 0, 1) := by decide +kernel
theorem dX4_init_10 : decode cX4_init 10 = .ok (.aload_n 2, 1) := by decide +kernel
theorem dX4_init_11 : decode cX4_init 11 = .ok (.putfield 15, 3) := by decide +kernel
theorem dX4_init_14 : decode cX4_init 14 = .ok (.aload_n 0, 1) := by decide +kernel
theorem dX4_init_15 : decode cX4_init 15 = .ok (.new 19, 3) := by decide +kernel
theorem dX4_init_18 : decode cX4_init 18 = .ok (.dup, 1) := by decide +kernel
theorem dX4_init_19 : decode cX4_init 19 = .ok (.aload_n 1, 1) := by decide +kernel
theorem dX4_init_20 : decode cX4_init 20 = .ok (.invokespecial 21, 3) := by decide +kernel
theorem dX4_init_23 : decode cX4_init 23 = .ok (.putfield 24, 3) := by decide +kernel
theorem dX4_init_26 : decode cX4_init 26 = .ok (.return_, 1) := by decide +kernel
theorem dX4_behind_0 : decode cX4_behind 0 = .ok (.aload_n 0, 1) := by decide +kernel
theorem dX4_behind_1 : decode cX4_behind 1 = .ok (.getfield 15, 3) := by decide +kernel
theorem dX4_behind_4 : decode cX4_behind 4 = .ok (.aload_n 1, 1) := by decide +kernel
theorem dX4_behind_5 : decode cX4_behind 5 = .ok (.invokevirtual 28, 3) := by decide +kernel
theorem dX4_behind_8 : decode cX4_behind 8 = .ok (.pop, 1) := by decide +kernel
theorem dX4_behind_9 : decode cX4_behind 9 = .ok (.aload_n 1, 1) := by decide +kernel
theorem dX4_behind_10 : decode cX4_behind 10 = .ok (.aload_n 0, 1) := by decide +kernel
theorem dX4_behind_11 : decode cX4_behind 11 = .ok (.getfield 15, 3) := by decide +kernel
theorem dX4_behind_14 : decode cX4_behind 14 = .ok (.iload_n 2, 1) := by decide +kernel
theorem dX4_behind_15 : decode cX4_behind 15 = .ok (.invokevirtual 34, 3) := by decide +kernel
theorem dX4_behind_18 : decode cX4_behind 18 = .ok (.pop, 1) := by decide +kernel
theorem dX4_behind_19 : decode cX4_behind 19 = .ok (.aload_n 1, 1) := by decide +kernel
theorem dX4_behind_20 : decode cX4_behind 20 = .ok (.aload_n 0, 1) := by decide +kernel
theorem dX4_behind_21 : decode cX4_behind 21 = .ok (.getfield 24, 3) := by decide +kernel
theorem dX4_behind_24 : decode cX4_behind 24 = .ok (.iload_n 2, 1) := by decide +kernel
theorem dX4_behind_25 : decode cX4_behind 25 = .ok (.invokevirtual 34, 3) := by decide +kernel
theorem dX4_behind_28 : decode cX4_behind 28 = .ok (.pop, 1) := by decide +kernel
theorem dX4_behind_29 : decode cX4_behind 29 = .ok (.aload_n 0, 1) := by decide +kernel
theorem dX4_behind_30 : decode cX4_behind 30 = .ok (.invokevirtual 40, 3) := by decide +kernel
theorem dX4_behind_33 : decode cX4_behind 33 = .ok (.ireturn, 1) := by decide +kernel
theorem dX4_firstUnpaid_0 : decode cX4_firstUnpaid 0 = .ok (.aload_n 0, 1) := by decide +kernel
theorem dX4_firstUnpaid_1 : decode cX4_firstUnpaid 1 = .ok (.getfield 15, 3) := by decide +kernel
theorem dX4_firstUnpaid_4 : decode cX4_firstUnpaid 4 = .ok (.aload_n 1, 1) := by decide +kernel
theorem dX4_firstUnpaid_5 : decode cX4_firstUnpaid 5 = .ok (.invokevirtual 28, 3) := by decide +kernel
theorem dX4_firstUnpaid_8 : decode cX4_firstUnpaid 8 = .ok (.pop, 1) := by decide +kernel
theorem dX4_firstUnpaid_9 : decode cX4_firstUnpaid 9 = .ok (.aload_n 0, 1) := by decide +kernel
theorem dX4_firstUnpaid_10 : decode cX4_firstUnpaid 10 = .ok (.getfield 15, 3) := by decide +kernel
theorem dX4_firstUnpaid_13 : decode cX4_firstUnpaid 13 = .ok (.invokevirtual 44, 3) := by decide +kernel
theorem dX4_firstUnpaid_16 : decode cX4_firstUnpaid 16 = .ok (.aload_n 0, 1) := by decide +kernel
theorem dX4_firstUnpaid_17 : decode cX4_firstUnpaid 17 = .ok (.getfield 24, 3) := by decide +kernel
theorem dX4_firstUnpaid_20 : decode cX4_firstUnpaid 20 = .ok (.invokevirtual 47, 3) := by decide +kernel
theorem dX4_firstUnpaid_23 : decode cX4_firstUnpaid 23 = .ok (.iconst 0, 1) := by decide +kernel
theorem dX4_firstUnpaid_24 : decode cX4_firstUnpaid 24 = .ok (.istore_n 2, 1) := by decide +kernel
theorem dX4_firstUnpaid_25 : decode cX4_firstUnpaid 25 = .ok (.iload_n 2, 1) := by decide +kernel
theorem dX4_firstUnpaid_26 : decode cX4_firstUnpaid 26 = .ok (.aload_n 1, 1) := by decide +kernel
theorem dX4_firstUnpaid_27 : decode cX4_firstUnpaid 27 = .ok (.getfield 48, 3) := by decide +kernel
theorem dX4_firstUnpaid_30 : decode cX4_firstUnpaid 30 = .ok (.if_icmp .ge 24, 3) := by decide +kernel
theorem dX4_firstUnpaid_33 : decode cX4_firstUnpaid 33 = .ok (.aload_n 0, 1) := by decide +kernel
theorem dX4_firstUnpaid_34 : decode cX4_firstUnpaid 34 = .ok (.aload_n 1, 1) := by decide +kernel
theorem dX4_firstUnpaid_35 : decode cX4_firstUnpaid 35 = .ok (.getfield 52, 3) := by decide +kernel
theorem dX4_firstUnpaid_38 : decode cX4_firstUnpaid 38 = .ok (.iload_n 2, 1) := by decide +kernel
theorem dX4_firstUnpaid_39 : decode cX4_firstUnpaid 39 = .ok (.iaload, 1) := by decide +kernel
theorem dX4_firstUnpaid_40 : decode cX4_firstUnpaid 40 = .ok (.invokevirtual 56, 3) := by decide +kernel
theorem dX4_firstUnpaid_43 : decode cX4_firstUnpaid 43 = .ok (.ifCond .ne 5, 3) := by decide +kernel
theorem dX4_firstUnpaid_46 : decode cX4_firstUnpaid 46 = .ok (.iload_n 2, 1) := by decide +kernel
theorem dX4_firstUnpaid_47 : decode cX4_firstUnpaid 47 = .ok (.ireturn, 1) := by decide +kernel
theorem dX4_firstUnpaid_48 : decode cX4_firstUnpaid 48 = .ok (.iinc 2 1, 3) := by decide +kernel
theorem dX4_firstUnpaid_51 : decode cX4_firstUnpaid 51 = .ok (.goto (-26), 3) := by decide +kernel
theorem dX4_firstUnpaid_54 : decode cX4_firstUnpaid 54 = .ok (.iconst (-1), 1) := by decide +kernel
theorem dX4_firstUnpaid_55 : decode cX4_firstUnpaid 55 = .ok (.ireturn, 1) := by decide +kernel
theorem dX4_paysAt_0 : decode cX4_paysAt 0 = .ok (.aload_n 0, 1) := by decide +kernel
theorem dX4_paysAt_1 : decode cX4_paysAt 1 = .ok (.invokevirtual 40, 3) := by decide +kernel
theorem dX4_paysAt_4 : decode cX4_paysAt 4 = .ok (.aload_n 0, 1) := by decide +kernel
theorem dX4_paysAt_5 : decode cX4_paysAt 5 = .ok (.getfield 24, 3) := by decide +kernel
theorem dX4_paysAt_8 : decode cX4_paysAt 8 = .ok (.getfield 60, 3) := by decide +kernel
theorem dX4_paysAt_11 : decode cX4_paysAt 11 = .ok (.iadd, 1) := by decide +kernel
theorem dX4_paysAt_12 : decode cX4_paysAt 12 = .ok (.istore_n 2, 1) := by decide +kernel
theorem dX4_paysAt_13 : decode cX4_paysAt 13 = .ok (.aload_n 0, 1) := by decide +kernel
theorem dX4_paysAt_14 : decode cX4_paysAt 14 = .ok (.getfield 15, 3) := by decide +kernel
theorem dX4_paysAt_17 : decode cX4_paysAt 17 = .ok (.getfield 63, 3) := by decide +kernel
theorem dX4_paysAt_20 : decode cX4_paysAt 20 = .ok (.istore_n 3, 1) := by decide +kernel
theorem dX4_paysAt_21 : decode cX4_paysAt 21 = .ok (.aload_n 0, 1) := by decide +kernel
theorem dX4_paysAt_22 : decode cX4_paysAt 22 = .ok (.getfield 24, 3) := by decide +kernel
theorem dX4_paysAt_25 : decode cX4_paysAt 25 = .ok (.iload_n 1, 1) := by decide +kernel
theorem dX4_paysAt_26 : decode cX4_paysAt 26 = .ok (.iconst (-1), 1) := by decide +kernel
theorem dX4_paysAt_27 : decode cX4_paysAt 27 = .ok (.invokevirtual 64, 3) := by decide +kernel
theorem dX4_paysAt_30 : decode cX4_paysAt 30 = .ok (.aload_n 0, 1) := by decide +kernel
theorem dX4_paysAt_31 : decode cX4_paysAt 31 = .ok (.getfield 15, 3) := by decide +kernel
theorem dX4_paysAt_34 : decode cX4_paysAt 34 = .ok (.iload_n 1, 1) := by decide +kernel
theorem dX4_paysAt_35 : decode cX4_paysAt 35 = .ok (.iconst (-1), 1) := by decide +kernel
theorem dX4_paysAt_36 : decode cX4_paysAt 36 = .ok (.invokevirtual 68, 3) := by decide +kernel
theorem dX4_paysAt_39 : decode cX4_paysAt 39 = .ok (.aload_n 0, 1) := by decide +kernel
theorem dX4_paysAt_40 : decode cX4_paysAt 40 = .ok (.invokevirtual 40, 3) := by decide +kernel
theorem dX4_paysAt_43 : decode cX4_paysAt 43 = .ok (.aload_n 0, 1) := by decide +kernel
theorem dX4_paysAt_44 : decode cX4_paysAt 44 = .ok (.getfield 24, 3) := by decide +kernel
theorem dX4_paysAt_47 : decode cX4_paysAt 47 = .ok (.getfield 60, 3) := by decide +kernel
theorem dX4_paysAt_50 : decode cX4_paysAt 50 = .ok (.iadd, 1) := by decide +kernel
theorem dX4_paysAt_51 : decode cX4_paysAt 51 = .ok (.iload_n 2, 1) := by decide +kernel
theorem dX4_paysAt_52 : decode cX4_paysAt 52 = .ok (.isub, 1) := by decide +kernel
theorem dX4_paysAt_53 : decode cX4_paysAt 53 = .ok (.istore 4, 2) := by decide +kernel
theorem dX4_paysAt_55 : decode cX4_paysAt 55 = .ok (.iload 4, 2) := by decide +kernel
theorem dX4_paysAt_57 : decode cX4_paysAt 57 = .ok (.aload_n 0, 1) := by decide +kernel
theorem dX4_paysAt_58 : decode cX4_paysAt 58 = .ok (.getfield 9, 3) := by decide +kernel
theorem dX4_paysAt_61 : decode cX4_paysAt 61 = .ok (.getfield 69, 3) := by decide +kernel
theorem dX4_paysAt_64 : decode cX4_paysAt 64 = .ok (.aload_n 0, 1) := by decide +kernel
theorem dX4_paysAt_65 : decode cX4_paysAt 65 = .ok (.getfield 15, 3) := by decide +kernel
theorem dX4_paysAt_68 : decode cX4_paysAt 68 = .ok (.getfield 63, 3) := by decide +kernel
theorem dX4_paysAt_71 : decode cX4_paysAt 71 = .ok (.iload_n 3, 1) := by decide +kernel
theorem dX4_paysAt_72 : decode cX4_paysAt 72 = .ok (.isub, 1) := by decide +kernel
theorem dX4_paysAt_73 : decode cX4_paysAt 73 = .ok (.imul, 1) := by decide +kernel
theorem dX4_paysAt_74 : decode cX4_paysAt 74 = .ok (.if_icmp .gt 7, 3) := by decide +kernel
theorem dX4_paysAt_77 : decode cX4_paysAt 77 = .ok (.iconst 1, 1) := by decide +kernel
theorem dX4_paysAt_78 : decode cX4_paysAt 78 = .ok (.goto 4, 3) := by decide +kernel
theorem dX4_paysAt_81 : decode cX4_paysAt 81 = .ok (.iconst 0, 1) := by decide +kernel
theorem dX4_paysAt_82 : decode cX4_paysAt 82 = .ok (.ireturn, 1) := by decide +kernel
theorem dX4_stored_0 : decode cX4_stored 0 = .ok (.aload_n 0, 1) := by decide +kernel
theorem dX4_stored_1 : decode cX4_stored 1 = .ok (.getfield 9, 3) := by decide +kernel
theorem dX4_stored_4 : decode cX4_stored 4 = .ok (.getfield 69, 3) := by decide +kernel
theorem dX4_stored_7 : decode cX4_stored 7 = .ok (.aload_n 0, 1) := by decide +kernel
theorem dX4_stored_8 : decode cX4_stored 8 = .ok (.getfield 9, 3) := by decide +kernel
theorem dX4_stored_11 : decode cX4_stored 11 = .ok (.aload_n 0, 1) := by decide +kernel
theorem dX4_stored_12 : decode cX4_stored 12 = .ok (.getfield 24, 3) := by decide +kernel
theorem dX4_stored_15 : decode cX4_stored 15 = .ok (.getfield 74, 3) := by decide +kernel
theorem dX4_stored_18 : decode cX4_stored 18 = .ok (.aload_n 0, 1) := by decide +kernel
theorem dX4_stored_19 : decode cX4_stored 19 = .ok (.getfield 15, 3) := by decide +kernel
theorem dX4_stored_22 : decode cX4_stored 22 = .ok (.getfield 77, 3) := by decide +kernel
theorem dX4_stored_25 : decode cX4_stored 25 = .ok (.invokevirtual 78, 3) := by decide +kernel
theorem dX4_stored_28 : decode cX4_stored 28 = .ok (.imul, 1) := by decide +kernel
theorem dX4_stored_29 : decode cX4_stored 29 = .ok (.aload_n 0, 1) := by decide +kernel
theorem dX4_stored_30 : decode cX4_stored 30 = .ok (.getfield 9, 3) := by decide +kernel
theorem dX4_stored_33 : decode cX4_stored 33 = .ok (.aload_n 0, 1) := by decide +kernel
theorem dX4_stored_34 : decode cX4_stored 34 = .ok (.getfield 24, 3) := by decide +kernel
theorem dX4_stored_37 : decode cX4_stored 37 = .ok (.getfield 74, 3) := by decide +kernel
theorem dX4_stored_40 : decode cX4_stored 40 = .ok (.invokevirtual 82, 3) := by decide +kernel
theorem dX4_stored_43 : decode cX4_stored 43 = .ok (.iadd, 1) := by decide +kernel
theorem dX4_stored_44 : decode cX4_stored 44 = .ok (.ireturn, 1) := by decide +kernel
theorem dX5_init_0 : decode cX5_init 0 = .ok (.aload_n 0, 1) := by decide +kernel
theorem dX5_init_1 : decode cX5_init 1 = .ok (.aload_n 1, 1) := by decide +kernel
theorem dX5_init_2 : decode cX5_init 2 = .ok (.invokespecial 3, 3) := by decide +kernel
theorem dX5_init_5 : decode cX5_init 5 = .ok (.aload_n 0, 1) := by decide +kernel
theorem dX5_init_6 : decode cX5_init 6 = .ok (.iload_n 2, 1) := by decide +kernel
theorem dX5_init_7 : decode cX5_init 7 = .ok (.putfield 9, 3) := by decide +kernel
theorem dX5_init_10 : decode cX5_init 10 = .ok (.return_, 1) := by decide +kernel
theorem dX5_meet_0 : decode cX5_meet 0 = .ok (.aload_n 0, 1) := by decide +kernel
theorem dX5_meet_1 : decode cX5_meet 1 = .ok (.getfield 15, 3) := by decide +kernel
theorem dX5_meet_4 : decode cX5_meet 4 = .ok (.getfield 19, 3) := by decide +kernel
theorem dX5_meet_7 : decode cX5_meet 7 = .ok (.iload_n 1, 1) := by decide +kernel
theorem dX5_meet_8 : decode cX5_meet 8 = .ok (.iaload, 1) := by decide +kernel
theorem dX5_meet_9 : decode cX5_meet 9 = .ok (.istore_n 3, 1) := by decide +kernel
theorem dX5_meet_10 : decode cX5_meet 10 = .ok (.aload_n 0, 1) := by decide +kernel
theorem dX5_meet_11 : decode cX5_meet 11 = .ok (.getfield 9, 3) := by decide +kernel
theorem dX5_meet_14 : decode cX5_meet 14 = .ok (.ifCond .eq 12, 3) := by decide +kernel
theorem dX5_meet_17 : decode cX5_meet 17 = .ok (.iload_n 2, 1) := by decide +kernel
theorem dX5_meet_18 : decode cX5_meet 18 = .ok (.iconst (-1), 1) := by decide +kernel
theorem dX5_meet_19 : decode cX5_meet 19 = .ok (.if_icmp .eq 7, 3) := by decide +kernel
theorem dX5_meet_22 : decode cX5_meet 22 = .ok (.iconst 1, 1) := by decide +kernel
theorem dX5_meet_23 : decode cX5_meet 23 = .ok (.goto 4, 3) := by decide +kernel
theorem dX5_meet_26 : decode cX5_meet 26 = .ok (.iconst 0, 1) := by decide +kernel
theorem dX5_meet_27 : decode cX5_meet 27 = .ok (.istore 4, 2) := by decide +kernel
theorem dX5_meet_29 : decode cX5_meet 29 = .ok (.aload_n 0, 1) := by decide +kernel
theorem dX5_meet_30 : decode cX5_meet 30 = .ok (.iload 4, 2) := by decide +kernel
theorem dX5_meet_32 : decode cX5_meet 32 = .ok (.ifCond .eq 7, 3) := by decide +kernel
theorem dX5_meet_35 : decode cX5_meet 35 = .ok (.iload_n 2, 1) := by decide +kernel
theorem dX5_meet_36 : decode cX5_meet 36 = .ok (.goto 8, 3) := by decide +kernel
theorem dX5_meet_39 : decode cX5_meet 39 = .ok (.aload_n 0, 1) := by decide +kernel
theorem dX5_meet_40 : decode cX5_meet 40 = .ok (.iload_n 3, 1) := by decide +kernel
theorem dX5_meet_41 : decode cX5_meet 41 = .ok (.invokevirtual 25, 3) := by decide +kernel
theorem dX5_meet_44 : decode cX5_meet 44 = .ok (.iload_n 3, 1) := by decide +kernel
theorem dX5_meet_45 : decode cX5_meet 45 = .ok (.invokevirtual 29, 3) := by decide +kernel
theorem dX5_meet_48 : decode cX5_meet 48 = .ok (.return_, 1) := by decide +kernel
theorem dX5_nearestTo_0 : decode cX5_nearestTo 0 = .ok (.iconst 0, 1) := by decide +kernel
theorem dX5_nearestTo_1 : decode cX5_nearestTo 1 = .ok (.istore_n 2, 1) := by decide +kernel
theorem dX5_nearestTo_2 : decode cX5_nearestTo 2 = .ok (.iconst 1, 1) := by decide +kernel
theorem dX5_nearestTo_3 : decode cX5_nearestTo 3 = .ok (.istore_n 3, 1) := by decide +kernel
theorem dX5_nearestTo_4 : decode cX5_nearestTo 4 = .ok (.iload_n 3, 1) := by decide +kernel
theorem dX5_nearestTo_5 : decode cX5_nearestTo 5 = .ok (.aload_n 0, 1) := by decide +kernel
theorem dX5_nearestTo_6 : decode cX5_nearestTo 6 = .ok (.getfield 15, 3) := by decide +kernel
theorem dX5_nearestTo_9 : decode cX5_nearestTo 9 = .ok (.getfield 33, 3) := by decide +kernel
theorem dX5_nearestTo_12 : decode cX5_nearestTo 12 = .ok (.if_icmp .ge 36, 3) := by decide +kernel
theorem dX5_nearestTo_15 : decode cX5_nearestTo 15 = .ok (.aload_n 0, 1) := by decide +kernel
theorem dX5_nearestTo_16 : decode cX5_nearestTo 16 = .ok (.getfield 37, 3) := by decide +kernel
theorem dX5_nearestTo_19 : decode cX5_nearestTo 19 = .ok (.iload_n 3, 1) := by decide +kernel
theorem dX5_nearestTo_20 : decode cX5_nearestTo 20 = .ok (.iaload, 1) := by decide +kernel
theorem dX5_nearestTo_21 : decode cX5_nearestTo 21 = .ok (.iload_n 1, 1) := by decide +kernel
theorem dX5_nearestTo_22 : decode cX5_nearestTo 22 = .ok (.isub, 1) := by decide +kernel
theorem dX5_nearestTo_23 : decode cX5_nearestTo 23 = .ok (.invokestatic 40, 3) := by decide +kernel
theorem dX5_nearestTo_26 : decode cX5_nearestTo 26 = .ok (.aload_n 0, 1) := by decide +kernel
theorem dX5_nearestTo_27 : decode cX5_nearestTo 27 = .ok (.getfield 37, 3) := by decide +kernel
theorem dX5_nearestTo_30 : decode cX5_nearestTo 30 = .ok (.iload_n 2, 1) := by decide +kernel
theorem dX5_nearestTo_31 : decode cX5_nearestTo 31 = .ok (.iaload, 1) := by decide +kernel
theorem dX5_nearestTo_32 : decode cX5_nearestTo 32 = .ok (.iload_n 1, 1) := by decide +kernel
theorem dX5_nearestTo_33 : decode cX5_nearestTo 33 = .ok (.isub, 1) := by decide +kernel
theorem dX5_nearestTo_34 : decode cX5_nearestTo 34 = .ok (.invokestatic 40, 3) := by decide +kernel
theorem dX5_nearestTo_37 : decode cX5_nearestTo 37 = .ok (.if_icmp .ge 5, 3) := by decide +kernel
theorem dX5_nearestTo_40 : decode cX5_nearestTo 40 = .ok (.iload_n 3, 1) := by decide +kernel
theorem dX5_nearestTo_41 : decode cX5_nearestTo 41 = .ok (.istore_n 2, 1) := by decide +kernel
theorem dX5_nearestTo_42 : decode cX5_nearestTo 42 = .ok (.iinc 3 1, 3) := by decide +kernel
theorem dX5_nearestTo_45 : decode cX5_nearestTo 45 = .ok (.goto (-41), 3) := by decide +kernel
theorem dX5_nearestTo_48 : decode cX5_nearestTo 48 = .ok (.iload_n 2, 1) := by decide +kernel
theorem dX5_nearestTo_49 : decode cX5_nearestTo 49 = .ok (.ireturn, 1) := by decide +kernel
theorem dX6_init_0 : decode cX6_init 0 = .ok (.aload_n 0, 1) := by decide +kernel
theorem dX6_init_1 : decode cX6_init 1 = .ok (.invokespecial 3, 3) := by decide +kernel
theorem dX6_init_4 : decode cX6_init 4 = .ok (.aload_n 0, 1) := by decide +kernel
theorem dX6_init_5 : decode cX6_init 5 = .ok (.bipush 40, 2) := by decide +kernel
theorem dX6_init_7 : decode cX6_init 7 = .ok (.newarray .int, 2) := by decide +kernel
theorem dX6_init_9 : decode cX6_init 9 = .ok (.putfield 9, 3) := by decide +kernel
theorem dX6_init_12 : decode cX6_init 12 = .ok (.aload_n 0, 1) := by decide +kernel
theorem dX6_init_13 : decode cX6_init 13 = .ok (.bipush 40, 2) := by decide +kernel
theorem dX6_init_15 : decode cX6_init 15 = .ok (.newarray .int, 2) := by decide +kernel
theorem dX6_init_17 : decode cX6_init 17 = .ok (.putfield 15, 3) := by decide +kernel
theorem dX6_init_20 : decode cX6_init 20 = .ok (.return_, 1) := by decide +kernel
theorem dX6_read_0 : decode cX6_read 0 = .ok (.aload_n 0, 1) := by decide +kernel
theorem dX6_read_1 : decode cX6_read 1 = .ok (.iconst 0, 1) := by decide +kernel
theorem dX6_read_2 : decode cX6_read 2 = .ok (.putfield 18, 3) := by decide +kernel
theorem dX6_read_5 : decode cX6_read 5 = .ok (.aload_n 1, 1) := by decide +kernel
theorem dX6_read_6 : decode cX6_read 6 = .ok (.iconst 0, 1) := by decide +kernel
theorem dX6_read_7 : decode cX6_read 7 = .ok (.invokevirtual 22, 3) := by decide +kernel
theorem dX6_read_10 : decode cX6_read 10 = .ok (.ifCond .eq 5, 3) := by decide +kernel
theorem dX6_read_13 : decode cX6_read 13 = .ok (.iconst 0, 1) := by decide +kernel
theorem dX6_read_14 : decode cX6_read 14 = .ok (.ireturn, 1) := by decide +kernel
theorem dX6_read_15 : decode cX6_read 15 = .ok (.iconst 0, 1) := by decide +kernel
theorem dX6_read_16 : decode cX6_read 16 = .ok (.istore_n 3, 1) := by decide +kernel
theorem dX6_read_17 : decode cX6_read 17 = .ok (.iload_n 3, 1) := by decide +kernel
theorem dX6_read_18 : decode cX6_read 18 = .ok (.aload_n 1, 1) := by decide +kernel
theorem dX6_read_19 : decode cX6_read 19 = .ok (.getfield 28, 3) := by decide +kernel
theorem dX6_read_22 : decode cX6_read 22 = .ok (.iconst 0, 1) := by decide +kernel
theorem dX6_read_23 : decode cX6_read 23 = .ok (.iaload, 1) := by decide +kernel
theorem dX6_read_24 : decode cX6_read 24 = .ok (.if_icmp .ge 73, 3) := by decide +kernel
theorem dX6_read_27 : decode cX6_read 27 = .ok (.aload_n 1, 1) := by decide +kernel
theorem dX6_read_28 : decode cX6_read 28 = .ok (.getfield 31, 3) := by decide +kernel
theorem dX6_read_31 : decode cX6_read 31 = .ok (.iconst 0, 1) := by decide +kernel
theorem dX6_read_32 : decode cX6_read 32 = .ok (.aaload, 1) := by decide +kernel
theorem dX6_read_33 : decode cX6_read 33 = .ok (.iload_n 3, 1) := by decide +kernel
theorem dX6_read_34 : decode cX6_read 34 = .ok (.iaload, 1) := by decide +kernel
theorem dX6_read_35 : decode cX6_read 35 = .ok (.istore 4, 2) := by decide +kernel
theorem dX6_read_37 : decode cX6_read 37 = .ok (.iload 4, 2) := by decide +kernel
theorem dX6_read_39 : decode cX6_read 39 = .ok (.iconst 0, 1) := by decide +kernel
theorem dX6_read_40 : decode cX6_read 40 = .ok (.aload_n 2, 1) := by decide +kernel
theorem dX6_read_41 : decode cX6_read 41 = .ok (.getfield 35, 3) := by decide +kernel
theorem dX6_read_44 : decode cX6_read 44 = .ok (.iconst 1, 1) := by decide +kernel
theorem dX6_read_45 : decode cX6_read 45 = .ok (.isub, 1) := by decide +kernel
theorem dX6_read_46 : decode cX6_read 46 = .ok (.invokestatic 40, 3) := by decide +kernel
theorem dX6_read_49 : decode cX6_read 49 = .ok (.ifCond .eq 42, 3) := by decide +kernel
theorem dX6_read_52 : decode cX6_read 52 = .ok (.aload_n 0, 1) := by decide +kernel
theorem dX6_read_53 : decode cX6_read 53 = .ok (.getfield 9, 3) := by decide +kernel
theorem dX6_read_56 : decode cX6_read 56 = .ok (.aload_n 0, 1) := by decide +kernel
theorem dX6_read_57 : decode cX6_read 57 = .ok (.getfield 18, 3) := by decide +kernel
theorem dX6_read_60 : decode cX6_read 60 = .ok (.iload 4, 2) := by decide +kernel
theorem dX6_read_62 : decode cX6_read 62 = .ok (.iastore, 1) := by decide +kernel
theorem dX6_read_63 : decode cX6_read 63 = .ok (.aload_n 0, 1) := by decide +kernel
theorem dX6_read_64 : decode cX6_read 64 = .ok (.getfield 15, 3) := by decide +kernel
theorem dX6_read_67 : decode cX6_read 67 = .ok (.aload_n 0, 1) := by decide +kernel
theorem dX6_read_68 : decode cX6_read 68 = .ok (.getfield 18, 3) := by decide +kernel
theorem dX6_read_71 : decode cX6_read 71 = .ok (.aload_n 1, 1) := by decide +kernel
theorem dX6_read_72 : decode cX6_read 72 = .ok (.aload_n 2, 1) := by decide +kernel
theorem dX6_read_73 : decode cX6_read 73 = .ok (.aload_n 0, 1) := by decide +kernel
theorem dX6_read_74 : decode cX6_read 74 = .ok (.getfield 18, 3) := by decide +kernel
theorem dX6_read_77 : decode cX6_read 77 = .ok (.invokestatic 44, 3) := by decide +kernel
theorem dX6_read_80 : decode cX6_read 80 = .ok (.iastore, 1) := by decide +kernel
theorem dX6_read_81 : decode cX6_read 81 = .ok (.aload_n 0, 1) := by decide +kernel
theorem dX6_read_82 : decode cX6_read 82 = .ok (.dup, 1) := by decide +kernel
theorem dX6_read_83 : decode cX6_read 83 = .ok (.getfield 18, 3) := by decide +kernel
theorem dX6_read_86 : decode cX6_read 86 = .ok (.iconst 1, 1) := by decide +kernel
theorem dX6_read_87 : decode cX6_read 87 = .ok (.iadd, 1) := by decide +kernel
theorem dX6_read_88 : decode cX6_read 88 = .ok (.putfield 18, 3) := by decide +kernel
theorem dX6_read_91 : decode cX6_read 91 = .ok (.iinc 3 1, 3) := by decide +kernel
theorem dX6_read_94 : decode cX6_read 94 = .ok (.goto (-77), 3) := by decide +kernel
theorem dX6_read_97 : decode cX6_read 97 = .ok (.iconst 1, 1) := by decide +kernel
theorem dX6_read_98 : decode cX6_read 98 = .ok (.ireturn, 1) := by decide +kernel
theorem dX6_hintAt_0 : decode cX6_hintAt 0 = .ok (.aload_n 0, 1) := by decide +kernel
theorem dX6_hintAt_1 : decode cX6_hintAt 1 = .ok (.iconst 1, 1) := by decide +kernel
theorem dX6_hintAt_2 : decode cX6_hintAt 2 = .ok (.invokevirtual 22, 3) := by decide +kernel
theorem dX6_hintAt_5 : decode cX6_hintAt 5 = .ok (.ifCond .ne 13, 3) := by decide +kernel
theorem dX6_hintAt_8 : decode cX6_hintAt 8 = .ok (.iload_n 2, 1) := by decide +kernel
theorem dX6_hintAt_9 : decode cX6_hintAt 9 = .ok (.aload_n 0, 1) := by decide +kernel
theorem dX6_hintAt_10 : decode cX6_hintAt 10 = .ok (.getfield 28, 3) := by decide +kernel
theorem dX6_hintAt_13 : decode cX6_hintAt 13 = .ok (.iconst 1, 1) := by decide +kernel
theorem dX6_hintAt_14 : decode cX6_hintAt 14 = .ok (.iaload, 1) := by decide +kernel
theorem dX6_hintAt_15 : decode cX6_hintAt 15 = .ok (.if_icmp .lt 5, 3) := by decide +kernel
theorem dX6_hintAt_18 : decode cX6_hintAt 18 = .ok (.iconst (-1), 1) := by decide +kernel
theorem dX6_hintAt_19 : decode cX6_hintAt 19 = .ok (.ireturn, 1) := by decide +kernel
theorem dX6_hintAt_20 : decode cX6_hintAt 20 = .ok (.aload_n 0, 1) := by decide +kernel
theorem dX6_hintAt_21 : decode cX6_hintAt 21 = .ok (.getfield 31, 3) := by decide +kernel
theorem dX6_hintAt_24 : decode cX6_hintAt 24 = .ok (.iconst 1, 1) := by decide +kernel
theorem dX6_hintAt_25 : decode cX6_hintAt 25 = .ok (.aaload, 1) := by decide +kernel
theorem dX6_hintAt_26 : decode cX6_hintAt 26 = .ok (.iload_n 2, 1) := by decide +kernel
theorem dX6_hintAt_27 : decode cX6_hintAt 27 = .ok (.iaload, 1) := by decide +kernel
theorem dX6_hintAt_28 : decode cX6_hintAt 28 = .ok (.istore_n 3, 1) := by decide +kernel
theorem dX6_hintAt_29 : decode cX6_hintAt 29 = .ok (.iload_n 3, 1) := by decide +kernel
theorem dX6_hintAt_30 : decode cX6_hintAt 30 = .ok (.iconst 0, 1) := by decide +kernel
theorem dX6_hintAt_31 : decode cX6_hintAt 31 = .ok (.aload_n 1, 1) := by decide +kernel
theorem dX6_hintAt_32 : decode cX6_hintAt 32 = .ok (.getfield 48, 3) := by decide +kernel
theorem dX6_hintAt_35 : decode cX6_hintAt 35 = .ok (.iconst 1, 1) := by decide +kernel
theorem dX6_hintAt_36 : decode cX6_hintAt 36 = .ok (.isub, 1) := by decide +kernel
theorem dX6_hintAt_37 : decode cX6_hintAt 37 = .ok (.invokestatic 40, 3) := by decide +kernel
theorem dX6_hintAt_40 : decode cX6_hintAt 40 = .ok (.ifCond .eq 7, 3) := by decide +kernel
theorem dX6_hintAt_43 : decode cX6_hintAt 43 = .ok (.iload_n 3, 1) := by decide +kernel
theorem dX6_hintAt_44 : decode cX6_hintAt 44 = .ok (.goto 4, 3) := by decide +kernel
theorem dX6_hintAt_47 : decode cX6_hintAt 47 = .ok (.iconst (-1), 1) := by decide +kernel
theorem dX6_hintAt_48 : decode cX6_hintAt 48 = .ok (.ireturn, 1) := by decide +kernel
theorem dX6_lead_0 : decode cX6_lead 0 = .ok (.iload_n 2, 1) := by decide +kernel
theorem dX6_lead_1 : decode cX6_lead 1 = .ok (.aload_n 0, 1) := by decide +kernel
theorem dX6_lead_2 : decode cX6_lead 2 = .ok (.getfield 18, 3) := by decide +kernel
theorem dX6_lead_5 : decode cX6_lead 5 = .ok (.invokestatic 51, 3) := by decide +kernel
theorem dX6_lead_8 : decode cX6_lead 8 = .ok (.istore_n 3, 1) := by decide +kernel
theorem dX6_lead_9 : decode cX6_lead 9 = .ok (.aload_n 1, 1) := by decide +kernel
theorem dX6_lead_10 : decode cX6_lead 10 = .ok (.invokevirtual 57, 3) := by decide +kernel
theorem dX6_lead_13 : decode cX6_lead 13 = .ok (.iconst 0, 1) := by decide +kernel
theorem dX6_lead_14 : decode cX6_lead 14 = .ok (.istore 4, 2) := by decide +kernel
theorem dX6_lead_16 : decode cX6_lead 16 = .ok (.iload 4, 2) := by decide +kernel
theorem dX6_lead_18 : decode cX6_lead 18 = .ok (.iload_n 3, 1) := by decide +kernel
theorem dX6_lead_19 : decode cX6_lead 19 = .ok (.if_icmp .ge 27, 3) := by decide +kernel
theorem dX6_lead_22 : decode cX6_lead 22 = .ok (.aload_n 1, 1) := by decide +kernel
theorem dX6_lead_23 : decode cX6_lead 23 = .ok (.aload_n 0, 1) := by decide +kernel
theorem dX6_lead_24 : decode cX6_lead 24 = .ok (.getfield 9, 3) := by decide +kernel
theorem dX6_lead_27 : decode cX6_lead 27 = .ok (.iload 4, 2) := by decide +kernel
theorem dX6_lead_29 : decode cX6_lead 29 = .ok (.iaload, 1) := by decide +kernel
theorem dX6_lead_30 : decode cX6_lead 30 = .ok (.aload_n 0, 1) := by decide +kernel
theorem dX6_lead_31 : decode cX6_lead 31 = .ok (.getfield 15, 3) := by decide +kernel
theorem dX6_lead_34 : decode cX6_lead 34 = .ok (.iload 4, 2) := by decide +kernel
theorem dX6_lead_36 : decode cX6_lead 36 = .ok (.iaload, 1) := by decide +kernel
theorem dX6_lead_37 : decode cX6_lead 37 = .ok (.invokevirtual 62, 3) := by decide +kernel
theorem dX6_lead_40 : decode cX6_lead 40 = .ok (.iinc 4 1, 3) := by decide +kernel
theorem dX6_lead_43 : decode cX6_lead 43 = .ok (.goto (-27), 3) := by decide +kernel
theorem dX6_lead_46 : decode cX6_lead 46 = .ok (.aload_n 1, 1) := by decide +kernel
theorem dX6_lead_47 : decode cX6_lead 47 = .ok (.getfield 66, 3) := by decide +kernel
theorem dX6_lead_50 : decode cX6_lead 50 = .ok (.ireturn, 1) := by decide +kernel
theorem dX7_init_0 : decode cX7_init 0 = .ok (.aload_n 0, 1) := by decide +kernel
theorem dX7_init_1 : decode cX7_init 1 = .ok (.invokespecial 3, 3) := by decide +kernel
theorem dX7_init_4 : decode cX7_init 4 = .ok (.aload_n 0, 1) := by decide +kernel
theorem dX7_init_5 : decode cX7_init 5 = .ok (.iconst 3, 1) := by decide +kernel
theorem dX7_init_6 : decode cX7_init 6 = .ok (.newarray .int, 2) := by decide +kernel
theorem dX7_init_8 : decode cX7_init 8 = .ok (.putfield 9, 3) := by decide +kernel
theorem dX7_init_11 : decode cX7_init 11 = .ok (.aload_n 0, 1) := by decide +kernel
theorem dX7_init_12 : decode cX7_init 12 = .ok (.iconst (-1), 1) := by decide +kernel
theorem dX7_init_13 : decode cX7_init 13 = .ok (.putfield 15, 3) := by decide +kernel
theorem dX7_init_16 : decode cX7_init 16 = .ok (.aload_n 0, 1) := by decide +kernel
theorem dX7_init_17 : decode cX7_init 17 = .ok (.aload_n 1, 1) := by decide +kernel
theorem dX7_init_18 : decode cX7_init 18 = .ok (.putfield 19, 3) := by decide +kernel
theorem dX7_init_21 : decode cX7_init 21 = .ok (.return_, 1) := by decide +kernel
theorem dX7_begin_0 : decode cX7_begin 0 = .ok (.aload_n 0, 1) := by decide +kernel
theorem dX7_begin_1 : decode cX7_begin 1 = .ok (.invokevirtual 23, 3) := by decide +kernel
theorem dX7_begin_4 : decode cX7_begin 4 = .ok (.return_, 1) := by decide +kernel
theorem dX7_standAtStart_0 : decode cX7_standAtStart 0 = .ok (.iconst 0, 1) := by decide +kernel
theorem dX7_standAtStart_1 : decode cX7_standAtStart 1 = .ok (.istore_n 1, 1) := by decide +kernel
theorem dX7_standAtStart_2 : decode cX7_standAtStart 2 = .ok (.iload_n 1, 1) := by decide +kernel
theorem dX7_standAtStart_3 : decode cX7_standAtStart 3 = .ok (.iconst 3, 1) := by decide +kernel
theorem dX7_standAtStart_4 : decode cX7_standAtStart 4 = .ok (.if_icmp .ge 32, 3) := by decide +kernel
theorem dX7_standAtStart_7 : decode cX7_standAtStart 7 = .ok (.aload_n 0, 1) := by decide +kernel
theorem dX7_standAtStart_8 : decode cX7_standAtStart 8 = .ok (.getfield 9, 3) := by decide +kernel
theorem dX7_standAtStart_11 : decode cX7_standAtStart 11 = .ok (.iload_n 1, 1) := by decide +kernel
theorem dX7_standAtStart_12 : decode cX7_standAtStart 12 = .ok (.aload_n 0, 1) := by decide +kernel
theorem dX7_standAtStart_13 : decode cX7_standAtStart 13 = .ok (.getfield 19, 3) := by decide +kernel
theorem dX7_standAtStart_16 : decode cX7_standAtStart 16 = .ok (.getfield 26, 3) := by decide +kernel
theorem dX7_standAtStart_19 : decode cX7_standAtStart 19 = .ok (.aload_n 0, 1) := by decide +kernel
theorem dX7_standAtStart_20 : decode cX7_standAtStart 20 = .ok (.getfield 19, 3) := by decide +kernel
theorem dX7_standAtStart_23 : decode cX7_standAtStart 23 = .ok (.getfield 31, 3) := by decide +kernel
theorem dX7_standAtStart_26 : decode cX7_standAtStart 26 = .ok (.iload_n 1, 1) := by decide +kernel
theorem dX7_standAtStart_27 : decode cX7_standAtStart 27 = .ok (.iaload, 1) := by decide +kernel
theorem dX7_standAtStart_28 : decode cX7_standAtStart 28 = .ok (.iaload, 1) := by decide +kernel
theorem dX7_standAtStart_29 : decode cX7_standAtStart 29 = .ok (.iastore, 1) := by decide +kernel
theorem dX7_standAtStart_30 : decode cX7_standAtStart 30 = .ok (.iinc 1 1, 3) := by decide +kernel
theorem dX7_standAtStart_33 : decode cX7_standAtStart 33 = .ok (.goto (-31), 3) := by decide +kernel
theorem dX7_standAtStart_36 : decode cX7_standAtStart 36 = .ok (.aload_n 0, 1) := by decide +kernel
theorem dX7_standAtStart_37 : decode cX7_standAtStart 37 = .ok (.iconst 0, 1) := by decide +kernel
theorem dX7_standAtStart_38 : decode cX7_standAtStart 38 = .ok (.putfield 34, 3) := by decide +kernel
theorem dX7_standAtStart_41 : decode cX7_standAtStart 41 = .ok (.aload_n 0, 1) := by decide +kernel
theorem dX7_standAtStart_42 : decode cX7_standAtStart 42 = .ok (.iconst (-1), 1) := by decide +kernel
theorem dX7_standAtStart_43 : decode cX7_standAtStart 43 = .ok (.putfield 15, 3) := by decide +kernel
theorem dX7_standAtStart_46 : decode cX7_standAtStart 46 = .ok (.return_, 1) := by decide +kernel
theorem dX7_send_0 : decode cX7_send 0 = .ok (.aload_n 0, 1) := by decide +kernel
theorem dX7_send_1 : decode cX7_send 1 = .ok (.dup, 1) := by decide +kernel
theorem dX7_send_2 : decode cX7_send 2 = .ok (.getfield 34, 3) := by decide +kernel
theorem dX7_send_5 : decode cX7_send 5 = .ok (.aload_n 0, 1) := by decide +kernel
theorem dX7_send_6 : decode cX7_send 6 = .ok (.getfield 9, 3) := by decide +kernel
theorem dX7_send_9 : decode cX7_send 9 = .ok (.iload_n 1, 1) := by decide +kernel
theorem dX7_send_10 : decode cX7_send 10 = .ok (.iaload, 1) := by decide +kernel
theorem dX7_send_11 : decode cX7_send 11 = .ok (.iload_n 2, 1) := by decide +kernel
theorem dX7_send_12 : decode cX7_send 12 = .ok (.isub, 1) := by decide +kernel
theorem dX7_send_13 : decode cX7_send 13 = .ok (.invokestatic 37, 3) := by decide +kernel
theorem dX7_send_16 : decode cX7_send 16 = .ok (.iadd, 1) := by decide +kernel
theorem dX7_send_17 : decode cX7_send 17 = .ok (.putfield 34, 3) := by decide +kernel
theorem dX7_send_20 : decode cX7_send 20 = .ok (.aload_n 0, 1) := by decide +kernel
theorem dX7_send_21 : decode cX7_send 21 = .ok (.getfield 9, 3) := by decide +kernel
theorem dX7_send_24 : decode cX7_send 24 = .ok (.iload_n 1, 1) := by decide +kernel
theorem dX7_send_25 : decode cX7_send 25 = .ok (.iload_n 2, 1) := by decide +kernel
theorem dX7_send_26 : decode cX7_send 26 = .ok (.iastore, 1) := by decide +kernel
theorem dX7_send_27 : decode cX7_send 27 = .ok (.aload_n 0, 1) := by decide +kernel
theorem dX7_send_28 : decode cX7_send 28 = .ok (.iload_n 1, 1) := by decide +kernel
theorem dX7_send_29 : decode cX7_send 29 = .ok (.putfield 15, 3) := by decide +kernel
theorem dX7_send_32 : decode cX7_send 32 = .ok (.return_, 1) := by decide +kernel
theorem dX8_init_0 : decode cX8_init 0 = .ok (.aload_n 0, 1) := by decide +kernel
theorem dX8_init_1 : decode cX8_init 1 = .ok (.invokespecial 3, 3) := by decide +kernel
theorem dX8_init_4 : decode cX8_init 4 = .ok (.aload_n 0, 1) := by decide +kernel
theorem dX8_init_5 : decode cX8_init 5 = .ok (.iconst 4, 1) := by decide +kernel
theorem dX8_init_6 : decode cX8_init 6 = .ok (.bipush 40, 2) := by decide +kernel
theorem dX8_init_8 : decode cX8_init 8 = .ok (.multianewarray 9 2, 4) := by decide +kernel
theorem dX8_init_12 : decode cX8_init 12 = .ok (.putfield 11, 3) := by decide +kernel
theorem dX8_init_15 : decode cX8_init 15 = .ok (.aload_n 0, 1) := by decide +kernel
theorem dX8_init_16 : decode cX8_init 16 = .ok (.iconst 4, 1) := by decide +kernel
theorem dX8_init_17 : decode cX8_init 17 = .ok (.newarray .int, 2) := by decide +kernel
theorem dX8_init_19 : decode cX8_init 19 = .ok (.dup, 1) := by decide +kernel
theorem dX8_init_20 : decode cX8_init 20 = .ok (.iconst 0, 1) := by decide +kernel
theorem dX8_init_21 : decode cX8_init 21 = .ok (.iconst (-1), 1) := by decide +kernel
theorem dX8_init_22 : decode cX8_init 22 = .ok (.iastore, 1) := by decide +kernel
theorem dX8_init_23 : decode cX8_init 23 = .ok (.dup, 1) := by decide +kernel
theorem dX8_init_24 : decode cX8_init 24 = .ok (.iconst 1, 1) := by decide +kernel
theorem dX8_init_25 : decode cX8_init 25 = .ok (.iconst (-1), 1) := by decide +kernel
theorem dX8_init_26 : decode cX8_init 26 = .ok (.iastore, 1) := by decide +kernel
theorem dX8_init_27 : decode cX8_init 27 = .ok (.dup, 1) := by decide +kernel
theorem dX8_init_28 : decode cX8_init 28 = .ok (.iconst 2, 1) := by decide +kernel
theorem dX8_init_29 : decode cX8_init 29 = .ok (.iconst (-1), 1) := by decide +kernel
theorem dX8_init_30 : decode cX8_init 30 = .ok (.iastore, 1) := by decide +kernel
theorem dX8_init_31 : decode cX8_init 31 = .ok (.dup, 1) := by decide +kernel
theorem dX8_init_32 : decode cX8_init 32 = .ok (.iconst 3, 1) := by decide +kernel
theorem dX8_init_33 : decode cX8_init 33 = .ok (.iconst (-1), 1) := by decide +kernel
theorem dX8_init_34 : decode cX8_init 34 = .ok (.iastore, 1) := by decide +kernel
theorem dX8_init_35 : decode cX8_init 35 = .ok (.putfield 16, 3) := by decide +kernel
theorem dX8_init_38 : decode cX8_init 38 = .ok (.aload_n 0, 1) := by decide +kernel
theorem dX8_init_39 : decode cX8_init 39 = .ok (.iconst 4, 1) := by decide +kernel
theorem dX8_init_40 : decode cX8_init 40 = .ok (.newarray .int, 2) := by decide +kernel
theorem dX8_init_42 : decode cX8_init 42 = .ok (.putfield 20, 3) := by decide +kernel
theorem dX8_init_45 : decode cX8_init 45 = .ok (.aload_n 0, 1) := by decide +kernel
theorem dX8_init_46 : decode cX8_init 46 = .ok (.iconst 0, 1) := by decide +kernel
theorem dX8_init_47 : decode cX8_init 47 = .ok (.putfield 23, 3) := by decide +kernel
theorem dX8_init_50 : decode cX8_init 50 = .ok (.return_, 1) := by decide +kernel
theorem dX8_found_0 : decode cX8_found 0 = .ok (.aload_n 0, 1) := by decide +kernel
theorem dX8_found_1 : decode cX8_found 1 = .ok (.iload_n 1, 1) := by decide +kernel
theorem dX8_found_2 : decode cX8_found 2 = .ok (.putfield 23, 3) := by decide +kernel
theorem dX8_found_5 : decode cX8_found 5 = .ok (.bipush (-10), 2) := by decide +kernel
theorem dX8_found_7 : decode cX8_found 7 = .ok (.iload_n 1, 1) := by decide +kernel
theorem dX8_found_8 : decode cX8_found 8 = .ok (.isub, 1) := by decide +kernel
theorem dX8_found_9 : decode cX8_found 9 = .ok (.ireturn, 1) := by decide +kernel
theorem dX8_isLost_0 : decode cX8_isLost 0 = .ok (.aload_n 0, 1) := by decide +kernel
theorem dX8_isLost_1 : decode cX8_isLost 1 = .ok (.getfield 16, 3) := by decide +kernel
theorem dX8_isLost_4 : decode cX8_isLost 4 = .ok (.iload_n 1, 1) := by decide +kernel
theorem dX8_isLost_5 : decode cX8_isLost 5 = .ok (.iaload, 1) := by decide +kernel
theorem dX8_isLost_6 : decode cX8_isLost 6 = .ok (.iconst (-1), 1) := by decide +kernel
theorem dX8_isLost_7 : decode cX8_isLost 7 = .ok (.if_icmp .ne 7, 3) := by decide +kernel
theorem dX8_isLost_10 : decode cX8_isLost 10 = .ok (.iconst 1, 1) := by decide +kernel
theorem dX8_isLost_11 : decode cX8_isLost 11 = .ok (.goto 4, 3) := by decide +kernel
theorem dX8_isLost_14 : decode cX8_isLost 14 = .ok (.iconst 0, 1) := by decide +kernel
theorem dX8_isLost_15 : decode cX8_isLost 15 = .ok (.ireturn, 1) := by decide +kernel
theorem dX8_keptCount_0 : decode cX8_keptCount 0 = .ok (.iconst 0, 1) := by decide +kernel
theorem dX8_keptCount_1 : decode cX8_keptCount 1 = .ok (.istore_n 1, 1) := by decide +kernel
theorem dX8_keptCount_2 : decode cX8_keptCount 2 = .ok (.iconst 0, 1) := by decide +kernel
theorem dX8_keptCount_3 : decode cX8_keptCount 3 = .ok (.istore_n 2, 1) := by decide +kernel
theorem dX8_keptCount_4 : decode cX8_keptCount 4 = .ok (.iload_n 2, 1) := by decide +kernel
theorem dX8_keptCount_5 : decode cX8_keptCount 5 = .ok (.iconst 4, 1) := by decide +kernel
theorem dX8_keptCount_6 : decode cX8_keptCount 6 = .ok (.if_icmp .ge 20, 3) := by decide +kernel
theorem dX8_keptCount_9 : decode cX8_keptCount 9 = .ok (.aload_n 0, 1) := by decide +kernel
theorem dX8_keptCount_10 : decode cX8_keptCount 10 = .ok (.iload_n 2, 1) := by decide +kernel
theorem dX8_keptCount_11 : decode cX8_keptCount 11 = .ok (.invokevirtual 27, 3) := by decide +kernel
theorem dX8_keptCount_14 : decode cX8_keptCount 14 = .ok (.ifCond .ne 6, 3) := by decide +kernel
theorem dX8_keptCount_17 : decode cX8_keptCount 17 = .ok (.iinc 1 1, 3) := by decide +kernel
theorem dX8_keptCount_20 : decode cX8_keptCount 20 = .ok (.iinc 2 1, 3) := by decide +kernel
theorem dX8_keptCount_23 : decode cX8_keptCount 23 = .ok (.goto (-19), 3) := by decide +kernel
theorem dX8_keptCount_26 : decode cX8_keptCount 26 = .ok (.iload_n 1, 1) := by decide +kernel
theorem dX8_keptCount_27 : decode cX8_keptCount 27 = .ok (.ireturn, 1) := by decide +kernel
theorem dX8_renew_0 : decode cX8_renew 0 = .ok (.aload_n 0, 1) := by decide +kernel
theorem dX8_renew_1 : decode cX8_renew 1 = .ok (.getfield 16, 3) := by decide +kernel
theorem dX8_renew_4 : decode cX8_renew 4 = .ok (.iload_n 1, 1) := by decide +kernel
theorem dX8_renew_5 : decode cX8_renew 5 = .ok (.iload_n 2, 1) := by decide +kernel
theorem dX8_renew_6 : decode cX8_renew 6 = .ok (.iastore, 1) := by decide +kernel
theorem dX8_renew_7 : decode cX8_renew 7 = .ok (.aload_n 0, 1) := by decide +kernel
theorem dX8_renew_8 : decode cX8_renew 8 = .ok (.getfield 20, 3) := by decide +kernel
theorem dX8_renew_11 : decode cX8_renew 11 = .ok (.iload_n 1, 1) := by decide +kernel
theorem dX8_renew_12 : decode cX8_renew 12 = .ok (.iload_n 3, 1) := by decide +kernel
theorem dX8_renew_13 : decode cX8_renew 13 = .ok (.iastore, 1) := by decide +kernel
theorem dX8_renew_14 : decode cX8_renew 14 = .ok (.iconst 0, 1) := by decide +kernel
theorem dX8_renew_15 : decode cX8_renew 15 = .ok (.istore 4, 2) := by decide +kernel
theorem dX8_renew_17 : decode cX8_renew 17 = .ok (.iload 4, 2) := by decide +kernel
theorem dX8_renew_19 : decode cX8_renew 19 = .ok (.bipush 40, 2) := by decide +kernel
theorem dX8_renew_21 : decode cX8_renew 21 = .ok (.if_icmp .ge 19, 3) := by decide +kernel
theorem dX8_renew_24 : decode cX8_renew 24 = .ok (.aload_n 0, 1) := by decide +kernel
theorem dX8_renew_25 : decode cX8_renew 25 = .ok (.getfield 11, 3) := by decide +kernel
theorem dX8_renew_28 : decode cX8_renew 28 = .ok (.iload_n 1, 1) := by decide +kernel
theorem dX8_renew_29 : decode cX8_renew 29 = .ok (.aaload, 1) := by decide +kernel
theorem dX8_renew_30 : decode cX8_renew 30 = .ok (.iload 4, 2) := by decide +kernel
theorem dX8_renew_32 : decode cX8_renew 32 = .ok (.iconst 0, 1) := by decide +kernel
theorem dX8_renew_33 : decode cX8_renew 33 = .ok (.iastore, 1) := by decide +kernel
theorem dX8_renew_34 : decode cX8_renew 34 = .ok (.iinc 4 1, 3) := by decide +kernel
theorem dX8_renew_37 : decode cX8_renew 37 = .ok (.goto (-20), 3) := by decide +kernel
theorem dX8_renew_40 : decode cX8_renew 40 = .ok (.return_, 1) := by decide +kernel
theorem dX8_drop_0 : decode cX8_drop 0 = .ok (.aload_n 0, 1) := by decide +kernel
theorem dX8_drop_1 : decode cX8_drop 1 = .ok (.getfield 16, 3) := by decide +kernel
theorem dX8_drop_4 : decode cX8_drop 4 = .ok (.iload_n 1, 1) := by decide +kernel
theorem dX8_drop_5 : decode cX8_drop 5 = .ok (.iconst (-1), 1) := by decide +kernel
theorem dX8_drop_6 : decode cX8_drop 6 = .ok (.iastore, 1) := by decide +kernel
theorem dX8_drop_7 : decode cX8_drop 7 = .ok (.aload_n 0, 1) := by decide +kernel
theorem dX8_drop_8 : decode cX8_drop 8 = .ok (.getfield 20, 3) := by decide +kernel
theorem dX8_drop_11 : decode cX8_drop 11 = .ok (.iload_n 1, 1) := by decide +kernel
theorem dX8_drop_12 : decode cX8_drop 12 = .ok (.iconst 0, 1) := by decide +kernel
theorem dX8_drop_13 : decode cX8_drop 13 = .ok (.iastore, 1) := by decide +kernel
theorem dX8_drop_14 : decode cX8_drop 14 = .ok (.return_, 1) := by decide +kernel
theorem dX8_hasItems_0 : decode cX8_hasItems 0 = .ok (.iload_n 2, 1) := by decide +kernel
theorem dX8_hasItems_1 : decode cX8_hasItems 1 = .ok (.ifCond .lt 23, 3) := by decide +kernel
theorem dX8_hasItems_4 : decode cX8_hasItems 4 = .ok (.iload_n 3, 1) := by decide +kernel
theorem dX8_hasItems_5 : decode cX8_hasItems 5 = .ok (.ifCond .lt 19, 3) := by decide +kernel
theorem dX8_hasItems_8 : decode cX8_hasItems 8 = .ok (.iload_n 2, 1) := by decide +kernel
theorem dX8_hasItems_9 : decode cX8_hasItems 9 = .ok (.aload_n 0, 1) := by decide +kernel
theorem dX8_hasItems_10 : decode cX8_hasItems 10 = .ok (.getfield 20, 3) := by decide +kernel
theorem dX8_hasItems_13 : decode cX8_hasItems 13 = .ok (.iload_n 1, 1) := by decide +kernel
theorem dX8_hasItems_14 : decode cX8_hasItems 14 = .ok (.iaload, 1) := by decide +kernel
theorem dX8_hasItems_15 : decode cX8_hasItems 15 = .ok (.iload_n 3, 1) := by decide +kernel
theorem dX8_hasItems_16 : decode cX8_hasItems 16 = .ok (.isub, 1) := by decide +kernel
theorem dX8_hasItems_17 : decode cX8_hasItems 17 = .ok (.if_icmp .gt 7, 3) := by decide +kernel
theorem dX8_hasItems_20 : decode cX8_hasItems 20 = .ok (.iconst 1, 1) := by decide +kernel
theorem dX8_hasItems_21 : decode cX8_hasItems 21 = .ok (.goto 4, 3) := by decide +kernel
theorem dX8_hasItems_24 : decode cX8_hasItems 24 = .ok (.iconst 0, 1) := by decide +kernel
theorem dX8_hasItems_25 : decode cX8_hasItems 25 = .ok (.ireturn, 1) := by decide +kernel
theorem dX8_write_0 : decode cX8_write 0 = .ok (.aload_n 0, 1) := by decide +kernel
theorem dX8_write_1 : decode cX8_write 1 = .ok (.getfield 11, 3) := by decide +kernel
theorem dX8_write_4 : decode cX8_write 4 = .ok (.iload_n 1, 1) := by decide +kernel
theorem dX8_write_5 : decode cX8_write 5 = .ok (.aaload, 1) := by decide +kernel
theorem dX8_write_6 : decode cX8_write 6 = .ok (.iload_n 2, 1) := by decide +kernel
theorem dX8_write_7 : decode cX8_write 7 = .ok (.aload_n 0, 1) := by decide +kernel
theorem dX8_write_8 : decode cX8_write 8 = .ok (.getfield 16, 3) := by decide +kernel
theorem dX8_write_11 : decode cX8_write 11 = .ok (.iload_n 1, 1) := by decide +kernel
theorem dX8_write_12 : decode cX8_write 12 = .ok (.iaload, 1) := by decide +kernel
theorem dX8_write_13 : decode cX8_write 13 = .ok (.iload_n 3, 1) := by decide +kernel
theorem dX8_write_14 : decode cX8_write 14 = .ok (.invokestatic 31, 3) := by decide +kernel
theorem dX8_write_17 : decode cX8_write 17 = .ok (.iastore, 1) := by decide +kernel
theorem dX8_write_18 : decode cX8_write 18 = .ok (.return_, 1) := by decide +kernel
theorem dX8_cut_0 : decode cX8_cut 0 = .ok (.iload_n 0, 1) := by decide +kernel
theorem dX8_cut_1 : decode cX8_cut 1 = .ok (.ifCond .ne 6, 3) := by decide +kernel
theorem dX8_cut_4 : decode cX8_cut 4 = .ok (.iload_n 1, 1) := by decide +kernel
theorem dX8_cut_5 : decode cX8_cut 5 = .ok (.i2b, 1) := by decide +kernel
theorem dX8_cut_6 : decode cX8_cut 6 = .ok (.ireturn, 1) := by decide +kernel
theorem dX8_cut_7 : decode cX8_cut 7 = .ok (.iload_n 0, 1) := by decide +kernel
theorem dX8_cut_8 : decode cX8_cut 8 = .ok (.iconst 1, 1) := by decide +kernel
theorem dX8_cut_9 : decode cX8_cut 9 = .ok (.if_icmp .ne 8, 3) := by decide +kernel
theorem dX8_cut_12 : decode cX8_cut 12 = .ok (.iload_n 1, 1) := by decide +kernel
theorem dX8_cut_13 : decode cX8_cut 13 = .ok (.i2s, 1) := by decide +kernel
theorem dX8_cut_14 : decode cX8_cut 14 = .ok (.goto 4, 3) := by decide +kernel
theorem dX8_cut_17 : decode cX8_cut 17 = .ok (.iload_n 1, 1) := by decide +kernel
theorem dX8_cut_18 : decode cX8_cut 18 = .ok (.ireturn, 1) := by decide +kernel
theorem dX9_init_0 : decode cX9_init 0 = .ok (.aload_n 0, 1) := by decide +kernel
theorem dX9_init_1 : decode cX9_init 1 = .ok (.aload_n 1, 1) := by decide +kernel
theorem dX9_init_2 : decode cX9_init 2 = .ok (.invokespecial 3, 3) := by decide +kernel
theorem dX9_init_5 : decode cX9_init 5 = .ok (.aload_n 0, 1) := by decide +kernel
theorem dX9_init_6 : decode cX9_init 6 = .ok (.bipush 56, 2) := by decide +kernel
theorem dX9_init_8 : decode cX9_init 8 = .ok (.newarray .int, 2) := by decide +kernel
theorem dX9_init_10 : decode cX9_init 10 = .ok (.putfield 9, 3) := by decide +kernel
theorem dX9_init_13 : decode cX9_init 13 = .ok (.aload_n 0, 1) := by decide +kernel
theorem dX9_init_14 : decode cX9_init 14 = .ok (.bipush 56, 2) := by decide +kernel
theorem dX9_init_16 : decode cX9_init 16 = .ok (.newarray .int, 2) := by decide +kernel
theorem dX9_init_18 : decode cX9_init 18 = .ok (.putfield 15, 3) := by decide +kernel
theorem dX9_init_21 : decode cX9_init 21 = .ok (.aload_n 0, 1) := by decide +kernel
theorem dX9_init_22 : decode cX9_init 22 = .ok (.iconst 3, 1) := by decide +kernel
theorem dX9_init_23 : decode cX9_init 23 = .ok (.newarray .int, 2) := by decide +kernel
theorem dX9_init_25 : decode cX9_init 25 = .ok (.putfield 18, 3) := by decide +kernel
theorem dX9_init_28 : decode cX9_init 28 = .ok (.aload_n 0, 1) := by decide +kernel
theorem dX9_init_29 : decode cX9_init 29 = .ok (.iconst 1, 1) := by decide +kernel
theorem dX9_init_30 : decode cX9_init 30 = .ok (.iload_n 2, 1) := by decide +kernel
theorem dX9_init_31 : decode cX9_init 31 = .ok (.invokestatic 21, 3) := by decide +kernel
theorem dX9_init_34 : decode cX9_init 34 = .ok (.newarray .int, 2) := by decide +kernel
theorem dX9_init_36 : decode cX9_init 36 = .ok (.putfield 27, 3) := by decide +kernel
theorem dX9_init_39 : decode cX9_init 39 = .ok (.return_, 1) := by decide +kernel
theorem dX9_begin_0 : decode cX9_begin 0 = .ok (.aload_n 0, 1) := by decide +kernel
theorem dX9_begin_1 : decode cX9_begin 1 = .ok (.invokevirtual 30, 3) := by decide +kernel
theorem dX9_begin_4 : decode cX9_begin 4 = .ok (.iconst 0, 1) := by decide +kernel
theorem dX9_begin_5 : decode cX9_begin 5 = .ok (.istore_n 1, 1) := by decide +kernel
theorem dX9_begin_6 : decode cX9_begin 6 = .ok (.iload_n 1, 1) := by decide +kernel
theorem dX9_begin_7 : decode cX9_begin 7 = .ok (.aload_n 0, 1) := by decide +kernel
theorem dX9_begin_8 : decode cX9_begin 8 = .ok (.getfield 34, 3) := by decide +kernel
theorem dX9_begin_11 : decode cX9_begin 11 = .ok (.getfield 38, 3) := by decide +kernel
theorem dX9_begin_14 : decode cX9_begin 14 = .ok (.if_icmp .ge 86, 3) := by decide +kernel
theorem dX9_begin_17 : decode cX9_begin 17 = .ok (.aload_n 0, 1) := by decide +kernel
theorem dX9_begin_18 : decode cX9_begin 18 = .ok (.getfield 34, 3) := by decide +kernel
theorem dX9_begin_21 : decode cX9_begin 21 = .ok (.getfield 44, 3) := by decide +kernel
theorem dX9_begin_24 : decode cX9_begin 24 = .ok (.iload_n 1, 1) := by decide +kernel
theorem dX9_begin_25 : decode cX9_begin 25 = .ok (.iaload, 1) := by decide +kernel
theorem dX9_begin_26 : decode cX9_begin 26 = .ok (.istore_n 2, 1) := by decide +kernel
theorem dX9_begin_27 : decode cX9_begin 27 = .ok (.iconst 0, 1) := by decide +kernel
theorem dX9_begin_28 : decode cX9_begin 28 = .ok (.istore_n 3, 1) := by decide +kernel
theorem dX9_begin_29 : decode cX9_begin 29 = .ok (.iload_n 3, 1) := by decide +kernel
theorem dX9_begin_30 : decode cX9_begin 30 = .ok (.aload_n 0, 1) := by decide +kernel
theorem dX9_begin_31 : decode cX9_begin 31 = .ok (.getfield 34, 3) := by decide +kernel
theorem dX9_begin_34 : decode cX9_begin 34 = .ok (.getfield 47, 3) := by decide +kernel
theorem dX9_begin_37 : decode cX9_begin 37 = .ok (.if_icmp .ge 28, 3) := by decide +kernel
theorem dX9_begin_40 : decode cX9_begin 40 = .ok (.aload_n 0, 1) := by decide +kernel
theorem dX9_begin_41 : decode cX9_begin 41 = .ok (.getfield 18, 3) := by decide +kernel
theorem dX9_begin_44 : decode cX9_begin 44 = .ok (.iload_n 3, 1) := by decide +kernel
theorem dX9_begin_45 : decode cX9_begin 45 = .ok (.aload_n 0, 1) := by decide +kernel
theorem dX9_begin_46 : decode cX9_begin 46 = .ok (.getfield 34, 3) := by decide +kernel
theorem dX9_begin_49 : decode cX9_begin 49 = .ok (.getfield 50, 3) := by decide +kernel
theorem dX9_begin_52 : decode cX9_begin 52 = .ok (.iload_n 2, 1) := by decide +kernel
theorem dX9_begin_53 : decode cX9_begin 53 = .ok (.iload_n 3, 1) := by decide +kernel
theorem dX9_begin_54 : decode cX9_begin 54 = .ok (.invokestatic 53, 3) := by decide +kernel
theorem dX9_begin_57 : decode cX9_begin 57 = .ok (.iaload, 1) := by decide +kernel
theorem dX9_begin_58 : decode cX9_begin 58 = .ok (.iastore, 1) := by decide +kernel
theorem dX9_begin_59 : decode cX9_begin 59 = .ok (.iinc 3 1, 3) := by decide +kernel
theorem dX9_begin_62 : decode cX9_begin 62 = .ok (.goto (-33), 3) := by decide +kernel
theorem dX9_begin_65 : decode cX9_begin 65 = .ok (.aload_n 0, 1) := by decide +kernel
theorem dX9_begin_66 : decode cX9_begin 66 = .ok (.getfield 9, 3) := by decide +kernel
theorem dX9_begin_69 : decode cX9_begin 69 = .ok (.aload_n 0, 1) := by decide +kernel
theorem dX9_begin_70 : decode cX9_begin 70 = .ok (.getfield 34, 3) := by decide +kernel
theorem dX9_begin_73 : decode cX9_begin 73 = .ok (.getfield 56, 3) := by decide +kernel
theorem dX9_begin_76 : decode cX9_begin 76 = .ok (.iload_n 2, 1) := by decide +kernel
theorem dX9_begin_77 : decode cX9_begin 77 = .ok (.iaload, 1) := by decide +kernel
theorem dX9_begin_78 : decode cX9_begin 78 = .ok (.aload_n 0, 1) := by decide +kernel
theorem dX9_begin_79 : decode cX9_begin 79 = .ok (.getfield 34, 3) := by decide +kernel
theorem dX9_begin_82 : decode cX9_begin 82 = .ok (.aload_n 0, 1) := by decide +kernel
theorem dX9_begin_83 : decode cX9_begin 83 = .ok (.getfield 59, 3) := by decide +kernel
theorem dX9_begin_86 : decode cX9_begin 86 = .ok (.aload_n 0, 1) := by decide +kernel
theorem dX9_begin_87 : decode cX9_begin 87 = .ok (.getfield 18, 3) := by decide +kernel
theorem dX9_begin_90 : decode cX9_begin 90 = .ok (.invokevirtual 62, 3) := by decide +kernel
theorem dX9_begin_93 : decode cX9_begin 93 = .ok (.iastore, 1) := by decide +kernel
theorem dX9_begin_94 : decode cX9_begin 94 = .ok (.iinc 1 1, 3) := by decide +kernel
theorem dX9_begin_97 : decode cX9_begin 97 = .ok (.goto (-91), 3) := by decide +kernel
theorem dX9_begin_100 : decode cX9_begin 100 = .ok (.return_, 1) := by decide +kernel
theorem dX9_standAtStart_0 : decode cX9_standAtStart 0 = .ok (.aload_n 0, 1) := by decide +kernel
theorem dX9_standAtStart_1 : decode cX9_standAtStart 1 = .ok (.invokespecial 66, 3) := by decide +kernel
theorem dX9_standAtStart_4 : decode cX9_standAtStart 4 = .ok (.aload_n 0, 1) := by decide +kernel
theorem dX9_standAtStart_5 : decode cX9_standAtStart 5 = .ok (.aload_n 0, 1) := by decide +kernel
theorem dX9_standAtStart_6 : decode cX9_standAtStart 6 = .ok (.getfield 34, 3) := by decide +kernel
theorem dX9_standAtStart_9 : decode cX9_standAtStart 9 = .ok (.invokevirtual 67, 3) := by decide +kernel
theorem dX9_standAtStart_12 : decode cX9_standAtStart 12 = .ok (.putfield 71, 3) := by decide +kernel
theorem dX9_standAtStart_15 : decode cX9_standAtStart 15 = .ok (.aload_n 0, 1) := by decide +kernel
theorem dX9_standAtStart_16 : decode cX9_standAtStart 16 = .ok (.iconst 0, 1) := by decide +kernel
theorem dX9_standAtStart_17 : decode cX9_standAtStart 17 = .ok (.putfield 74, 3) := by decide +kernel
theorem dX9_standAtStart_20 : decode cX9_standAtStart 20 = .ok (.return_, 1) := by decide +kernel
theorem dX9_worth_0 : decode cX9_worth 0 = .ok (.aload_n 0, 1) := by decide +kernel
theorem dX9_worth_1 : decode cX9_worth 1 = .ok (.iload_n 1, 1) := by decide +kernel
theorem dX9_worth_2 : decode cX9_worth 2 = .ok (.aload_n 0, 1) := by decide +kernel
theorem dX9_worth_3 : decode cX9_worth 3 = .ok (.getfield 74, 3) := by decide +kernel
theorem dX9_worth_6 : decode cX9_worth 6 = .ok (.invokevirtual 77, 3) := by decide +kernel
theorem dX9_worth_9 : decode cX9_worth 9 = .ok (.ireturn, 1) := by decide +kernel
theorem dX9_worthBehind_0 : decode cX9_worthBehind 0 = .ok (.iload_n 2, 1) := by decide +kernel
theorem dX9_worthBehind_1 : decode cX9_worthBehind 1 = .ok (.ifCond .gt 18, 3) := by decide +kernel
theorem dX9_worthBehind_4 : decode cX9_worthBehind 4 = .ok (.aload_n 0, 1) := by decide +kernel
theorem dX9_worthBehind_5 : decode cX9_worthBehind 5 = .ok (.getfield 9, 3) := by decide +kernel
theorem dX9_worthBehind_8 : decode cX9_worthBehind 8 = .ok (.aload_n 0, 1) := by decide +kernel
theorem dX9_worthBehind_9 : decode cX9_worthBehind 9 = .ok (.getfield 34, 3) := by decide +kernel
theorem dX9_worthBehind_12 : decode cX9_worthBehind 12 = .ok (.getfield 56, 3) := by decide +kernel
theorem dX9_worthBehind_15 : decode cX9_worthBehind 15 = .ok (.iload_n 1, 1) := by decide +kernel
theorem dX9_worthBehind_16 : decode cX9_worthBehind 16 = .ok (.iaload, 1) := by decide +kernel
theorem dX9_worthBehind_17 : decode cX9_worthBehind 17 = .ok (.iaload, 1) := by decide +kernel
theorem dX9_worthBehind_18 : decode cX9_worthBehind 18 = .ok (.ireturn, 1) := by decide +kernel
theorem dX9_worthBehind_19 : decode cX9_worthBehind 19 = .ok (.aload_n 0, 1) := by decide +kernel
theorem dX9_worthBehind_20 : decode cX9_worthBehind 20 = .ok (.getfield 27, 3) := by decide +kernel
theorem dX9_worthBehind_23 : decode cX9_worthBehind 23 = .ok (.iload_n 2, 1) := by decide +kernel
theorem dX9_worthBehind_24 : decode cX9_worthBehind 24 = .ok (.iconst 1, 1) := by decide +kernel
theorem dX9_worthBehind_25 : decode cX9_worthBehind 25 = .ok (.isub, 1) := by decide +kernel
theorem dX9_worthBehind_26 : decode cX9_worthBehind 26 = .ok (.iaload, 1) := by decide +kernel
theorem dX9_worthBehind_27 : decode cX9_worthBehind 27 = .ok (.istore_n 3, 1) := by decide +kernel
theorem dX9_worthBehind_28 : decode cX9_worthBehind 28 = .ok (.ldc 80, 2) := by decide +kernel
theorem dX9_worthBehind_30 : decode cX9_worthBehind 30 = .ok (.istore 4, 2) := by decide +kernel
theorem dX9_worthBehind_32 : decode cX9_worthBehind 32 = .ok (.iconst 0, 1) := by decide +kernel
theorem dX9_worthBehind_33 : decode cX9_worthBehind 33 = .ok (.istore 5, 2) := by decide +kernel
theorem dX9_worthBehind_35 : decode cX9_worthBehind 35 = .ok (.iload 5, 2) := by decide +kernel
theorem dX9_worthBehind_37 : decode cX9_worthBehind 37 = .ok (.aload_n 0, 1) := by decide +kernel
theorem dX9_worthBehind_38 : decode cX9_worthBehind 38 = .ok (.getfield 34, 3) := by decide +kernel
theorem dX9_worthBehind_41 : decode cX9_worthBehind 41 = .ok (.getfield 47, 3) := by decide +kernel
theorem dX9_worthBehind_44 : decode cX9_worthBehind 44 = .ok (.if_icmp .ge 46, 3) := by decide +kernel
theorem dX9_worthBehind_47 : decode cX9_worthBehind 47 = .ok (.aload_n 0, 1) := by decide +kernel
theorem dX9_worthBehind_48 : decode cX9_worthBehind 48 = .ok (.iload_n 1, 1) := by decide +kernel
theorem dX9_worthBehind_49 : decode cX9_worthBehind 49 = .ok (.iload 5, 2) := by decide +kernel
theorem dX9_worthBehind_51 : decode cX9_worthBehind 51 = .ok (.iload_n 3, 1) := by decide +kernel
theorem dX9_worthBehind_52 : decode cX9_worthBehind 52 = .ok (.invokestatic 81, 3) := by decide +kernel
theorem dX9_worthBehind_55 : decode cX9_worthBehind 55 = .ok (.iload_n 2, 1) := by decide +kernel
theorem dX9_worthBehind_56 : decode cX9_worthBehind 56 = .ok (.iconst 1, 1) := by decide +kernel
theorem dX9_worthBehind_57 : decode cX9_worthBehind 57 = .ok (.isub, 1) := by decide +kernel
theorem dX9_worthBehind_58 : decode cX9_worthBehind 58 = .ok (.invokevirtual 77, 3) := by decide +kernel
theorem dX9_worthBehind_61 : decode cX9_worthBehind 61 = .ok (.istore 6, 2) := by decide +kernel
theorem dX9_worthBehind_63 : decode cX9_worthBehind 63 = .ok (.iload 4, 2) := by decide +kernel
theorem dX9_worthBehind_65 : decode cX9_worthBehind 65 = .ok (.iload 6, 2) := by decide +kernel
theorem dX9_worthBehind_67 : decode cX9_worthBehind 67 = .ok (.aload_n 0, 1) := by decide +kernel
theorem dX9_worthBehind_68 : decode cX9_worthBehind 68 = .ok (.getfield 34, 3) := by decide +kernel
theorem dX9_worthBehind_71 : decode cX9_worthBehind 71 = .ok (.iload_n 1, 1) := by decide +kernel
theorem dX9_worthBehind_72 : decode cX9_worthBehind 72 = .ok (.iload 5, 2) := by decide +kernel
theorem dX9_worthBehind_74 : decode cX9_worthBehind 74 = .ok (.iload_n 3, 1) := by decide +kernel
theorem dX9_worthBehind_75 : decode cX9_worthBehind 75 = .ok (.invokevirtual 85, 3) := by decide +kernel
theorem dX9_worthBehind_78 : decode cX9_worthBehind 78 = .ok (.iadd, 1) := by decide +kernel
theorem dX9_worthBehind_79 : decode cX9_worthBehind 79 = .ok (.invokestatic 88, 3) := by decide +kernel
theorem dX9_worthBehind_82 : decode cX9_worthBehind 82 = .ok (.istore 4, 2) := by decide +kernel
theorem dX9_worthBehind_84 : decode cX9_worthBehind 84 = .ok (.iinc 5 1, 3) := by decide +kernel
theorem dX9_worthBehind_87 : decode cX9_worthBehind 87 = .ok (.goto (-52), 3) := by decide +kernel
theorem dX9_worthBehind_90 : decode cX9_worthBehind 90 = .ok (.iload 4, 2) := by decide +kernel
theorem dX9_worthBehind_92 : decode cX9_worthBehind 92 = .ok (.ireturn, 1) := by decide +kernel
theorem dX9_settle_0 : decode cX9_settle 0 = .ok (.iconst 0, 1) := by decide +kernel
theorem dX9_settle_1 : decode cX9_settle 1 = .ok (.istore_n 1, 1) := by decide +kernel
theorem dX9_settle_2 : decode cX9_settle 2 = .ok (.iload_n 1, 1) := by decide +kernel
theorem dX9_settle_3 : decode cX9_settle 3 = .ok (.aload_n 0, 1) := by decide +kernel
theorem dX9_settle_4 : decode cX9_settle 4 = .ok (.getfield 34, 3) := by decide +kernel
theorem dX9_settle_7 : decode cX9_settle 7 = .ok (.getfield 38, 3) := by decide +kernel
theorem dX9_settle_10 : decode cX9_settle 10 = .ok (.if_icmp .ge 42, 3) := by decide +kernel
theorem dX9_settle_13 : decode cX9_settle 13 = .ok (.aload_n 0, 1) := by decide +kernel
theorem dX9_settle_14 : decode cX9_settle 14 = .ok (.getfield 34, 3) := by decide +kernel
theorem dX9_settle_17 : decode cX9_settle 17 = .ok (.getfield 44, 3) := by decide +kernel
theorem dX9_settle_20 : decode cX9_settle 20 = .ok (.iload_n 1, 1) := by decide +kernel
theorem dX9_settle_21 : decode cX9_settle 21 = .ok (.iaload, 1) := by decide +kernel
theorem dX9_settle_22 : decode cX9_settle 22 = .ok (.istore_n 2, 1) := by decide +kernel
theorem dX9_settle_23 : decode cX9_settle 23 = .ok (.aload_n 0, 1) := by decide +kernel
theorem dX9_settle_24 : decode cX9_settle 24 = .ok (.getfield 15, 3) := by decide +kernel
theorem dX9_settle_27 : decode cX9_settle 27 = .ok (.aload_n 0, 1) := by decide +kernel
theorem dX9_settle_28 : decode cX9_settle 28 = .ok (.getfield 34, 3) := by decide +kernel
theorem dX9_settle_31 : decode cX9_settle 31 = .ok (.getfield 56, 3) := by decide +kernel
theorem dX9_settle_34 : decode cX9_settle 34 = .ok (.iload_n 2, 1) := by decide +kernel
theorem dX9_settle_35 : decode cX9_settle 35 = .ok (.iaload, 1) := by decide +kernel
theorem dX9_settle_36 : decode cX9_settle 36 = .ok (.aload_n 0, 1) := by decide +kernel
theorem dX9_settle_37 : decode cX9_settle 37 = .ok (.iload_n 2, 1) := by decide +kernel
theorem dX9_settle_38 : decode cX9_settle 38 = .ok (.aload_n 0, 1) := by decide +kernel
theorem dX9_settle_39 : decode cX9_settle 39 = .ok (.getfield 74, 3) := by decide +kernel
theorem dX9_settle_42 : decode cX9_settle 42 = .ok (.invokevirtual 77, 3) := by decide +kernel
theorem dX9_settle_45 : decode cX9_settle 45 = .ok (.iastore, 1) := by decide +kernel
theorem dX9_settle_46 : decode cX9_settle 46 = .ok (.iinc 1 1, 3) := by decide +kernel
theorem dX9_settle_49 : decode cX9_settle 49 = .ok (.goto (-47), 3) := by decide +kernel
theorem dX9_settle_52 : decode cX9_settle 52 = .ok (.aload_n 0, 1) := by decide +kernel
theorem dX9_settle_53 : decode cX9_settle 53 = .ok (.getfield 9, 3) := by decide +kernel
theorem dX9_settle_56 : decode cX9_settle 56 = .ok (.astore_n 1, 1) := by decide +kernel
theorem dX9_settle_57 : decode cX9_settle 57 = .ok (.aload_n 0, 1) := by decide +kernel
theorem dX9_settle_58 : decode cX9_settle 58 = .ok (.aload_n 0, 1) := by decide +kernel
theorem dX9_settle_59 : decode cX9_settle 59 = .ok (.getfield 15, 3) := by decide +kernel
theorem dX9_settle_62 : decode cX9_settle 62 = .ok (.putfield 9, 3) := by decide +kernel
theorem dX9_settle_65 : decode cX9_settle 65 = .ok (.aload_n 0, 1) := by decide +kernel
theorem dX9_settle_66 : decode cX9_settle 66 = .ok (.aload_n 1, 1) := by decide +kernel
theorem dX9_settle_67 : decode cX9_settle 67 = .ok (.putfield 15, 3) := by decide +kernel
theorem dX9_settle_70 : decode cX9_settle 70 = .ok (.aload_n 0, 1) := by decide +kernel
theorem dX9_settle_71 : decode cX9_settle 71 = .ok (.iconst 0, 1) := by decide +kernel
theorem dX9_settle_72 : decode cX9_settle 72 = .ok (.putfield 74, 3) := by decide +kernel
theorem dX9_settle_75 : decode cX9_settle 75 = .ok (.return_, 1) := by decide +kernel
theorem dX9_meet_0 : decode cX9_meet 0 = .ok (.aload_n 0, 1) := by decide +kernel
theorem dX9_meet_1 : decode cX9_meet 1 = .ok (.getfield 74, 3) := by decide +kernel
theorem dX9_meet_4 : decode cX9_meet 4 = .ok (.aload_n 0, 1) := by decide +kernel
theorem dX9_meet_5 : decode cX9_meet 5 = .ok (.getfield 27, 3) := by decide +kernel
theorem dX9_meet_8 : decode cX9_meet 8 = .ok (.arraylength, 1) := by decide +kernel
theorem dX9_meet_9 : decode cX9_meet 9 = .ok (.if_icmp .lt 7, 3) := by decide +kernel
theorem dX9_meet_12 : decode cX9_meet 12 = .ok (.aload_n 0, 1) := by decide +kernel
theorem dX9_meet_13 : decode cX9_meet 13 = .ok (.invokevirtual 91, 3) := by decide +kernel
theorem dX9_meet_16 : decode cX9_meet 16 = .ok (.aload_n 0, 1) := by decide +kernel
theorem dX9_meet_17 : decode cX9_meet 17 = .ok (.getfield 27, 3) := by decide +kernel
theorem dX9_meet_20 : decode cX9_meet 20 = .ok (.aload_n 0, 1) := by decide +kernel
theorem dX9_meet_21 : decode cX9_meet 21 = .ok (.getfield 74, 3) := by decide +kernel
theorem dX9_meet_24 : decode cX9_meet 24 = .ok (.iload_n 1, 1) := by decide +kernel
theorem dX9_meet_25 : decode cX9_meet 25 = .ok (.iastore, 1) := by decide +kernel
theorem dX9_meet_26 : decode cX9_meet 26 = .ok (.aload_n 0, 1) := by decide +kernel
theorem dX9_meet_27 : decode cX9_meet 27 = .ok (.dup, 1) := by decide +kernel
theorem dX9_meet_28 : decode cX9_meet 28 = .ok (.getfield 74, 3) := by decide +kernel
theorem dX9_meet_31 : decode cX9_meet 31 = .ok (.iconst 1, 1) := by decide +kernel
theorem dX9_meet_32 : decode cX9_meet 32 = .ok (.iadd, 1) := by decide +kernel
theorem dX9_meet_33 : decode cX9_meet 33 = .ok (.putfield 74, 3) := by decide +kernel
theorem dX9_meet_36 : decode cX9_meet 36 = .ok (.aload_n 0, 1) := by decide +kernel
theorem dX9_meet_37 : decode cX9_meet 37 = .ok (.iload_n 1, 1) := by decide +kernel
theorem dX9_meet_38 : decode cX9_meet 38 = .ok (.invokevirtual 94, 3) := by decide +kernel
theorem dX9_meet_41 : decode cX9_meet 41 = .ok (.istore_n 3, 1) := by decide +kernel
theorem dX9_meet_42 : decode cX9_meet 42 = .ok (.aload_n 0, 1) := by decide +kernel
theorem dX9_meet_43 : decode cX9_meet 43 = .ok (.iload_n 3, 1) := by decide +kernel
theorem dX9_meet_44 : decode cX9_meet 44 = .ok (.aload_n 0, 1) := by decide +kernel
theorem dX9_meet_45 : decode cX9_meet 45 = .ok (.getfield 34, 3) := by decide +kernel
theorem dX9_meet_48 : decode cX9_meet 48 = .ok (.getfield 50, 3) := by decide +kernel
theorem dX9_meet_51 : decode cX9_meet 51 = .ok (.iload_n 1, 1) := by decide +kernel
theorem dX9_meet_52 : decode cX9_meet 52 = .ok (.iaload, 1) := by decide +kernel
theorem dX9_meet_53 : decode cX9_meet 53 = .ok (.invokevirtual 98, 3) := by decide +kernel
theorem dX9_meet_56 : decode cX9_meet 56 = .ok (.aload_n 0, 1) := by decide +kernel
theorem dX9_meet_57 : decode cX9_meet 57 = .ok (.aload_n 0, 1) := by decide +kernel
theorem dX9_meet_58 : decode cX9_meet 58 = .ok (.getfield 71, 3) := by decide +kernel
theorem dX9_meet_61 : decode cX9_meet 61 = .ok (.iload_n 3, 1) := by decide +kernel
theorem dX9_meet_62 : decode cX9_meet 62 = .ok (.iload_n 1, 1) := by decide +kernel
theorem dX9_meet_63 : decode cX9_meet 63 = .ok (.invokestatic 81, 3) := by decide +kernel
theorem dX9_meet_66 : decode cX9_meet 66 = .ok (.putfield 71, 3) := by decide +kernel
theorem dX9_meet_69 : decode cX9_meet 69 = .ok (.return_, 1) := by decide +kernel
theorem dX9_chosen_0 : decode cX9_chosen 0 = .ok (.iconst 0, 1) := by decide +kernel
theorem dX9_chosen_1 : decode cX9_chosen 1 = .ok (.istore_n 2, 1) := by decide +kernel
theorem dX9_chosen_2 : decode cX9_chosen 2 = .ok (.ldc 80, 2) := by decide +kernel
theorem dX9_chosen_4 : decode cX9_chosen 4 = .ok (.istore_n 3, 1) := by decide +kernel
theorem dX9_chosen_5 : decode cX9_chosen 5 = .ok (.iconst 0, 1) := by decide +kernel
theorem dX9_chosen_6 : decode cX9_chosen 6 = .ok (.istore 4, 2) := by decide +kernel
theorem dX9_chosen_8 : decode cX9_chosen 8 = .ok (.iload 4, 2) := by decide +kernel
theorem dX9_chosen_10 : decode cX9_chosen 10 = .ok (.aload_n 0, 1) := by decide +kernel
theorem dX9_chosen_11 : decode cX9_chosen 11 = .ok (.getfield 34, 3) := by decide +kernel
theorem dX9_chosen_14 : decode cX9_chosen 14 = .ok (.getfield 47, 3) := by decide +kernel
theorem dX9_chosen_17 : decode cX9_chosen 17 = .ok (.if_icmp .ge 60, 3) := by decide +kernel
theorem dX9_chosen_20 : decode cX9_chosen 20 = .ok (.aload_n 0, 1) := by decide +kernel
theorem dX9_chosen_21 : decode cX9_chosen 21 = .ok (.aload_n 0, 1) := by decide +kernel
theorem dX9_chosen_22 : decode cX9_chosen 22 = .ok (.getfield 71, 3) := by decide +kernel
theorem dX9_chosen_25 : decode cX9_chosen 25 = .ok (.iload 4, 2) := by decide +kernel
theorem dX9_chosen_27 : decode cX9_chosen 27 = .ok (.iload_n 1, 1) := by decide +kernel
theorem dX9_chosen_28 : decode cX9_chosen 28 = .ok (.invokestatic 81, 3) := by decide +kernel
theorem dX9_chosen_31 : decode cX9_chosen 31 = .ok (.aload_n 0, 1) := by decide +kernel
theorem dX9_chosen_32 : decode cX9_chosen 32 = .ok (.getfield 74, 3) := by decide +kernel
theorem dX9_chosen_35 : decode cX9_chosen 35 = .ok (.invokevirtual 77, 3) := by decide +kernel
theorem dX9_chosen_38 : decode cX9_chosen 38 = .ok (.istore 5, 2) := by decide +kernel
theorem dX9_chosen_40 : decode cX9_chosen 40 = .ok (.iload 5, 2) := by decide +kernel
theorem dX9_chosen_42 : decode cX9_chosen 42 = .ok (.aload_n 0, 1) := by decide +kernel
theorem dX9_chosen_43 : decode cX9_chosen 43 = .ok (.getfield 34, 3) := by decide +kernel
theorem dX9_chosen_46 : decode cX9_chosen 46 = .ok (.aload_n 0, 1) := by decide +kernel
theorem dX9_chosen_47 : decode cX9_chosen 47 = .ok (.getfield 71, 3) := by decide +kernel
theorem dX9_chosen_50 : decode cX9_chosen 50 = .ok (.iload 4, 2) := by decide +kernel
theorem dX9_chosen_52 : decode cX9_chosen 52 = .ok (.iload_n 1, 1) := by decide +kernel
theorem dX9_chosen_53 : decode cX9_chosen 53 = .ok (.invokevirtual 85, 3) := by decide +kernel
theorem dX9_chosen_56 : decode cX9_chosen 56 = .ok (.iadd, 1) := by decide +kernel
theorem dX9_chosen_57 : decode cX9_chosen 57 = .ok (.istore 6, 2) := by decide +kernel
theorem dX9_chosen_59 : decode cX9_chosen 59 = .ok (.iload 6, 2) := by decide +kernel
theorem dX9_chosen_61 : decode cX9_chosen 61 = .ok (.iload_n 3, 1) := by decide +kernel
theorem dX9_chosen_62 : decode cX9_chosen 62 = .ok (.if_icmp .ge 9, 3) := by decide +kernel
theorem dX9_chosen_65 : decode cX9_chosen 65 = .ok (.iload 6, 2) := by decide +kernel
theorem dX9_chosen_67 : decode cX9_chosen 67 = .ok (.istore_n 3, 1) := by decide +kernel
theorem dX9_chosen_68 : decode cX9_chosen 68 = .ok (.iload 4, 2) := by decide +kernel
theorem dX9_chosen_70 : decode cX9_chosen 70 = .ok (.istore_n 2, 1) := by decide +kernel
theorem dX9_chosen_71 : decode cX9_chosen 71 = .ok (.iinc 4 1, 3) := by decide +kernel
theorem dX9_chosen_74 : decode cX9_chosen 74 = .ok (.goto (-66), 3) := by decide +kernel
theorem dX9_chosen_77 : decode cX9_chosen 77 = .ok (.iload_n 2, 1) := by decide +kernel
theorem dX9_chosen_78 : decode cX9_chosen 78 = .ok (.ireturn, 1) := by decide +kernel
theorem dX10_init_0 : decode cX10_init 0 = .ok (.aload_n 0, 1) := by decide +kernel
theorem dX10_init_1 : decode cX10_init 1 = .ok (.invokespecial 3, 3) := by decide +kernel
theorem dX10_init_4 : decode cX10_init 4 = .ok (.aload_n 0, 1) := by decide +kernel
theorem dX10_init_5 : decode cX10_init 5 = .ok (.iconst 3, 1) := by decide +kernel
theorem dX10_init_6 : decode cX10_init 6 = .ok (.newarray .int, 2) := by decide +kernel
theorem dX10_init_8 : decode cX10_init 8 = .ok (.putfield 9, 3) := by decide +kernel
theorem dX10_init_11 : decode cX10_init 11 = .ok (.aload_n 0, 1) := by decide +kernel
theorem dX10_init_12 : decode cX10_init 12 = .ok (.iconst 3, 1) := by decide +kernel
theorem dX10_init_13 : decode cX10_init 13 = .ok (.newarray .int, 2) := by decide +kernel
theorem dX10_init_15 : decode cX10_init 15 = .ok (.putfield 15, 3) := by decide +kernel
theorem dX10_init_18 : decode cX10_init 18 = .ok (.aload_n 0, 1) := by decide +kernel
theorem dX10_init_19 : decode cX10_init 19 = .ok (.iconst (-1), 1) := by decide +kernel
theorem dX10_init_20 : decode cX10_init 20 = .ok (.putfield 18, 3) := by decide +kernel
theorem dX10_init_23 : decode cX10_init 23 = .ok (.aload_n 0, 1) := by decide +kernel
theorem dX10_init_24 : decode cX10_init 24 = .ok (.aload_n 1, 1) := by decide +kernel
theorem dX10_init_25 : decode cX10_init 25 = .ok (.putfield 22, 3) := by decide +kernel
theorem dX10_init_28 : decode cX10_init 28 = .ok (.aload_n 0, 1) := by decide +kernel
theorem dX10_init_29 : decode cX10_init 29 = .ok (.iconst 3, 1) := by decide +kernel
theorem dX10_init_30 : decode cX10_init 30 = .ok (.anewarray 26, 3) := by decide +kernel
theorem dX10_init_33 : decode cX10_init 33 = .ok (.dup, 1) := by decide +kernel
theorem dX10_init_34 : decode cX10_init 34 = .ok (.iconst 0, 1) := by decide +kernel
theorem dX10_init_35 : decode cX10_init 35 = .ok (.new 28, 3) := by decide +kernel
theorem dX10_init_38 : decode cX10_init 38 = .ok (.dup, 1) := by decide +kernel
theorem dX10_init_39 : decode cX10_init 39 = .ok (.aload_n 1, 1) := by decide +kernel
theorem dX10_init_40 : decode cX10_init 40 = .ok (.iconst 0, 1) := by decide +kernel
theorem dX10_init_41 : decode cX10_init 41 = .ok (.invokespecial 30, 3) := by decide +kernel
theorem dX10_init_44 : decode cX10_init 44 = .ok (.aastore, 1) := by decide +kernel
theorem dX10_init_45 : decode cX10_init 45 = .ok (.dup, 1) := by decide +kernel
theorem dX10_init_46 : decode cX10_init 46 = .ok (.iconst 1, 1) := by decide +kernel
theorem dX10_init_47 : decode cX10_init 47 = .ok (.new 33, 3) := by decide +kernel
theorem dX10_init_50 : decode cX10_init 50 = .ok (.dup, 1) := by decide +kernel
theorem dX10_init_51 : decode cX10_init 51 = .ok (.aload_n 1, 1) := by decide +kernel
theorem dX10_init_52 : decode cX10_init 52 = .ok (.invokespecial 35, 3) := by decide +kernel
theorem dX10_init_55 : decode cX10_init 55 = .ok (.aastore, 1) := by decide +kernel
theorem dX10_init_56 : decode cX10_init 56 = .ok (.dup, 1) := by decide +kernel
theorem dX10_init_57 : decode cX10_init 57 = .ok (.iconst 2, 1) := by decide +kernel
theorem dX10_init_58 : decode cX10_init 58 = .ok (.new 38, 3) := by decide +kernel
theorem dX10_init_61 : decode cX10_init 61 = .ok (.dup, 1) := by decide +kernel
theorem dX10_init_62 : decode cX10_init 62 = .ok (.aload_n 1, 1) := by decide +kernel
theorem dX10_init_63 : decode cX10_init 63 = .ok (.iconst 3, 1) := by decide +kernel
theorem dX10_init_64 : decode cX10_init 64 = .ok (.invokespecial 40, 3) := by decide +kernel
theorem dX10_init_67 : decode cX10_init 67 = .ok (.aastore, 1) := by decide +kernel
theorem dX10_init_68 : decode cX10_init 68 = .ok (.putfield 43, 3) := by decide +kernel
theorem dX10_init_71 : decode cX10_init 71 = .ok (.return_, 1) := by decide +kernel
theorem dX10_seek_0 : decode cX10_seek 0 = .ok (.aload_n 0, 1) := by decide +kernel
theorem dX10_seek_1 : decode cX10_seek 1 = .ok (.iconst (-1), 1) := by decide +kernel
theorem dX10_seek_2 : decode cX10_seek 2 = .ok (.putfield 18, 3) := by decide +kernel
theorem dX10_seek_5 : decode cX10_seek 5 = .ok (.aload_n 0, 1) := by decide +kernel
theorem dX10_seek_6 : decode cX10_seek 6 = .ok (.iconst 0, 1) := by decide +kernel
