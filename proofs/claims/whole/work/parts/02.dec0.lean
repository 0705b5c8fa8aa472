theorem dX0_init_0 : decode cX0_init 0 = .ok (.aload_n 0, 1) := by decide +kernel
theorem dX0_init_1 : decode cX0_init 1 = .ok (.aload_n 1, 1) := by decide +kernel
theorem dX0_init_2 : decode cX0_init 2 = .ok (.invokespecial 3, 3) := by decide +kernel
theorem dX0_init_5 : decode cX0_init 5 = .ok (.aload_n 0, 1) := by decide +kernel
theorem dX0_init_6 : decode cX0_init 6 = .ok (.bipush 41, 2) := by decide +kernel
theorem dX0_init_8 : decode cX0_init 8 = .ok (.bipush 56, 2) := by decide +kernel
theorem dX0_init_10 : decode cX0_init 10 = .ok (.multianewarray 9 2, 4) := by decide +kernel
theorem dX0_init_14 : decode cX0_init 14 = .ok (.putfield 11, 3) := by decide +kernel
theorem dX0_init_17 : decode cX0_init 17 = .ok (.return_, 1) := by decide +kernel
theorem dX0_plan_0 : decode cX0_plan 0 = .ok (.iconst 0, 1) := by decide +kernel
theorem dX0_plan_1 : decode cX0_plan 1 = .ok (.istore_n 2, 1) := by decide +kernel
theorem dX0_plan_2 : decode cX0_plan 2 = .ok (.iload_n 2, 1) := by decide +kernel
theorem dX0_plan_3 : decode cX0_plan 3 = .ok (.bipush 56, 2) := by decide +kernel
theorem dX0_plan_5 : decode cX0_plan 5 = .ok (.if_icmp .ge 21, 3) := by decide +kernel
theorem dX0_plan_8 : decode cX0_plan 8 = .ok (.aload_n 0, 1) := by decide +kernel
theorem dX0_plan_9 : decode cX0_plan 9 = .ok (.getfield 11, 3) := by decide +kernel
theorem dX0_plan_12 : decode cX0_plan 12 = .ok (.aload_n 1, 1) := by decide +kernel
theorem dX0_plan_13 : decode cX0_plan 13 = .ok (.getfield 16, 3) := by decide +kernel
theorem dX0_plan_16 : decode cX0_plan 16 = .ok (.aaload, 1) := by decide +kernel
theorem dX0_plan_17 : decode cX0_plan 17 = .ok (.iload_n 2, 1) := by decide +kernel
theorem dX0_plan_18 : decode cX0_plan 18 = .ok (.iconst 0, 1) := by decide +kernel
theorem dX0_plan_19 : decode cX0_plan 19 = .ok (.iastore, 1) := by decide +kernel
theorem dX0_plan_20 : decode cX0_plan 20 = .ok (.iinc 2 1, 3) := by decide +kernel
theorem dX0_plan_23 : decode cX0_plan 23 = .ok (.goto (-21), 3) := by decide +kernel
theorem dX0_plan_26 : decode cX0_plan 26 = .ok (.aload_n 1, 1) := by decide +kernel
theorem dX0_plan_27 : decode cX0_plan 27 = .ok (.getfield 16, 3) := by decide +kernel
theorem dX0_plan_30 : decode cX0_plan 30 = .ok (.iconst 1, 1) := by decide +kernel
theorem dX0_plan_31 : decode cX0_plan 31 = .ok (.isub, 1) := by decide +kernel
theorem dX0_plan_32 : decode cX0_plan 32 = .ok (.istore_n 2, 1) := by decide +kernel
theorem dX0_plan_33 : decode cX0_plan 33 = .ok (.iload_n 2, 1) := by decide +kernel
theorem dX0_plan_34 : decode cX0_plan 34 = .ok (.ifCond .lt 20, 3) := by decide +kernel
theorem dX0_plan_37 : decode cX0_plan 37 = .ok (.aload_n 0, 1) := by decide +kernel
theorem dX0_plan_38 : decode cX0_plan 38 = .ok (.iload_n 2, 1) := by decide +kernel
theorem dX0_plan_39 : decode cX0_plan 39 = .ok (.aload_n 1, 1) := by decide +kernel
theorem dX0_plan_40 : decode cX0_plan 40 = .ok (.getfield 22, 3) := by decide +kernel
theorem dX0_plan_43 : decode cX0_plan 43 = .ok (.iload_n 2, 1) := by decide +kernel
theorem dX0_plan_44 : decode cX0_plan 44 = .ok (.iaload, 1) := by decide +kernel
theorem dX0_plan_45 : decode cX0_plan 45 = .ok (.invokevirtual 26, 3) := by decide +kernel
theorem dX0_plan_48 : decode cX0_plan 48 = .ok (.iinc 2 (-1), 3) := by decide +kernel
theorem dX0_plan_51 : decode cX0_plan 51 = .ok (.goto (-18), 3) := by decide +kernel
theorem dX0_plan_54 : decode cX0_plan 54 = .ok (.aload_n 0, 1) := by decide +kernel
theorem dX0_plan_55 : decode cX0_plan 55 = .ok (.getfield 11, 3) := by decide +kernel
theorem dX0_plan_58 : decode cX0_plan 58 = .ok (.iconst 0, 1) := by decide +kernel
theorem dX0_plan_59 : decode cX0_plan 59 = .ok (.aaload, 1) := by decide +kernel
theorem dX0_plan_60 : decode cX0_plan 60 = .ok (.aload_n 0, 1) := by decide +kernel
theorem dX0_plan_61 : decode cX0_plan 61 = .ok (.getfield 30, 3) := by decide +kernel
theorem dX0_plan_64 : decode cX0_plan 64 = .ok (.getfield 34, 3) := by decide +kernel
theorem dX0_plan_67 : decode cX0_plan 67 = .ok (.aload_n 0, 1) := by decide +kernel
theorem dX0_plan_68 : decode cX0_plan 68 = .ok (.getfield 30, 3) := by decide +kernel
theorem dX0_plan_71 : decode cX0_plan 71 = .ok (.invokevirtual 39, 3) := by decide +kernel
theorem dX0_plan_74 : decode cX0_plan 74 = .ok (.iaload, 1) := by decide +kernel
theorem dX0_plan_75 : decode cX0_plan 75 = .ok (.iaload, 1) := by decide +kernel
theorem dX0_plan_76 : decode cX0_plan 76 = .ok (.ireturn, 1) := by decide +kernel
theorem dX0_planStep_0 : decode cX0_planStep 0 = .ok (.iconst 0, 1) := by decide +kernel
theorem dX0_planStep_1 : decode cX0_planStep 1 = .ok (.istore_n 3, 1) := by decide +kernel
theorem dX0_planStep_2 : decode cX0_planStep 2 = .ok (.iload_n 3, 1) := by decide +kernel
theorem dX0_planStep_3 : decode cX0_planStep 3 = .ok (.aload_n 0, 1) := by decide +kernel
theorem dX0_planStep_4 : decode cX0_planStep 4 = .ok (.getfield 30, 3) := by decide +kernel
theorem dX0_planStep_7 : decode cX0_planStep 7 = .ok (.getfield 43, 3) := by decide +kernel
theorem dX0_planStep_10 : decode cX0_planStep 10 = .ok (.if_icmp .ge 50, 3) := by decide +kernel
theorem dX0_planStep_13 : decode cX0_planStep 13 = .ok (.aload_n 0, 1) := by decide +kernel
theorem dX0_planStep_14 : decode cX0_planStep 14 = .ok (.getfield 30, 3) := by decide +kernel
theorem dX0_planStep_17 : decode cX0_planStep 17 = .ok (.getfield 46, 3) := by decide +kernel
theorem dX0_planStep_20 : decode cX0_planStep 20 = .ok (.iload_n 3, 1) := by decide +kernel
theorem dX0_planStep_21 : decode cX0_planStep 21 = .ok (.iaload, 1) := by decide +kernel
theorem dX0_planStep_22 : decode cX0_planStep 22 = .ok (.istore 4, 2) := by decide +kernel
theorem dX0_planStep_24 : decode cX0_planStep 24 = .ok (.aload_n 0, 1) := by decide +kernel
theorem dX0_planStep_25 : decode cX0_planStep 25 = .ok (.iload_n 1, 1) := by decide +kernel
theorem dX0_planStep_26 : decode cX0_planStep 26 = .ok (.iload 4, 2) := by decide +kernel
theorem dX0_planStep_28 : decode cX0_planStep 28 = .ok (.iload_n 2, 1) := by decide +kernel
theorem dX0_planStep_29 : decode cX0_planStep 29 = .ok (.invokevirtual 49, 3) := by decide +kernel
theorem dX0_planStep_32 : decode cX0_planStep 32 = .ok (.pop, 1) := by decide +kernel
theorem dX0_planStep_33 : decode cX0_planStep 33 = .ok (.aload_n 0, 1) := by decide +kernel
theorem dX0_planStep_34 : decode cX0_planStep 34 = .ok (.getfield 11, 3) := by decide +kernel
theorem dX0_planStep_37 : decode cX0_planStep 37 = .ok (.iload_n 1, 1) := by decide +kernel
theorem dX0_planStep_38 : decode cX0_planStep 38 = .ok (.aaload, 1) := by decide +kernel
theorem dX0_planStep_39 : decode cX0_planStep 39 = .ok (.aload_n 0, 1) := by decide +kernel
theorem dX0_planStep_40 : decode cX0_planStep 40 = .ok (.getfield 30, 3) := by decide +kernel
theorem dX0_planStep_43 : decode cX0_planStep 43 = .ok (.getfield 34, 3) := by decide +kernel
theorem dX0_planStep_46 : decode cX0_planStep 46 = .ok (.iload 4, 2) := by decide +kernel
theorem dX0_planStep_48 : decode cX0_planStep 48 = .ok (.iaload, 1) := by decide +kernel
theorem dX0_planStep_49 : decode cX0_planStep 49 = .ok (.aload_n 0, 1) := by decide +kernel
theorem dX0_planStep_50 : decode cX0_planStep 50 = .ok (.getfield 53, 3) := by decide +kernel
theorem dX0_planStep_53 : decode cX0_planStep 53 = .ok (.iastore, 1) := by decide +kernel
theorem dX0_planStep_54 : decode cX0_planStep 54 = .ok (.iinc 3 1, 3) := by decide +kernel
theorem dX0_planStep_57 : decode cX0_planStep 57 = .ok (.goto (-55), 3) := by decide +kernel
theorem dX0_planStep_60 : decode cX0_planStep 60 = .ok (.return_, 1) := by decide +kernel
theorem dX0_chosen_0 : decode cX0_chosen 0 = .ok (.iconst 0, 1) := by decide +kernel
theorem dX0_chosen_1 : decode cX0_chosen 1 = .ok (.istore 4, 2) := by decide +kernel
theorem dX0_chosen_3 : decode cX0_chosen 3 = .ok (.aload_n 0, 1) := by decide +kernel
theorem dX0_chosen_4 : decode cX0_chosen 4 = .ok (.ldc 56, 2) := by decide +kernel
theorem dX0_chosen_6 : decode cX0_chosen 6 = .ok (.putfield 53, 3) := by decide +kernel
theorem dX0_chosen_9 : decode cX0_chosen 9 = .ok (.iconst 0, 1) := by decide +kernel
theorem dX0_chosen_10 : decode cX0_chosen 10 = .ok (.istore 5, 2) := by decide +kernel
theorem dX0_chosen_12 : decode cX0_chosen 12 = .ok (.iload 5, 2) := by decide +kernel
theorem dX0_chosen_14 : decode cX0_chosen 14 = .ok (.aload_n 0, 1) := by decide +kernel
theorem dX0_chosen_15 : decode cX0_chosen 15 = .ok (.getfield 30, 3) := by decide +kernel
theorem dX0_chosen_18 : decode cX0_chosen 18 = .ok (.getfield 57, 3) := by decide +kernel
theorem dX0_chosen_21 : decode cX0_chosen 21 = .ok (.if_icmp .ge 70, 3) := by decide +kernel
theorem dX0_chosen_24 : decode cX0_chosen 24 = .ok (.aload_n 0, 1) := by decide +kernel
theorem dX0_chosen_25 : decode cX0_chosen 25 = .ok (.getfield 11, 3) := by decide +kernel
theorem dX0_chosen_28 : decode cX0_chosen 28 = .ok (.iload_n 1, 1) := by decide +kernel
theorem dX0_chosen_29 : decode cX0_chosen 29 = .ok (.iconst 1, 1) := by decide +kernel
theorem dX0_chosen_30 : decode cX0_chosen 30 = .ok (.iadd, 1) := by decide +kernel
theorem dX0_chosen_31 : decode cX0_chosen 31 = .ok (.aaload, 1) := by decide +kernel
theorem dX0_chosen_32 : decode cX0_chosen 32 = .ok (.aload_n 0, 1) := by decide +kernel
theorem dX0_chosen_33 : decode cX0_chosen 33 = .ok (.getfield 30, 3) := by decide +kernel
theorem dX0_chosen_36 : decode cX0_chosen 36 = .ok (.getfield 34, 3) := by decide +kernel
theorem dX0_chosen_39 : decode cX0_chosen 39 = .ok (.iload_n 2, 1) := by decide +kernel
theorem dX0_chosen_40 : decode cX0_chosen 40 = .ok (.iload 5, 2) := by decide +kernel
theorem dX0_chosen_42 : decode cX0_chosen 42 = .ok (.iload_n 3, 1) := by decide +kernel
theorem dX0_chosen_43 : decode cX0_chosen 43 = .ok (.invokestatic 60, 3) := by decide +kernel
theorem dX0_chosen_46 : decode cX0_chosen 46 = .ok (.iaload, 1) := by decide +kernel
theorem dX0_chosen_47 : decode cX0_chosen 47 = .ok (.iaload, 1) := by decide +kernel
theorem dX0_chosen_48 : decode cX0_chosen 48 = .ok (.istore 6, 2) := by decide +kernel
theorem dX0_chosen_50 : decode cX0_chosen 50 = .ok (.iload 6, 2) := by decide +kernel
theorem dX0_chosen_52 : decode cX0_chosen 52 = .ok (.aload_n 0, 1) := by decide +kernel
theorem dX0_chosen_53 : decode cX0_chosen 53 = .ok (.getfield 30, 3) := by decide +kernel
theorem dX0_chosen_56 : decode cX0_chosen 56 = .ok (.iload_n 2, 1) := by decide +kernel
theorem dX0_chosen_57 : decode cX0_chosen 57 = .ok (.iload 5, 2) := by decide +kernel
theorem dX0_chosen_59 : decode cX0_chosen 59 = .ok (.iload_n 3, 1) := by decide +kernel
theorem dX0_chosen_60 : decode cX0_chosen 60 = .ok (.invokevirtual 63, 3) := by decide +kernel
theorem dX0_chosen_63 : decode cX0_chosen 63 = .ok (.iadd, 1) := by decide +kernel
theorem dX0_chosen_64 : decode cX0_chosen 64 = .ok (.istore 7, 2) := by decide +kernel
theorem dX0_chosen_66 : decode cX0_chosen 66 = .ok (.iload 7, 2) := by decide +kernel
theorem dX0_chosen_68 : decode cX0_chosen 68 = .ok (.aload_n 0, 1) := by decide +kernel
theorem dX0_chosen_69 : decode cX0_chosen 69 = .ok (.getfield 53, 3) := by decide +kernel
theorem dX0_chosen_72 : decode cX0_chosen 72 = .ok (.if_icmp .ge 13, 3) := by decide +kernel
theorem dX0_chosen_75 : decode cX0_chosen 75 = .ok (.aload_n 0, 1) := by decide +kernel
theorem dX0_chosen_76 : decode cX0_chosen 76 = .ok (.iload 7, 2) := by decide +kernel
theorem dX0_chosen_78 : decode cX0_chosen 78 = .ok (.putfield 53, 3) := by decide +kernel
theorem dX0_chosen_81 : decode cX0_chosen 81 = .ok (.iload 5, 2) := by decide +kernel
theorem dX0_chosen_83 : decode cX0_chosen 83 = .ok (.istore 4, 2) := by decide +kernel
theorem dX0_chosen_85 : decode cX0_chosen 85 = .ok (.iinc 5 1, 3) := by decide +kernel
theorem dX0_chosen_88 : decode cX0_chosen 88 = .ok (.goto (-76), 3) := by decide +kernel
theorem dX0_chosen_91 : decode cX0_chosen 91 = .ok (.iload 4, 2) := by decide +kernel
theorem dX0_chosen_93 : decode cX0_chosen 93 = .ok (.ireturn, 1) := by decide +kernel
theorem dX0_standAtStart_0 : decode cX0_standAtStart 0 = .ok (.aload_n 0, 1) := by decide +kernel
theorem dX0_standAtStart_1 : decode cX0_standAtStart 1 = .ok (.invokespecial 66, 3) := by decide +kernel
theorem dX0_standAtStart_4 : decode cX0_standAtStart 4 = .ok (.aload_n 0, 1) := by decide +kernel
theorem dX0_standAtStart_5 : decode cX0_standAtStart 5 = .ok (.aload_n 0, 1) := by decide +kernel
theorem dX0_standAtStart_6 : decode cX0_standAtStart 6 = .ok (.getfield 30, 3) := by decide +kernel
theorem dX0_standAtStart_9 : decode cX0_standAtStart 9 = .ok (.invokevirtual 39, 3) := by decide +kernel
theorem dX0_standAtStart_12 : decode cX0_standAtStart 12 = .ok (.putfield 70, 3) := by decide +kernel
theorem dX0_standAtStart_15 : decode cX0_standAtStart 15 = .ok (.aload_n 0, 1) := by decide +kernel
theorem dX0_standAtStart_16 : decode cX0_standAtStart 16 = .ok (.iconst 0, 1) := by decide +kernel
theorem dX0_standAtStart_17 : decode cX0_standAtStart 17 = .ok (.putfield 73, 3) := by decide +kernel
theorem dX0_standAtStart_20 : decode cX0_standAtStart 20 = .ok (.return_, 1) := by decide +kernel
theorem dX0_meet_0 : decode cX0_meet 0 = .ok (.aload_n 0, 1) := by decide +kernel
theorem dX0_meet_1 : decode cX0_meet 1 = .ok (.getfield 73, 3) := by decide +kernel
theorem dX0_meet_4 : decode cX0_meet 4 = .ok (.bipush 40, 2) := by decide +kernel
theorem dX0_meet_6 : decode cX0_meet 6 = .ok (.if_icmp .lt 4, 3) := by decide +kernel
theorem dX0_meet_9 : decode cX0_meet 9 = .ok (.return_, 1) := by decide +kernel
theorem dX0_meet_10 : decode cX0_meet 10 = .ok (.aload_n 0, 1) := by decide +kernel
theorem dX0_meet_11 : decode cX0_meet 11 = .ok (.aload_n 0, 1) := by decide +kernel
theorem dX0_meet_12 : decode cX0_meet 12 = .ok (.getfield 73, 3) := by decide +kernel
theorem dX0_meet_15 : decode cX0_meet 15 = .ok (.aload_n 0, 1) := by decide +kernel
theorem dX0_meet_16 : decode cX0_meet 16 = .ok (.getfield 70, 3) := by decide +kernel
theorem dX0_meet_19 : decode cX0_meet 19 = .ok (.iload_n 1, 1) := by decide +kernel
theorem dX0_meet_20 : decode cX0_meet 20 = .ok (.invokevirtual 49, 3) := by decide +kernel
theorem dX0_meet_23 : decode cX0_meet 23 = .ok (.istore_n 3, 1) := by decide +kernel
theorem dX0_meet_24 : decode cX0_meet 24 = .ok (.aload_n 0, 1) := by decide +kernel
theorem dX0_meet_25 : decode cX0_meet 25 = .ok (.iload_n 3, 1) := by decide +kernel
theorem dX0_meet_26 : decode cX0_meet 26 = .ok (.aload_n 0, 1) := by decide +kernel
theorem dX0_meet_27 : decode cX0_meet 27 = .ok (.getfield 30, 3) := by decide +kernel
theorem dX0_meet_30 : decode cX0_meet 30 = .ok (.getfield 76, 3) := by decide +kernel
theorem dX0_meet_33 : decode cX0_meet 33 = .ok (.iload_n 1, 1) := by decide +kernel
theorem dX0_meet_34 : decode cX0_meet 34 = .ok (.iaload, 1) := by decide +kernel
theorem dX0_meet_35 : decode cX0_meet 35 = .ok (.invokevirtual 79, 3) := by decide +kernel
theorem dX0_meet_38 : decode cX0_meet 38 = .ok (.aload_n 0, 1) := by decide +kernel
theorem dX0_meet_39 : decode cX0_meet 39 = .ok (.aload_n 0, 1) := by decide +kernel
theorem dX0_meet_40 : decode cX0_meet 40 = .ok (.getfield 70, 3) := by decide +kernel
theorem dX0_meet_43 : decode cX0_meet 43 = .ok (.iload_n 3, 1) := by decide +kernel
theorem dX0_meet_44 : decode cX0_meet 44 = .ok (.iload_n 1, 1) := by decide +kernel
theorem dX0_meet_45 : decode cX0_meet 45 = .ok (.invokestatic 60, 3) := by decide +kernel
theorem dX0_meet_48 : decode cX0_meet 48 = .ok (.putfield 70, 3) := by decide +kernel
theorem dX0_meet_51 : decode cX0_meet 51 = .ok (.aload_n 0, 1) := by decide +kernel
theorem dX0_meet_52 : decode cX0_meet 52 = .ok (.dup, 1) := by decide +kernel
theorem dX0_meet_53 : decode cX0_meet 53 = .ok (.getfield 73, 3) := by decide +kernel
theorem dX0_meet_56 : decode cX0_meet 56 = .ok (.iconst 1, 1) := by decide +kernel
theorem dX0_meet_57 : decode cX0_meet 57 = .ok (.iadd, 1) := by decide +kernel
theorem dX0_meet_58 : decode cX0_meet 58 = .ok (.putfield 73, 3) := by decide +kernel
theorem dX0_meet_61 : decode cX0_meet 61 = .ok (.return_, 1) := by decide +kernel
theorem dX1_init_0 : decode cX1_init 0 = .ok (.aload_n 0, 1) := by decide +kernel
theorem dX1_init_1 : decode cX1_init 1 = .ok (.aload_n 1, 1) := by decide +kernel
theorem dX1_init_2 : decode cX1_init 2 = .ok (.invokespecial 3, 3) := by decide +kernel
theorem dX1_init_5 : decode cX1_init 5 = .ok (.return_, 1) := by decide +kernel
theorem dX1_meet_0 : decode cX1_meet 0 = .ok (.aload_n 0, 1) := by decide +kernel
theorem dX1_meet_1 : decode cX1_meet 1 = .ok (.getfield 9, 3) := by decide +kernel
theorem dX1_meet_4 : decode cX1_meet 4 = .ok (.getfield 15, 3) := by decide +kernel
theorem dX1_meet_7 : decode cX1_meet 7 = .ok (.iload_n 1, 1) := by decide +kernel
theorem dX1_meet_8 : decode cX1_meet 8 = .ok (.iaload, 1) := by decide +kernel
theorem dX1_meet_9 : decode cX1_meet 9 = .ok (.istore_n 3, 1) := by decide +kernel
theorem dX1_meet_10 : decode cX1_meet 10 = .ok (.aload_n 0, 1) := by decide +kernel
theorem dX1_meet_11 : decode cX1_meet 11 = .ok (.iload_n 3, 1) := by decide +kernel
theorem dX1_meet_12 : decode cX1_meet 12 = .ok (.invokevirtual 21, 3) := by decide +kernel
theorem dX1_meet_15 : decode cX1_meet 15 = .ok (.ifCond .eq 9, 3) := by decide +kernel
theorem dX1_meet_18 : decode cX1_meet 18 = .ok (.aload_n 0, 1) := by decide +kernel
theorem dX1_meet_19 : decode cX1_meet 19 = .ok (.iconst (-1), 1) := by decide +kernel
theorem dX1_meet_20 : decode cX1_meet 20 = .ok (.putfield 25, 3) := by decide +kernel
theorem dX1_meet_23 : decode cX1_meet 23 = .ok (.return_, 1) := by decide +kernel
theorem dX1_meet_24 : decode cX1_meet 24 = .ok (.aload_n 0, 1) := by decide +kernel
theorem dX1_meet_25 : decode cX1_meet 25 = .ok (.iload_n 3, 1) := by decide +kernel
theorem dX1_meet_26 : decode cX1_meet 26 = .ok (.invokevirtual 29, 3) := by decide +kernel
theorem dX1_meet_29 : decode cX1_meet 29 = .ok (.istore 4, 2) := by decide +kernel
theorem dX1_meet_31 : decode cX1_meet 31 = .ok (.aload_n 0, 1) := by decide +kernel
theorem dX1_meet_32 : decode cX1_meet 32 = .ok (.iload_n 3, 1) := by decide +kernel
theorem dX1_meet_33 : decode cX1_meet 33 = .ok (.invokevirtual 33, 3) := by decide +kernel
theorem dX1_meet_36 : decode cX1_meet 36 = .ok (.istore 5, 2) := by decide +kernel
theorem dX1_meet_38 : decode cX1_meet 38 = .ok (.iload 4, 2) := by decide +kernel
theorem dX1_meet_40 : decode cX1_meet 40 = .ok (.iconst (-1), 1) := by decide +kernel
theorem dX1_meet_41 : decode cX1_meet 41 = .ok (.if_icmp .eq 67, 3) := by decide +kernel
theorem dX1_meet_44 : decode cX1_meet 44 = .ok (.iload 5, 2) := by decide +kernel
theorem dX1_meet_46 : decode cX1_meet 46 = .ok (.iconst (-1), 1) := by decide +kernel
theorem dX1_meet_47 : decode cX1_meet 47 = .ok (.if_icmp .eq 61, 3) := by decide +kernel
theorem dX1_meet_50 : decode cX1_meet 50 = .ok (.iload_n 3, 1) := by decide +kernel
theorem dX1_meet_51 : decode cX1_meet 51 = .ok (.aload_n 0, 1) := by decide +kernel
theorem dX1_meet_52 : decode cX1_meet 52 = .ok (.getfield 36, 3) := by decide +kernel
theorem dX1_meet_55 : decode cX1_meet 55 = .ok (.iload 4, 2) := by decide +kernel
theorem dX1_meet_57 : decode cX1_meet 57 = .ok (.iaload, 1) := by decide +kernel
theorem dX1_meet_58 : decode cX1_meet 58 = .ok (.isub, 1) := by decide +kernel
theorem dX1_meet_59 : decode cX1_meet 59 = .ok (.aload_n 0, 1) := by decide +kernel
theorem dX1_meet_60 : decode cX1_meet 60 = .ok (.getfield 36, 3) := by decide +kernel
theorem dX1_meet_63 : decode cX1_meet 63 = .ok (.iload 5, 2) := by decide +kernel
theorem dX1_meet_65 : decode cX1_meet 65 = .ok (.iaload, 1) := by decide +kernel
theorem dX1_meet_66 : decode cX1_meet 66 = .ok (.iload_n 3, 1) := by decide +kernel
theorem dX1_meet_67 : decode cX1_meet 67 = .ok (.isub, 1) := by decide +kernel
theorem dX1_meet_68 : decode cX1_meet 68 = .ok (.invokestatic 39, 3) := by decide +kernel
theorem dX1_meet_71 : decode cX1_meet 71 = .ok (.istore 6, 2) := by decide +kernel
theorem dX1_meet_73 : decode cX1_meet 73 = .ok (.aload_n 0, 1) := by decide +kernel
theorem dX1_meet_74 : decode cX1_meet 74 = .ok (.iload 4, 2) := by decide +kernel
theorem dX1_meet_76 : decode cX1_meet 76 = .ok (.aload_n 0, 1) := by decide +kernel
theorem dX1_meet_77 : decode cX1_meet 77 = .ok (.getfield 36, 3) := by decide +kernel
theorem dX1_meet_80 : decode cX1_meet 80 = .ok (.iload 4, 2) := by decide +kernel
theorem dX1_meet_82 : decode cX1_meet 82 = .ok (.iaload, 1) := by decide +kernel
theorem dX1_meet_83 : decode cX1_meet 83 = .ok (.iload 6, 2) := by decide +kernel
theorem dX1_meet_85 : decode cX1_meet 85 = .ok (.iadd, 1) := by decide +kernel
theorem dX1_meet_86 : decode cX1_meet 86 = .ok (.invokevirtual 45, 3) := by decide +kernel
theorem dX1_meet_89 : decode cX1_meet 89 = .ok (.aload_n 0, 1) := by decide +kernel
theorem dX1_meet_90 : decode cX1_meet 90 = .ok (.iload 5, 2) := by decide +kernel
theorem dX1_meet_92 : decode cX1_meet 92 = .ok (.aload_n 0, 1) := by decide +kernel
theorem dX1_meet_93 : decode cX1_meet 93 = .ok (.getfield 36, 3) := by decide +kernel
theorem dX1_meet_96 : decode cX1_meet 96 = .ok (.iload 5, 2) := by decide +kernel
theorem dX1_meet_98 : decode cX1_meet 98 = .ok (.iaload, 1) := by decide +kernel
theorem dX1_meet_99 : decode cX1_meet 99 = .ok (.iload 6, 2) := by decide +kernel
theorem dX1_meet_101 : decode cX1_meet 101 = .ok (.isub, 1) := by decide +kernel
theorem dX1_meet_102 : decode cX1_meet 102 = .ok (.invokevirtual 45, 3) := by decide +kernel
theorem dX1_meet_105 : decode cX1_meet 105 = .ok (.goto 32, 3) := by decide +kernel
theorem dX1_meet_108 : decode cX1_meet 108 = .ok (.iload 4, 2) := by decide +kernel
theorem dX1_meet_110 : decode cX1_meet 110 = .ok (.iconst (-1), 1) := by decide +kernel
theorem dX1_meet_111 : decode cX1_meet 111 = .ok (.if_icmp .eq 13, 3) := by decide +kernel
theorem dX1_meet_114 : decode cX1_meet 114 = .ok (.aload_n 0, 1) := by decide +kernel
theorem dX1_meet_115 : decode cX1_meet 115 = .ok (.iload 4, 2) := by decide +kernel
theorem dX1_meet_117 : decode cX1_meet 117 = .ok (.iload_n 3, 1) := by decide +kernel
theorem dX1_meet_118 : decode cX1_meet 118 = .ok (.invokevirtual 45, 3) := by decide +kernel
theorem dX1_meet_121 : decode cX1_meet 121 = .ok (.goto 16, 3) := by decide +kernel
theorem dX1_meet_124 : decode cX1_meet 124 = .ok (.iload 5, 2) := by decide +kernel
theorem dX1_meet_126 : decode cX1_meet 126 = .ok (.iconst (-1), 1) := by decide +kernel
theorem dX1_meet_127 : decode cX1_meet 127 = .ok (.if_icmp .eq 10, 3) := by decide +kernel
theorem dX1_meet_130 : decode cX1_meet 130 = .ok (.aload_n 0, 1) := by decide +kernel
theorem dX1_meet_131 : decode cX1_meet 131 = .ok (.iload 5, 2) := by decide +kernel
theorem dX1_meet_133 : decode cX1_meet 133 = .ok (.iload_n 3, 1) := by decide +kernel
theorem dX1_meet_134 : decode cX1_meet 134 = .ok (.invokevirtual 45, 3) := by decide +kernel
theorem dX1_meet_137 : decode cX1_meet 137 = .ok (.return_, 1) := by decide +kernel
theorem dX1_isServed_0 : decode cX1_isServed 0 = .ok (.iconst 0, 1) := by decide +kernel
theorem dX1_isServed_1 : decode cX1_isServed 1 = .ok (.istore_n 2, 1) := by decide +kernel
theorem dX1_isServed_2 : decode cX1_isServed 2 = .ok (.iload_n 2, 1) := by decide +kernel
theorem dX1_isServed_3 : decode cX1_isServed 3 = .ok (.aload_n 0, 1) := by decide +kernel
theorem dX1_isServed_4 : decode cX1_isServed 4 = .ok (.getfield 9, 3) := by decide +kernel
theorem dX1_isServed_7 : decode cX1_isServed 7 = .ok (.getfield 49, 3) := by decide +kernel
theorem dX1_isServed_10 : decode cX1_isServed 10 = .ok (.if_icmp .ge 21, 3) := by decide +kernel
theorem dX1_isServed_13 : decode cX1_isServed 13 = .ok (.aload_n 0, 1) := by decide +kernel
theorem dX1_isServed_14 : decode cX1_isServed 14 = .ok (.getfield 36, 3) := by decide +kernel
theorem dX1_isServed_17 : decode cX1_isServed 17 = .ok (.iload_n 2, 1) := by decide +kernel
theorem dX1_isServed_18 : decode cX1_isServed 18 = .ok (.iaload, 1) := by decide +kernel
theorem dX1_isServed_19 : decode cX1_isServed 19 = .ok (.iload_n 1, 1) := by decide +kernel
theorem dX1_isServed_20 : decode cX1_isServed 20 = .ok (.if_icmp .ne 5, 3) := by decide +kernel
theorem dX1_isServed_23 : decode cX1_isServed 23 = .ok (.iconst 1, 1) := by decide +kernel
theorem dX1_isServed_24 : decode cX1_isServed 24 = .ok (.ireturn, 1) := by decide +kernel
theorem dX1_isServed_25 : decode cX1_isServed 25 = .ok (.iinc 2 1, 3) := by decide +kernel
theorem dX1_isServed_28 : decode cX1_isServed 28 = .ok (.goto (-26), 3) := by decide +kernel
theorem dX1_isServed_31 : decode cX1_isServed 31 = .ok (.iconst 0, 1) := by decide +kernel
theorem dX1_isServed_32 : decode cX1_isServed 32 = .ok (.ireturn, 1) := by decide +kernel
theorem dX1_nearestBelow_0 : decode cX1_nearestBelow 0 = .ok (.iconst (-1), 1) := by decide +kernel
theorem dX1_nearestBelow_1 : decode cX1_nearestBelow 1 = .ok (.istore_n 2, 1) := by decide +kernel
theorem dX1_nearestBelow_2 : decode cX1_nearestBelow 2 = .ok (.iconst 0, 1) := by decide +kernel
theorem dX1_nearestBelow_3 : decode cX1_nearestBelow 3 = .ok (.istore_n 3, 1) := by decide +kernel
theorem dX1_nearestBelow_4 : decode cX1_nearestBelow 4 = .ok (.iload_n 3, 1) := by decide +kernel
theorem dX1_nearestBelow_5 : decode cX1_nearestBelow 5 = .ok (.aload_n 0, 1) := by decide +kernel
theorem dX1_nearestBelow_6 : decode cX1_nearestBelow 6 = .ok (.getfield 9, 3) := by decide +kernel
theorem dX1_nearestBelow_9 : decode cX1_nearestBelow 9 = .ok (.getfield 49, 3) := by decide +kernel
theorem dX1_nearestBelow_12 : decode cX1_nearestBelow 12 = .ok (.if_icmp .ge 41, 3) := by decide +kernel
theorem dX1_nearestBelow_15 : decode cX1_nearestBelow 15 = .ok (.aload_n 0, 1) := by decide +kernel
theorem dX1_nearestBelow_16 : decode cX1_nearestBelow 16 = .ok (.getfield 36, 3) := by decide +kernel
theorem dX1_nearestBelow_19 : decode cX1_nearestBelow 19 = .ok (.iload_n 3, 1) := by decide +kernel
theorem dX1_nearestBelow_20 : decode cX1_nearestBelow 20 = .ok (.iaload, 1) := by decide +kernel
theorem dX1_nearestBelow_21 : decode cX1_nearestBelow 21 = .ok (.iload_n 1, 1) := by decide +kernel
theorem dX1_nearestBelow_22 : decode cX1_nearestBelow 22 = .ok (.if_icmp .ge 25, 3) := by decide +kernel
theorem dX1_nearestBelow_25 : decode cX1_nearestBelow 25 = .ok (.iload_n 2, 1) := by decide +kernel
theorem dX1_nearestBelow_26 : decode cX1_nearestBelow 26 = .ok (.iconst (-1), 1) := by decide +kernel
theorem dX1_nearestBelow_27 : decode cX1_nearestBelow 27 = .ok (.if_icmp .eq 18, 3) := by decide +kernel
theorem dX1_nearestBelow_30 : decode cX1_nearestBelow 30 = .ok (.aload_n 0, 1) := by decide +kernel
theorem dX1_nearestBelow_31 : decode cX1_nearestBelow 31 = .ok (.getfield 36, 3) := by decide +kernel
theorem dX1_nearestBelow_34 : decode cX1_nearestBelow 34 = .ok (.iload_n 3, 1) := by decide +kernel
theorem dX1_nearestBelow_35 : decode cX1_nearestBelow 35 = .ok (.iaload, 1) := by decide +kernel
theorem dX1_nearestBelow_36 : decode cX1_nearestBelow 36 = .ok (.aload_n 0, 1) := by decide +kernel
theorem dX1_nearestBelow_37 : decode cX1_nearestBelow 37 = .ok (.getfield 36, 3) := by decide +kernel
theorem dX1_nearestBelow_40 : decode cX1_nearestBelow 40 = .ok (.iload_n 2, 1) := by decide +kernel
theorem dX1_nearestBelow_41 : decode cX1_nearestBelow 41 = .ok (.iaload, 1) := by decide +kernel
theorem dX1_nearestBelow_42 : decode cX1_nearestBelow 42 = .ok (.if_icmp .le 5, 3) := by decide +kernel
theorem dX1_nearestBelow_45 : decode cX1_nearestBelow 45 = .ok (.iload_n 3, 1) := by decide +kernel
theorem dX1_nearestBelow_46 : decode cX1_nearestBelow 46 = .ok (.istore_n 2, 1) := by decide +kernel
theorem dX1_nearestBelow_47 : decode cX1_nearestBelow 47 = .ok (.iinc 3 1, 3) := by decide +kernel
theorem dX1_nearestBelow_50 : decode cX1_nearestBelow 50 = .ok (.goto (-46), 3) := by decide +kernel
theorem dX1_nearestBelow_53 : decode cX1_nearestBelow 53 = .ok (.iload_n 2, 1) := by decide +kernel
theorem dX1_nearestBelow_54 : decode cX1_nearestBelow 54 = .ok (.ireturn, 1) := by decide +kernel
theorem dX1_nearestAbove_0 : decode cX1_nearestAbove 0 = .ok (.iconst (-1), 1) := by decide +kernel
theorem dX1_nearestAbove_1 : decode cX1_nearestAbove 1 = .ok (.istore_n 2, 1) := by decide +kernel
theorem dX1_nearestAbove_2 : decode cX1_nearestAbove 2 = .ok (.iconst 0, 1) := by decide +kernel
theorem dX1_nearestAbove_3 : decode cX1_nearestAbove 3 = .ok (.istore_n 3, 1) := by decide +kernel
theorem dX1_nearestAbove_4 : decode cX1_nearestAbove 4 = .ok (.iload_n 3, 1) := by decide +kernel
theorem dX1_nearestAbove_5 : decode cX1_nearestAbove 5 = .ok (.aload_n 0, 1) := by decide +kernel
theorem dX1_nearestAbove_6 : decode cX1_nearestAbove 6 = .ok (.getfield 9, 3) := by decide +kernel
theorem dX1_nearestAbove_9 : decode cX1_nearestAbove 9 = .ok (.getfield 49, 3) := by decide +kernel
theorem dX1_nearestAbove_12 : decode cX1_nearestAbove 12 = .ok (.if_icmp .ge 41, 3) := by decide +kernel
theorem dX1_nearestAbove_15 : decode cX1_nearestAbove 15 = .ok (.aload_n 0, 1) := by decide +kernel
theorem dX1_nearestAbove_16 : decode cX1_nearestAbove 16 = .ok (.getfield 36, 3) := by decide +kernel
theorem dX1_nearestAbove_19 : decode cX1_nearestAbove 19 = .ok (.iload_n 3, 1) := by decide +kernel
theorem dX1_nearestAbove_20 : decode cX1_nearestAbove 20 = .ok (.iaload, 1) := by decide +kernel
theorem dX1_nearestAbove_21 : decode cX1_nearestAbove 21 = .ok (.iload_n 1, 1) := by decide +kernel
theorem dX1_nearestAbove_22 : decode cX1_nearestAbove 22 = .ok (.if_icmp .le 25, 3) := by decide +kernel
theorem dX1_nearestAbove_25 : decode cX1_nearestAbove 25 = .ok (.iload_n 2, 1) := by decide +kernel
theorem dX1_nearestAbove_26 : decode cX1_nearestAbove 26 = .ok (.iconst (-1), 1) := by decide +kernel
theorem dX1_nearestAbove_27 : decode cX1_nearestAbove 27 = .ok (.if_icmp .eq 18, 3) := by decide +kernel
theorem dX1_nearestAbove_30 : decode cX1_nearestAbove 30 = .ok (.aload_n 0, 1) := by decide +kernel
theorem dX1_nearestAbove_31 : decode cX1_nearestAbove 31 = .ok (.getfield 36, 3) := by decide +kernel
theorem dX1_nearestAbove_34 : decode cX1_nearestAbove 34 = .ok (.iload_n 3, 1) := by decide +kernel
theorem dX1_nearestAbove_35 : decode cX1_nearestAbove 35 = .ok (.iaload, 1) := by decide +kernel
theorem dX1_nearestAbove_36 : decode cX1_nearestAbove 36 = .ok (.aload_n 0, 1) := by decide +kernel
theorem dX1_nearestAbove_37 : decode cX1_nearestAbove 37 = .ok (.getfield 36, 3) := by decide +kernel
theorem dX1_nearestAbove_40 : decode cX1_nearestAbove 40 = .ok (.iload_n 2, 1) := by decide +kernel
theorem dX1_nearestAbove_41 : decode cX1_nearestAbove 41 = .ok (.iaload, 1) := by decide +kernel
theorem dX1_nearestAbove_42 : decode cX1_nearestAbove 42 = .ok (.if_icmp .ge 5, 3) := by decide +kernel
theorem dX1_nearestAbove_45 : decode cX1_nearestAbove 45 = .ok (.iload_n 3, 1) := by decide +kernel
theorem dX1_nearestAbove_46 : decode cX1_nearestAbove 46 = .ok (.istore_n 2, 1) := by decide +kernel
theorem dX1_nearestAbove_47 : decode cX1_nearestAbove 47 = .ok (.iinc 3 1, 3) := by decide +kernel
theorem dX1_nearestAbove_50 : decode cX1_nearestAbove 50 = .ok (.goto (-46), 3) := by decide +kernel
theorem dX1_nearestAbove_53 : decode cX1_nearestAbove 53 = .ok (.iload_n 2, 1) := by decide +kernel
theorem dX1_nearestAbove_54 : decode cX1_nearestAbove 54 = .ok (.ireturn, 1) := by decide +kernel
theorem dX2_init_0 : decode cX2_init 0 = .ok (.aload_n 0, 1) := by decide +kernel
theorem dX2_init_1 : decode cX2_init 1 = .ok (.aload_n 1, 1) := by decide +kernel
theorem dX2_init_2 : decode cX2_init 2 = .ok (.invokespecial 3, 3) := by decide +kernel
theorem dX2_init_5 : decode cX2_init 5 = .ok (.aload_n 0, 1) := by decide +kernel
theorem dX2_init_6 : decode cX2_init 6 = .ok (.iconst 3, 1) := by decide +kernel
theorem dX2_init_7 : decode cX2_init 7 = .ok (.putfield 9, 3) := by decide +kernel
theorem dX2_init_10 : decode cX2_init 10 = .ok (.aload_n 0, 1) := by decide +kernel
theorem dX2_init_11 : decode cX2_init 11 = .ok (.new 15, 3) := by decide +kernel
theorem dX2_init_14 : decode cX2_init 14 = .ok (.dup, 1) := by decide +kernel
theorem dX2_init_15 : decode cX2_init 15 = .ok (.aload_n 1, 1) := by decide +kernel
theorem dX2_init_16 : decode cX2_init 16 = .ok (.invokespecial 17, 3) := by decide +kernel
theorem dX2_init_19 : decode cX2_init 19 = .ok (.putfield 18, 3) := by decide +kernel
theorem dX2_init_22 : decode cX2_init 22 = .ok (.aload_n 0, 1) := by decide +kernel
theorem dX2_init_23 : decode cX2_init 23 = .ok (.new 22, 3) := by decide +kernel
theorem dX2_init_26 : decode cX2_init 26 = .ok (.dup, 1) := by decide +kernel
theorem dX2_init_27 : decode cX2_init 27 = .ok (.aload_n 1, 1) := by decide +kernel
theorem dX2_init_28 : decode cX2_init 28 = .ok (.iconst 1, 1) := by decide +kernel
theorem dX2_init_29 : decode cX2_init 29 = .ok (.invokespecial 24, 3) := by decide +kernel
theorem dX2_init_32 : decode cX2_init 32 = .ok (.putfield 27, 3) := by decide +kernel
theorem dX2_init_35 : decode cX2_init 35 = .ok (.return_, 1) := by decide +kernel
theorem dX2_standAtStart_0 : decode cX2_standAtStart 0 = .ok (.aload_n 0, 1) := by decide +kernel
theorem dX2_standAtStart_1 : decode cX2_standAtStart 1 = .ok (.invokespecial 31, 3) := by decide +kernel
theorem dX2_standAtStart_4 : decode cX2_standAtStart 4 = .ok (.aload_n 0, 1) := by decide +kernel
theorem dX2_standAtStart_5 : decode cX2_standAtStart 5 = .ok (.getfield 18, 3) := by decide +kernel
theorem dX2_standAtStart_8 : decode cX2_standAtStart 8 = .ok (.invokevirtual 35, 3) := by decide +kernel
theorem dX2_standAtStart_11 : decode cX2_standAtStart 11 = .ok (.aload_n 0, 1) := by decide +kernel
theorem dX2_standAtStart_12 : decode cX2_standAtStart 12 = .ok (.getfield 27, 3) := by decide +kernel
theorem dX2_standAtStart_15 : decode cX2_standAtStart 15 = .ok (.invokevirtual 36, 3) := by decide +kernel
theorem dX2_standAtStart_18 : decode cX2_standAtStart 18 = .ok (.aload_n 0, 1) := by decide +kernel
theorem dX2_standAtStart_19 : decode cX2_standAtStart 19 = .ok (.iconst 3, 1) := by decide +kernel
theorem dX2_standAtStart_20 : decode cX2_standAtStart 20 = .ok (.putfield 9, 3) := by decide +kernel
theorem dX2_standAtStart_23 : decode cX2_standAtStart 23 = .ok (.return_, 1) := by decide +kernel
theorem dX2_meet_0 : decode cX2_meet 0 = .ok (.aload_n 0, 1) := by decide +kernel
theorem dX2_meet_1 : decode cX2_meet 1 = .ok (.getfield 18, 3) := by decide +kernel
theorem dX2_meet_4 : decode cX2_meet 4 = .ok (.iload_n 1, 1) := by decide +kernel
theorem dX2_meet_5 : decode cX2_meet 5 = .ok (.iload_n 2, 1) := by decide +kernel
theorem dX2_meet_6 : decode cX2_meet 6 = .ok (.invokevirtual 37, 3) := by decide +kernel
theorem dX2_meet_9 : decode cX2_meet 9 = .ok (.aload_n 0, 1) := by decide +kernel
theorem dX2_meet_10 : decode cX2_meet 10 = .ok (.getfield 27, 3) := by decide +kernel
theorem dX2_meet_13 : decode cX2_meet 13 = .ok (.iload_n 1, 1) := by decide +kernel
theorem dX2_meet_14 : decode cX2_meet 14 = .ok (.iload_n 2, 1) := by decide +kernel
theorem dX2_meet_15 : decode cX2_meet 15 = .ok (.invokevirtual 41, 3) := by decide +kernel
theorem dX2_meet_18 : decode cX2_meet 18 = .ok (.aload_n 0, 1) := by decide +kernel
theorem dX2_meet_19 : decode cX2_meet 19 = .ok (.getfield 9, 3) := by decide +kernel
theorem dX2_meet_22 : decode cX2_meet 22 = .ok (.iconst 3, 1) := by decide +kernel
theorem dX2_meet_23 : decode cX2_meet 23 = .ok (.if_icmp .ne 30, 3) := by decide +kernel
theorem dX2_meet_26 : decode cX2_meet 26 = .ok (.aload_n 0, 1) := by decide +kernel
theorem dX2_meet_27 : decode cX2_meet 27 = .ok (.aload_n 0, 1) := by decide +kernel
theorem dX2_meet_28 : decode cX2_meet 28 = .ok (.aload_n 0, 1) := by decide +kernel
theorem dX2_meet_29 : decode cX2_meet 29 = .ok (.getfield 27, 3) := by decide +kernel
theorem dX2_meet_32 : decode cX2_meet 32 = .ok (.aload_n 0, 1) := by decide +kernel
theorem dX2_meet_33 : decode cX2_meet 33 = .ok (.getfield 18, 3) := by decide +kernel
theorem dX2_meet_36 : decode cX2_meet 36 = .ok (.invokevirtual 42, 3) := by decide +kernel
theorem dX2_meet_39 : decode cX2_meet 39 = .ok (.ifCond .eq 7, 3) := by decide +kernel
theorem dX2_meet_42 : decode cX2_meet 42 = .ok (.iconst 1, 1) := by decide +kernel
theorem dX2_meet_43 : decode cX2_meet 43 = .ok (.goto 4, 3) := by decide +kernel
theorem dX2_meet_46 : decode cX2_meet 46 = .ok (.iconst 3, 1) := by decide +kernel
theorem dX2_meet_47 : decode cX2_meet 47 = .ok (.putfield 9, 3) := by decide +kernel
theorem dX2_meet_50 : decode cX2_meet 50 = .ok (.goto 27, 3) := by decide +kernel
theorem dX2_meet_53 : decode cX2_meet 53 = .ok (.aload_n 0, 1) := by decide +kernel
theorem dX2_meet_54 : decode cX2_meet 54 = .ok (.aload_n 0, 1) := by decide +kernel
theorem dX2_meet_55 : decode cX2_meet 55 = .ok (.aload_n 0, 1) := by decide +kernel
theorem dX2_meet_56 : decode cX2_meet 56 = .ok (.getfield 18, 3) := by decide +kernel
theorem dX2_meet_59 : decode cX2_meet 59 = .ok (.aload_n 0, 1) := by decide +kernel
theorem dX2_meet_60 : decode cX2_meet 60 = .ok (.getfield 27, 3) := by decide +kernel
theorem dX2_meet_63 : decode cX2_meet 63 = .ok (.invokevirtual 42, 3) := by decide +kernel
theorem dX2_meet_66 : decode cX2_meet 66 = .ok (.ifCond .eq 7, 3) := by decide +kernel
theorem dX2_meet_69 : decode cX2_meet 69 = .ok (.iconst 3, 1) := by decide +kernel
theorem dX2_meet_70 : decode cX2_meet 70 = .ok (.goto 4, 3) := by decide +kernel
theorem dX2_meet_73 : decode cX2_meet 73 = .ok (.iconst 1, 1) := by decide +kernel
theorem dX2_meet_74 : decode cX2_meet 74 = .ok (.putfield 9, 3) := by decide +kernel
theorem dX2_meet_77 : decode cX2_meet 77 = .ok (.aload_n 0, 1) := by decide +kernel
theorem dX2_meet_78 : decode cX2_meet 78 = .ok (.getfield 9, 3) := by decide +kernel
theorem dX2_meet_81 : decode cX2_meet 81 = .ok (.iconst 3, 1) := by decide +kernel
theorem dX2_meet_82 : decode cX2_meet 82 = .ok (.if_icmp .ne 14, 3) := by decide +kernel
theorem dX2_meet_85 : decode cX2_meet 85 = .ok (.aload_n 0, 1) := by decide +kernel
theorem dX2_meet_86 : decode cX2_meet 86 = .ok (.aload_n 0, 1) := by decide +kernel
theorem dX2_meet_87 : decode cX2_meet 87 = .ok (.getfield 27, 3) := by decide +kernel
theorem dX2_meet_90 : decode cX2_meet 90 = .ok (.invokevirtual 46, 3) := by decide +kernel
theorem dX2_meet_93 : decode cX2_meet 93 = .ok (.goto 11, 3) := by decide +kernel
theorem dX2_meet_96 : decode cX2_meet 96 = .ok (.aload_n 0, 1) := by decide +kernel
theorem dX2_meet_97 : decode cX2_meet 97 = .ok (.aload_n 0, 1) := by decide +kernel
theorem dX2_meet_98 : decode cX2_meet 98 = .ok (.getfield 18, 3) := by decide +kernel
theorem dX2_meet_101 : decode cX2_meet 101 = .ok (.invokevirtual 46, 3) := by decide +kernel
theorem dX2_meet_104 : decode cX2_meet 104 = .ok (.return_, 1) := by decide +kernel
theorem dX2_isTooDear_0 : decode cX2_isTooDear 0 = .ok (.aload_n 1, 1) := by decide +kernel
theorem dX2_isTooDear_1 : decode cX2_isTooDear 1 = .ok (.getfield 50, 3) := by decide +kernel
theorem dX2_isTooDear_4 : decode cX2_isTooDear 4 = .ok (.aload_n 0, 1) := by decide +kernel
theorem dX2_isTooDear_5 : decode cX2_isTooDear 5 = .ok (.getfield 53, 3) := by decide +kernel
theorem dX2_isTooDear_8 : decode cX2_isTooDear 8 = .ok (.getfield 57, 3) := by decide +kernel
theorem dX2_isTooDear_11 : decode cX2_isTooDear 11 = .ok (.aload_n 2, 1) := by decide +kernel
theorem dX2_isTooDear_12 : decode cX2_isTooDear 12 = .ok (.getfield 50, 3) := by decide +kernel
theorem dX2_isTooDear_15 : decode cX2_isTooDear 15 = .ok (.imul, 1) := by decide +kernel
theorem dX2_isTooDear_16 : decode cX2_isTooDear 16 = .ok (.if_icmp .le 7, 3) := by decide +kernel
theorem dX2_isTooDear_19 : decode cX2_isTooDear 19 = .ok (.iconst 1, 1) := by decide +kernel
theorem dX2_isTooDear_20 : decode cX2_isTooDear 20 = .ok (.goto 4, 3) := by decide +kernel
theorem dX2_isTooDear_23 : decode cX2_isTooDear 23 = .ok (.iconst 0, 1) := by decide +kernel
theorem dX2_isTooDear_24 : decode cX2_isTooDear 24 = .ok (.ireturn, 1) := by decide +kernel
theorem dX2_standAs_0 : decode cX2_standAs 0 = .ok (.aload_n 0, 1) := by decide +kernel
theorem dX2_standAs_1 : decode cX2_standAs 1 = .ok (.dup, 1) := by decide +kernel
theorem dX2_standAs_2 : decode cX2_standAs 2 = .ok (.getfield 62, 3) := by decide +kernel
theorem dX2_standAs_5 : decode cX2_standAs 5 = .ok (.aload_n 0, 1) := by decide +kernel
theorem dX2_standAs_6 : decode cX2_standAs 6 = .ok (.getfield 53, 3) := by decide +kernel
theorem dX2_standAs_9 : decode cX2_standAs 9 = .ok (.aload_n 0, 1) := by decide +kernel
theorem dX2_standAs_10 : decode cX2_standAs 10 = .ok (.getfield 63, 3) := by decide +kernel
theorem dX2_standAs_13 : decode cX2_standAs 13 = .ok (.aload_n 1, 1) := by decide +kernel
theorem dX2_standAs_14 : decode cX2_standAs 14 = .ok (.getfield 67, 3) := by decide +kernel
theorem dX2_standAs_17 : decode cX2_standAs 17 = .ok (.invokevirtual 68, 3) := by decide +kernel
theorem dX2_standAs_20 : decode cX2_standAs 20 = .ok (.iadd, 1) := by decide +kernel
theorem dX2_standAs_21 : decode cX2_standAs 21 = .ok (.putfield 62, 3) := by decide +kernel
theorem dX2_standAs_24 : decode cX2_standAs 24 = .ok (.iconst 0, 1) := by decide +kernel
theorem dX2_standAs_25 : decode cX2_standAs 25 = .ok (.istore_n 2, 1) := by decide +kernel
theorem dX2_standAs_26 : decode cX2_standAs 26 = .ok (.iload_n 2, 1) := by decide +kernel
theorem dX2_standAs_27 : decode cX2_standAs 27 = .ok (.aload_n 0, 1) := by decide +kernel
theorem dX2_standAs_28 : decode cX2_standAs 28 = .ok (.getfield 53, 3) := by decide +kernel
theorem dX2_standAs_31 : decode cX2_standAs 31 = .ok (.getfield 72, 3) := by decide +kernel
theorem dX2_standAs_34 : decode cX2_standAs 34 = .ok (.if_icmp .ge 21, 3) := by decide +kernel
theorem dX2_standAs_37 : decode cX2_standAs 37 = .ok (.aload_n 0, 1) := by decide +kernel
theorem dX2_standAs_38 : decode cX2_standAs 38 = .ok (.getfield 63, 3) := by decide +kernel
theorem dX2_standAs_41 : decode cX2_standAs 41 = .ok (.iload_n 2, 1) := by decide +kernel
theorem dX2_standAs_42 : decode cX2_standAs 42 = .ok (.aload_n 1, 1) := by decide +kernel
theorem dX2_standAs_43 : decode cX2_standAs 43 = .ok (.getfield 67, 3) := by decide +kernel
theorem dX2_standAs_46 : decode cX2_standAs 46 = .ok (.iload_n 2, 1) := by decide +kernel
theorem dX2_standAs_47 : decode cX2_standAs 47 = .ok (.iaload, 1) := by decide +kernel
theorem dX2_standAs_48 : decode cX2_standAs 48 = .ok (.iastore, 1) := by decide +kernel
theorem dX2_standAs_49 : decode cX2_standAs 49 = .ok (.iinc 2 1, 3) := by decide +kernel
theorem dX2_standAs_52 : decode cX2_standAs 52 = .ok (.goto (-26), 3) := by decide +kernel
theorem dX2_standAs_55 : decode cX2_standAs 55 = .ok (.return_, 1) := by decide +kernel
theorem dX3_init_0 : decode cX3_init 0 = .ok (.aload_n 0, 1) := by decide +kernel
theorem dX3_init_1 : decode cX3_init 1 = .ok (.invokespecial 3, 3) := by decide +kernel
theorem dX3_init_4 : decode cX3_init 4 = .ok (.aload_n 0, 1) := by decide +kernel
theorem dX3_init_5 : decode cX3_init 5 = .ok (.iconst 1, 1) := by decide +kernel
theorem dX3_init_6 : decode cX3_init 6 = .ok (.putfield 9, 3) := by decide +kernel
theorem dX3_init_9 : decode cX3_init 9 = .ok (.aload_n 0, 1) := by decide +kernel
theorem dX3_init_10 : decode cX3_init 10 = .ok (.iconst 1, 1) := by decide +kernel
theorem dX3_init_11 : decode cX3_init 11 = .ok (.putfield 15, 3) := by decide +kernel
theorem dX3_init_14 : decode cX3_init 14 = .ok (.aload_n 0, 1) := by decide +kernel
theorem dX3_init_15 : decode cX3_init 15 = .ok (.iconst 2, 1) := by decide +kernel
theorem dX3_init_16 : decode cX3_init 16 = .ok (.putfield 18, 3) := by decide +kernel
theorem dX3_init_19 : decode cX3_init 19 = .ok (.aload_n 0, 1) := by decide +kernel
theorem dX3_init_20 : decode cX3_init 20 = .ok (.bipush 6, 2) := by decide +kernel
theorem dX3_init_22 : decode cX3_init 22 = .ok (.newarray .int, 2) := by decide +kernel
theorem dX3_init_24 : decode cX3_init 24 = .ok (.putfield 21, 3) := by decide +kernel
theorem dX3_init_27 : decode cX3_init 27 = .ok (.aload_n 0, 1) := by decide +kernel
theorem dX3_init_28 : decode cX3_init 28 = .ok (.iconst 3, 1) := by decide +kernel
theorem dX3_init_29 : decode cX3_init 29 = .ok (.newarray .int, 2) := by decide +kernel
theorem dX3_init_31 : decode cX3_init 31 = .ok (.putfield 25, 3) := by decide +kernel
theorem dX3_init_34 : decode cX3_init 34 = .ok (.aload_n 0, 1) := by decide +kernel
theorem dX3_init_35 : decode cX3_init 35 = .ok (.sipush 216, 3) := by decide +kernel
theorem dX3_init_38 : decode cX3_init 38 = .ok (.newarray .int, 2) := by decide +kernel
theorem dX3_init_40 : decode cX3_init 40 = .ok (.putfield 28, 3) := by decide +kernel
theorem dX3_init_43 : decode cX3_init 43 = .ok (.aload_n 0, 1) := by decide +kernel
theorem dX3_init_44 : decode cX3_init 44 = .ok (.bipush 56, 2) := by decide +kernel
theorem dX3_init_46 : decode cX3_init 46 = .ok (.newarray .int, 2) := by decide +kernel
theorem dX3_init_48 : decode cX3_init 48 = .ok (.putfield 31, 3) := by decide +kernel
theorem dX3_init_51 : decode cX3_init 51 = .ok (.aload_n 0, 1) := by decide +kernel
theorem dX3_init_52 : decode cX3_init 52 = .ok (.invokevirtual 34, 3) := by decide +kernel
theorem dX3_init_55 : decode cX3_init 55 = .ok (.aload_n 0, 1) := by decide +kernel
theorem dX3_init_56 : decode cX3_init 56 = .ok (.invokevirtual 37, 3) := by decide +kernel
theorem dX3_init_59 : decode cX3_init 59 = .ok (.return_, 1) := by decide +kernel
theorem dX3_resizePoints_0 : decode cX3_resizePoints 0 = .ok (.aload_n 0, 1) := by decide +kernel
theorem dX3_resizePoints_1 : decode cX3_resizePoints 1 = .ok (.iload_n 1, 1) := by decide +kernel
theorem dX3_resizePoints_2 : decode cX3_resizePoints 2 = .ok (.putfield 9, 3) := by decide +kernel
theorem dX3_resizePoints_5 : decode cX3_resizePoints 5 = .ok (.iload_n 1, 1) := by decide +kernel
theorem dX3_resizePoints_6 : decode cX3_resizePoints 6 = .ok (.istore_n 2, 1) := by decide +kernel
theorem dX3_resizePoints_7 : decode cX3_resizePoints 7 = .ok (.iload_n 2, 1) := by decide +kernel
theorem dX3_resizePoints_8 : decode cX3_resizePoints 8 = .ok (.bipush 6, 2) := by decide +kernel
theorem dX3_resizePoints_10 : decode cX3_resizePoints 10 = .ok (.if_icmp .ge 16, 3) := by decide +kernel
theorem dX3_resizePoints_13 : decode cX3_resizePoints 13 = .ok (.aload_n 0, 1) := by decide +kernel
theorem dX3_resizePoints_14 : decode cX3_resizePoints 14 = .ok (.getfield 21, 3) := by decide +kernel
theorem dX3_resizePoints_17 : decode cX3_resizePoints 17 = .ok (.iload_n 2, 1) := by decide +kernel
theorem dX3_resizePoints_18 : decode cX3_resizePoints 18 = .ok (.iconst 0, 1) := by decide +kernel
theorem dX3_resizePoints_19 : decode cX3_resizePoints 19 = .ok (.iastore, 1) := by decide +kernel
theorem dX3_resizePoints_20 : decode cX3_resizePoints 20 = .ok (.iinc 2 1, 3) := by decide +kernel
theorem dX3_resizePoints_23 : decode cX3_resizePoints 23 = .ok (.goto (-16), 3) := by decide +kernel
theorem dX3_resizePoints_26 : decode cX3_resizePoints 26 = .ok (.iconst 0, 1) := by decide +kernel
theorem dX3_resizePoints_27 : decode cX3_resizePoints 27 = .ok (.istore_n 2, 1) := by decide +kernel
theorem dX3_resizePoints_28 : decode cX3_resizePoints 28 = .ok (.iload_n 2, 1) := by decide +kernel
theorem dX3_resizePoints_29 : decode cX3_resizePoints 29 = .ok (.iconst 3, 1) := by decide +kernel
theorem dX3_resizePoints_30 : decode cX3_resizePoints 30 = .ok (.if_icmp .ge 26, 3) := by decide +kernel
theorem dX3_resizePoints_33 : decode cX3_resizePoints 33 = .ok (.aload_n 0, 1) := by decide +kernel
theorem dX3_resizePoints_34 : decode cX3_resizePoints 34 = .ok (.getfield 25, 3) := by decide +kernel
theorem dX3_resizePoints_37 : decode cX3_resizePoints 37 = .ok (.iload_n 2, 1) := by decide +kernel
theorem dX3_resizePoints_38 : decode cX3_resizePoints 38 = .ok (.iaload, 1) := by decide +kernel
theorem dX3_resizePoints_39 : decode cX3_resizePoints 39 = .ok (.iload_n 1, 1) := by decide +kernel
theorem dX3_resizePoints_40 : decode cX3_resizePoints 40 = .ok (.if_icmp .lt 10, 3) := by decide +kernel
theorem dX3_resizePoints_43 : decode cX3_resizePoints 43 = .ok (.aload_n 0, 1) := by decide +kernel
theorem dX3_resizePoints_44 : decode cX3_resizePoints 44 = .ok (.getfield 25, 3) := by decide +kernel
theorem dX3_resizePoints_47 : decode cX3_resizePoints 47 = .ok (.iload_n 2, 1) := by decide +kernel
theorem dX3_resizePoints_48 : decode cX3_resizePoints 48 = .ok (.iconst 0, 1) := by decide +kernel
theorem dX3_resizePoints_49 : decode cX3_resizePoints 49 = .ok (.iastore, 1) := by decide +kernel
theorem dX3_resizePoints_50 : decode cX3_resizePoints 50 = .ok (.iinc 2 1, 3) := by decide +kernel
theorem dX3_resizePoints_53 : decode cX3_resizePoints 53 = .ok (.goto (-25), 3) := by decide +kernel
theorem dX3_resizePoints_56 : decode cX3_resizePoints 56 = .ok (.aload_n 0, 1) := by decide +kernel
theorem dX3_resizePoints_57 : decode cX3_resizePoints 57 = .ok (.invokevirtual 37, 3) := by decide +kernel
theorem dX3_resizePoints_60 : decode cX3_resizePoints 60 = .ok (.return_, 1) := by decide +kernel
theorem dX3_resizeServers_0 : decode cX3_resizeServers 0 = .ok (.aload_n 0, 1) := by decide +kernel
theorem dX3_resizeServers_1 : decode cX3_resizeServers 1 = .ok (.iload_n 1, 1) := by decide +kernel
theorem dX3_resizeServers_2 : decode cX3_resizeServers 2 = .ok (.putfield 15, 3) := by decide +kernel
theorem dX3_resizeServers_5 : decode cX3_resizeServers 5 = .ok (.iload_n 1, 1) := by decide +kernel
theorem dX3_resizeServers_6 : decode cX3_resizeServers 6 = .ok (.istore_n 2, 1) := by decide +kernel
theorem dX3_resizeServers_7 : decode cX3_resizeServers 7 = .ok (.iload_n 2, 1) := by decide +kernel
theorem dX3_resizeServers_8 : decode cX3_resizeServers 8 = .ok (.iconst 3, 1) := by decide +kernel
theorem dX3_resizeServers_9 : decode cX3_resizeServers 9 = .ok (.if_icmp .ge 16, 3) := by decide +kernel
theorem dX3_resizeServers_12 : decode cX3_resizeServers 12 = .ok (.aload_n 0, 1) := by decide +kernel
theorem dX3_resizeServers_13 : decode cX3_resizeServers 13 = .ok (.getfield 25, 3) := by decide +kernel
theorem dX3_resizeServers_16 : decode cX3_resizeServers 16 = .ok (.iload_n 2, 1) := by decide +kernel
theorem dX3_resizeServers_17 : decode cX3_resizeServers 17 = .ok (.iconst 0, 1) := by decide +kernel
theorem dX3_resizeServers_18 : decode cX3_resizeServers 18 = .ok (.iastore, 1) := by decide +kernel
theorem dX3_resizeServers_19 : decode cX3_resizeServers 19 = .ok (.iinc 2 1, 3) := by decide +kernel
theorem dX3_resizeServers_22 : decode cX3_resizeServers 22 = .ok (.goto (-15), 3) := by decide +kernel
theorem dX3_resizeServers_25 : decode cX3_resizeServers 25 = .ok (.aload_n 0, 1) := by decide +kernel
theorem dX3_resizeServers_26 : decode cX3_resizeServers 26 = .ok (.invokevirtual 37, 3) := by decide +kernel
theorem dX3_resizeServers_29 : decode cX3_resizeServers 29 = .ok (.return_, 1) := by decide +kernel
theorem dX3_numberCrowds_0 : decode cX3_numberCrowds 0 = .ok (.iconst 0, 1) := by decide +kernel
theorem dX3_numberCrowds_1 : decode cX3_numberCrowds 1 = .ok (.istore_n 1, 1) := by decide +kernel
theorem dX3_numberCrowds_2 : decode cX3_numberCrowds 2 = .ok (.iconst 0, 1) := by decide +kernel
theorem dX3_numberCrowds_3 : decode cX3_numberCrowds 3 = .ok (.istore_n 2, 1) := by decide +kernel
theorem dX3_numberCrowds_4 : decode cX3_numberCrowds 4 = .ok (.iload_n 2, 1) := by decide +kernel
theorem dX3_numberCrowds_5 : decode cX3_numberCrowds 5 = .ok (.bipush 6, 2) := by decide +kernel
theorem dX3_numberCrowds_7 : decode cX3_numberCrowds 7 = .ok (.if_icmp .ge 120, 3) := by decide +kernel
theorem dX3_numberCrowds_10 : decode cX3_numberCrowds 10 = .ok (.iload_n 2, 1) := by decide +kernel
theorem dX3_numberCrowds_11 : decode cX3_numberCrowds 11 = .ok (.istore_n 3, 1) := by decide +kernel
theorem dX3_numberCrowds_12 : decode cX3_numberCrowds 12 = .ok (.iload_n 3, 1) := by decide +kernel
theorem dX3_numberCrowds_13 : decode cX3_numberCrowds 13 = .ok (.bipush 6, 2) := by decide +kernel
theorem dX3_numberCrowds_15 : decode cX3_numberCrowds 15 = .ok (.if_icmp .ge 106, 3) := by decide +kernel
theorem dX3_numberCrowds_18 : decode cX3_numberCrowds 18 = .ok (.iload_n 3, 1) := by decide +kernel
theorem dX3_numberCrowds_19 : decode cX3_numberCrowds 19 = .ok (.istore 4, 2) := by decide +kernel
theorem dX3_numberCrowds_21 : decode cX3_numberCrowds 21 = .ok (.iload 4, 2) := by decide +kernel
theorem dX3_numberCrowds_23 : decode cX3_numberCrowds 23 = .ok (.bipush 6, 2) := by decide +kernel
theorem dX3_numberCrowds_25 : decode cX3_numberCrowds 25 = .ok (.if_icmp .ge 90, 3) := by decide +kernel
theorem dX3_numberCrowds_28 : decode cX3_numberCrowds 28 = .ok (.aload_n 0, 1) := by decide +kernel
theorem dX3_numberCrowds_29 : decode cX3_numberCrowds 29 = .ok (.getfield 28, 3) := by decide +kernel
theorem dX3_numberCrowds_32 : decode cX3_numberCrowds 32 = .ok (.iload 4, 2) := by decide +kernel
theorem dX3_numberCrowds_34 : decode cX3_numberCrowds 34 = .ok (.iload_n 3, 1) := by decide +kernel
theorem dX3_numberCrowds_35 : decode cX3_numberCrowds 35 = .ok (.iload_n 2, 1) := by decide +kernel
theorem dX3_numberCrowds_36 : decode cX3_numberCrowds 36 = .ok (.invokestatic 40, 3) := by decide +kernel
theorem dX3_numberCrowds_39 : decode cX3_numberCrowds 39 = .ok (.iload_n 1, 1) := by decide +kernel
theorem dX3_numberCrowds_40 : decode cX3_numberCrowds 40 = .ok (.iastore, 1) := by decide +kernel
theorem dX3_numberCrowds_41 : decode cX3_numberCrowds 41 = .ok (.aload_n 0, 1) := by decide +kernel
theorem dX3_numberCrowds_42 : decode cX3_numberCrowds 42 = .ok (.getfield 28, 3) := by decide +kernel
theorem dX3_numberCrowds_45 : decode cX3_numberCrowds 45 = .ok (.iload 4, 2) := by decide +kernel
theorem dX3_numberCrowds_47 : decode cX3_numberCrowds 47 = .ok (.iload_n 2, 1) := by decide +kernel
theorem dX3_numberCrowds_48 : decode cX3_numberCrowds 48 = .ok (.iload_n 3, 1) := by decide +kernel
theorem dX3_numberCrowds_49 : decode cX3_numberCrowds 49 = .ok (.invokestatic 40, 3) := by decide +kernel
theorem dX3_numberCrowds_52 : decode cX3_numberCrowds 52 = .ok (.iload_n 1, 1) := by decide +kernel
theorem dX3_numberCrowds_53 : decode cX3_numberCrowds 53 = .ok (.iastore, 1) := by decide +kernel
theorem dX3_numberCrowds_54 : decode cX3_numberCrowds 54 = .ok (.aload_n 0, 1) := by decide +kernel
theorem dX3_numberCrowds_55 : decode cX3_numberCrowds 55 = .ok (.getfield 28, 3) := by decide +kernel
theorem dX3_numberCrowds_58 : decode cX3_numberCrowds 58 = .ok (.iload_n 3, 1) := by decide +kernel
theorem dX3_numberCrowds_59 : decode cX3_numberCrowds 59 = .ok (.iload 4, 2) := by decide +kernel
theorem dX3_numberCrowds_61 : decode cX3_numberCrowds 61 = .ok (.iload_n 2, 1) := by decide +kernel
theorem dX3_numberCrowds_62 : decode cX3_numberCrowds 62 = .ok (.invokestatic 40, 3) := by decide +kernel
theorem dX3_numberCrowds_65 : decode cX3_numberCrowds 65 = .ok (.iload_n 1, 1) := by decide +kernel
theorem dX3_numberCrowds_66 : decode cX3_numberCrowds 66 = .ok (.iastore, 1) := by decide +kernel
theorem dX3_numberCrowds_67 : decode cX3_numberCrowds 67 = .ok (.aload_n 0, 1) := by decide +kernel
theorem dX3_numberCrowds_68 : decode cX3_numberCrowds 68 = .ok (.getfield 28, 3) := by decide +kernel
theorem dX3_numberCrowds_71 : decode cX3_numberCrowds 71 = .ok (.iload_n 3, 1) := by decide +kernel
theorem dX3_numberCrowds_72 : decode cX3_numberCrowds 72 = .ok (.iload_n 2, 1) := by decide +kernel
theorem dX3_numberCrowds_73 : decode cX3_numberCrowds 73 = .ok (.iload 4, 2) := by decide +kernel
theorem dX3_numberCrowds_75 : decode cX3_numberCrowds 75 = .ok (.invokestatic 40, 3) := by decide +kernel
theorem dX3_numberCrowds_78 : decode cX3_numberCrowds 78 = .ok (.iload_n 1, 1) := by decide +kernel
theorem dX3_numberCrowds_79 : decode cX3_numberCrowds 79 = .ok (.iastore, 1) := by decide +kernel
theorem dX3_numberCrowds_80 : decode cX3_numberCrowds 80 = .ok (.aload_n 0, 1) := by decide +kernel
theorem dX3_numberCrowds_81 : decode cX3_numberCrowds 81 = .ok (.getfield 28, 3) := by decide +kernel
theorem dX3_numberCrowds_84 : decode cX3_numberCrowds 84 = .ok (.iload_n 2, 1) := by decide +kernel
theorem dX3_numberCrowds_85 : decode cX3_numberCrowds 85 = .ok (.iload 4, 2) := by decide +kernel
theorem dX3_numberCrowds_87 : decode cX3_numberCrowds 87 = .ok (.iload_n 3, 1) := by decide +kernel
theorem dX3_numberCrowds_88 : decode cX3_numberCrowds 88 = .ok (.invokestatic 40, 3) := by decide +kernel
theorem dX3_numberCrowds_91 : decode cX3_numberCrowds 91 = .ok (.iload_n 1, 1) := by decide +kernel
theorem dX3_numberCrowds_92 : decode cX3_numberCrowds 92 = .ok (.iastore, 1) := by decide +kernel
theorem dX3_numberCrowds_93 : decode cX3_numberCrowds 93 = .ok (.aload_n 0, 1) := by decide +kernel
theorem dX3_numberCrowds_94 : decode cX3_numberCrowds 94 = .ok (.getfield 28, 3) := by decide +kernel
theorem dX3_numberCrowds_97 : decode cX3_numberCrowds 97 = .ok (.iload_n 2, 1) := by decide +kernel
theorem dX3_numberCrowds_98 : decode cX3_numberCrowds 98 = .ok (.iload_n 3, 1) := by decide +kernel
theorem dX3_numberCrowds_99 : decode cX3_numberCrowds 99 = .ok (.iload 4, 2) := by decide +kernel
theorem dX3_numberCrowds_101 : decode cX3_numberCrowds 101 = .ok (.invokestatic 40, 3) := by decide +kernel
theorem dX3_numberCrowds_104 : decode cX3_numberCrowds 104 = .ok (.iload_n 1, 1) := by decide +kernel
theorem dX3_numberCrowds_105 : decode cX3_numberCrowds 105 = .ok (.iastore, 1) := by decide +kernel
theorem dX3_numberCrowds_106 : decode cX3_numberCrowds 106 = .ok (.iinc 1 1, 3) := by decide +kernel
theorem dX3_numberCrowds_109 : decode cX3_numberCrowds 109 = .ok (.iinc 4 1, 3) := by decide +kernel
theorem dX3_numberCrowds_112 : decode cX3_numberCrowds 112 = .ok (.goto (-91), 3) := by decide +kernel
theorem dX3_numberCrowds_115 : decode cX3_numberCrowds 115 = .ok (.iinc 3 1, 3) := by decide +kernel
theorem dX3_numberCrowds_118 : decode cX3_numberCrowds 118 = .ok (.goto (-106), 3) := by decide +kernel
theorem dX3_numberCrowds_121 : decode cX3_numberCrowds 121 = .ok (.iinc 2 1, 3) := by decide +kernel
theorem dX3_numberCrowds_124 : decode cX3_numberCrowds 124 = .ok (.goto (-120), 3) := by decide +kernel
theorem dX3_numberCrowds_127 : decode cX3_numberCrowds 127 = .ok (.return_, 1) := by decide +kernel
theorem dX3_listCrowds_0 : decode cX3_listCrowds 0 = .ok (.iconst 0, 1) := by decide +kernel
theorem dX3_listCrowds_1 : decode cX3_listCrowds 1 = .ok (.istore_n 1, 1) := by decide +kernel
theorem dX3_listCrowds_2 : decode cX3_listCrowds 2 = .ok (.iconst 0, 1) := by decide +kernel
theorem dX3_listCrowds_3 : decode cX3_listCrowds 3 = .ok (.istore_n 2, 1) := by decide +kernel
theorem dX3_listCrowds_4 : decode cX3_listCrowds 4 = .ok (.iload_n 2, 1) := by decide +kernel
theorem dX3_listCrowds_5 : decode cX3_listCrowds 5 = .ok (.aload_n 0, 1) := by decide +kernel
theorem dX3_listCrowds_6 : decode cX3_listCrowds 6 = .ok (.iconst 2, 1) := by decide +kernel
theorem dX3_listCrowds_7 : decode cX3_listCrowds 7 = .ok (.invokevirtual 44, 3) := by decide +kernel
theorem dX3_listCrowds_10 : decode cX3_listCrowds 10 = .ok (.if_icmp .ge 61, 3) := by decide +kernel
theorem dX3_listCrowds_13 : decode cX3_listCrowds 13 = .ok (.iload_n 2, 1) := by decide +kernel
theorem dX3_listCrowds_14 : decode cX3_listCrowds 14 = .ok (.istore_n 3, 1) := by decide +kernel
theorem dX3_listCrowds_15 : decode cX3_listCrowds 15 = .ok (.iload_n 3, 1) := by decide +kernel
theorem dX3_listCrowds_16 : decode cX3_listCrowds 16 = .ok (.aload_n 0, 1) := by decide +kernel
theorem dX3_listCrowds_17 : decode cX3_listCrowds 17 = .ok (.iconst 1, 1) := by decide +kernel
theorem dX3_listCrowds_18 : decode cX3_listCrowds 18 = .ok (.invokevirtual 44, 3) := by decide +kernel
theorem dX3_listCrowds_21 : decode cX3_listCrowds 21 = .ok (.if_icmp .ge 44, 3) := by decide +kernel
theorem dX3_listCrowds_24 : decode cX3_listCrowds 24 = .ok (.iload_n 3, 1) := by decide +kernel
theorem dX3_listCrowds_25 : decode cX3_listCrowds 25 = .ok (.istore 4, 2) := by decide +kernel
theorem dX3_listCrowds_27 : decode cX3_listCrowds 27 = .ok (.iload 4, 2) := by decide +kernel
theorem dX3_listCrowds_29 : decode cX3_listCrowds 29 = .ok (.aload_n 0, 1) := by decide +kernel
theorem dX3_listCrowds_30 : decode cX3_listCrowds 30 = .ok (.iconst 0, 1) := by decide +kernel
theorem dX3_listCrowds_31 : decode cX3_listCrowds 31 = .ok (.invokevirtual 44, 3) := by decide +kernel
theorem dX3_listCrowds_34 : decode cX3_listCrowds 34 = .ok (.if_icmp .ge 25, 3) := by decide +kernel
theorem dX3_listCrowds_37 : decode cX3_listCrowds 37 = .ok (.aload_n 0, 1) := by decide +kernel
theorem dX3_listCrowds_38 : decode cX3_listCrowds 38 = .ok (.getfield 31, 3) := by decide +kernel
theorem dX3_listCrowds_41 : decode cX3_listCrowds 41 = .ok (.iload_n 1, 1) := by decide +kernel
theorem dX3_listCrowds_42 : decode cX3_listCrowds 42 = .ok (.iload 4, 2) := by decide +kernel
theorem dX3_listCrowds_44 : decode cX3_listCrowds 44 = .ok (.iload_n 3, 1) := by decide +kernel
theorem dX3_listCrowds_45 : decode cX3_listCrowds 45 = .ok (.iload_n 2, 1) := by decide +kernel
theorem dX3_listCrowds_46 : decode cX3_listCrowds 46 = .ok (.invokestatic 40, 3) := by decide +kernel
theorem dX3_listCrowds_49 : decode cX3_listCrowds 49 = .ok (.iastore, 1) := by decide +kernel
theorem dX3_listCrowds_50 : decode cX3_listCrowds 50 = .ok (.iinc 1 1, 3) := by decide +kernel
theorem dX3_listCrowds_53 : decode cX3_listCrowds 53 = .ok (.iinc 4 1, 3) := by decide +kernel
theorem dX3_listCrowds_56 : decode cX3_listCrowds 56 = .ok (.goto (-29), 3) := by decide +kernel
theorem dX3_listCrowds_59 : decode cX3_listCrowds 59 = .ok (.iinc 3 1, 3) := by decide +kernel
theorem dX3_listCrowds_62 : decode cX3_listCrowds 62 = .ok (.goto (-47), 3) := by decide +kernel
theorem dX3_listCrowds_65 : decode cX3_listCrowds 65 = .ok (.iinc 2 1, 3) := by decide +kernel
theorem dX3_listCrowds_68 : decode cX3_listCrowds 68 = .ok (.goto (-64), 3) := by decide +kernel
theorem dX3_listCrowds_71 : decode cX3_listCrowds 71 = .ok (.aload_n 0, 1) := by decide +kernel
theorem dX3_listCrowds_72 : decode cX3_listCrowds 72 = .ok (.iload_n 1, 1) := by decide +kernel
theorem dX3_listCrowds_73 : decode cX3_listCrowds 73 = .ok (.putfield 48, 3) := by decide +kernel
theorem dX3_listCrowds_76 : decode cX3_listCrowds 76 = .ok (.return_, 1) := by decide +kernel
theorem dX3_choicesOf_0 : decode cX3_choicesOf 0 = .ok (.iload_n 1, 1) := by decide +kernel
theorem dX3_choicesOf_1 : decode cX3_choicesOf 1 = .ok (.aload_n 0, 1) := by decide +kernel
theorem dX3_choicesOf_2 : decode cX3_choicesOf 2 = .ok (.getfield 15, 3) := by decide +kernel
theorem dX3_choicesOf_5 : decode cX3_choicesOf 5 = .ok (.if_icmp .ge 10, 3) := by decide +kernel
theorem dX3_choicesOf_8 : decode cX3_choicesOf 8 = .ok (.aload_n 0, 1) := by decide +kernel
theorem dX3_choicesOf_9 : decode cX3_choicesOf 9 = .ok (.getfield 9, 3) := by decide +kernel
theorem dX3_choicesOf_12 : decode cX3_choicesOf 12 = .ok (.goto 4, 3) := by decide +kernel
theorem dX3_choicesOf_15 : decode cX3_choicesOf 15 = .ok (.iconst 1, 1) := by decide +kernel
theorem dX3_choicesOf_16 : decode cX3_choicesOf 16 = .ok (.ireturn, 1) := by decide +kernel
theorem dX3_coded_0 : decode cX3_coded 0 = .ok (.iload_n 0, 1) := by decide +kernel
theorem dX3_coded_1 : decode cX3_coded 1 = .ok (.bipush 6, 2) := by decide +kernel
theorem dX3_coded_3 : decode cX3_coded 3 = .ok (.iload_n 1, 1) := by decide +kernel
theorem dX3_coded_4 : decode cX3_coded 4 = .ok (.imul, 1) := by decide +kernel
theorem dX3_coded_5 : decode cX3_coded 5 = .ok (.iadd, 1) := by decide +kernel
theorem dX3_coded_6 : decode cX3_coded 6 = .ok (.bipush 36, 2) := by decide +kernel
theorem dX3_coded_8 : decode cX3_coded 8 = .ok (.iload_n 2, 1) := by decide +kernel
theorem dX3_coded_9 : decode cX3_coded 9 = .ok (.imul, 1) := by decide +kernel
theorem dX3_coded_10 : decode cX3_coded 10 = .ok (.iadd, 1) := by decide +kernel
theorem dX3_coded_11 : decode cX3_coded 11 = .ok (.ireturn, 1) := by decide +kernel
theorem dX3_standingOf_0 : decode cX3_standingOf 0 = .ok (.iload_n 1, 1) := by decide +kernel
theorem dX3_standingOf_1 : decode cX3_standingOf 1 = .ok (.aload_n 0, 1) := by decide +kernel
theorem dX3_standingOf_2 : decode cX3_standingOf 2 = .ok (.getfield 15, 3) := by decide +kernel
theorem dX3_standingOf_5 : decode cX3_standingOf 5 = .ok (.iconst 1, 1) := by decide +kernel
theorem dX3_standingOf_6 : decode cX3_standingOf 6 = .ok (.if_icmp .le 7, 3) := by decide +kernel
theorem dX3_standingOf_9 : decode cX3_standingOf 9 = .ok (.iload_n 2, 1) := by decide +kernel
theorem dX3_standingOf_10 : decode cX3_standingOf 10 = .ok (.goto 4, 3) := by decide +kernel
theorem dX3_standingOf_13 : decode cX3_standingOf 13 = .ok (.iconst 0, 1) := by decide +kernel
theorem dX3_standingOf_14 : decode cX3_standingOf 14 = .ok (.aload_n 0, 1) := by decide +kernel
theorem dX3_standingOf_15 : decode cX3_standingOf 15 = .ok (.getfield 15, 3) := by decide +kernel
theorem dX3_standingOf_18 : decode cX3_standingOf 18 = .ok (.iconst 2, 1) := by decide +kernel
theorem dX3_standingOf_19 : decode cX3_standingOf 19 = .ok (.if_icmp .le 7, 3) := by decide +kernel
theorem dX3_standingOf_22 : decode cX3_standingOf 22 = .ok (.iload_n 3, 1) := by decide +kernel
theorem dX3_standingOf_23 : decode cX3_standingOf 23 = .ok (.goto 4, 3) := by decide +kernel
theorem dX3_standingOf_26 : decode cX3_standingOf 26 = .ok (.iconst 0, 1) := by decide +kernel
theorem dX3_standingOf_27 : decode cX3_standingOf 27 = .ok (.invokestatic 40, 3) := by decide +kernel
theorem dX3_standingOf_30 : decode cX3_standingOf 30 = .ok (.ireturn, 1) := by decide +kernel
theorem dX3_startStanding_0 : decode cX3_startStanding 0 = .ok (.aload_n 0, 1) := by decide +kernel
theorem dX3_startStanding_1 : decode cX3_startStanding 1 = .ok (.aload_n 0, 1) := by decide +kernel
theorem dX3_startStanding_2 : decode cX3_startStanding 2 = .ok (.getfield 25, 3) := by decide +kernel
theorem dX3_startStanding_5 : decode cX3_startStanding 5 = .ok (.iconst 0, 1) := by decide +kernel
theorem dX3_startStanding_6 : decode cX3_startStanding 6 = .ok (.iaload, 1) := by decide +kernel
theorem dX3_startStanding_7 : decode cX3_startStanding 7 = .ok (.aload_n 0, 1) := by decide +kernel
theorem dX3_startStanding_8 : decode cX3_startStanding 8 = .ok (.getfield 25, 3) := by decide +kernel
theorem dX3_startStanding_11 : decode cX3_startStanding 11 = .ok (.iconst 1, 1) := by decide +kernel
theorem dX3_startStanding_12 : decode cX3_startStanding 12 = .ok (.iaload, 1) := by decide +kernel
theorem dX3_startStanding_13 : decode cX3_startStanding 13 = .ok (.aload_n 0, 1) := by decide +kernel
theorem dX3_startStanding_14 : decode cX3_startStanding 14 = .ok (.getfield 25, 3) := by decide +kernel
theorem dX3_startStanding_17 : decode cX3_startStanding 17 = .ok (.iconst 2, 1) := by decide +kernel
theorem dX3_startStanding_18 : decode cX3_startStanding 18 = .ok (.iaload, 1) := by decide +kernel
theorem dX3_startStanding_19 : decode cX3_startStanding 19 = .ok (.invokevirtual 51, 3) := by decide +kernel
theorem dX3_startStanding_22 : decode cX3_startStanding 22 = .ok (.ireturn, 1) := by decide +kernel
theorem dX3_pointOf_0 : decode cX3_pointOf 0 = .ok (.iload_n 1, 1) := by decide +kernel
theorem dX3_pointOf_1 : decode cX3_pointOf 1 = .ok (.ifCond .ne 8, 3) := by decide +kernel
theorem dX3_pointOf_4 : decode cX3_pointOf 4 = .ok (.iload_n 0, 1) := by decide +kernel
theorem dX3_pointOf_5 : decode cX3_pointOf 5 = .ok (.bipush 6, 2) := by decide +kernel
theorem dX3_pointOf_7 : decode cX3_pointOf 7 = .ok (.irem, 1) := by decide +kernel
theorem dX3_pointOf_8 : decode cX3_pointOf 8 = .ok (.ireturn, 1) := by decide +kernel
theorem dX3_pointOf_9 : decode cX3_pointOf 9 = .ok (.iload_n 1, 1) := by decide +kernel
theorem dX3_pointOf_10 : decode cX3_pointOf 10 = .ok (.iconst 1, 1) := by decide +kernel
theorem dX3_pointOf_11 : decode cX3_pointOf 11 = .ok (.if_icmp .ne 13, 3) := by decide +kernel
theorem dX3_pointOf_14 : decode cX3_pointOf 14 = .ok (.iload_n 0, 1) := by decide +kernel
theorem dX3_pointOf_15 : decode cX3_pointOf 15 = .ok (.bipush 6, 2) := by decide +kernel
theorem dX3_pointOf_17 : decode cX3_pointOf 17 = .ok (.idiv, 1) := by decide +kernel
theorem dX3_pointOf_18 : decode cX3_pointOf 18 = .ok (.bipush 6, 2) := by decide +kernel
theorem dX3_pointOf_20 : decode cX3_pointOf 20 = .ok (.irem, 1) := by decide +kernel
theorem dX3_pointOf_21 : decode cX3_pointOf 21 = .ok (.goto 7, 3) := by decide +kernel
theorem dX3_pointOf_24 : decode cX3_pointOf 24 = .ok (.iload_n 0, 1) := by decide +kernel
theorem dX3_pointOf_25 : decode cX3_pointOf 25 = .ok (.bipush 36, 2) := by decide +kernel
theorem dX3_pointOf_27 : decode cX3_pointOf 27 = .ok (.idiv, 1) := by decide +kernel
theorem dX3_pointOf_28 : decode cX3_pointOf 28 = .ok (.ireturn, 1) := by decide +kernel
theorem dX3_moved_0 : decode cX3_moved 0 = .ok (.iload_n 2, 1) := by decide +kernel
theorem dX3_moved_1 : decode cX3_moved 1 = .ok (.iload_n 0, 1) := by decide +kernel
theorem dX3_moved_2 : decode cX3_moved 2 = .ok (.iload_n 1, 1) := by decide +kernel
theorem dX3_moved_3 : decode cX3_moved 3 = .ok (.invokestatic 54, 3) := by decide +kernel
theorem dX3_moved_6 : decode cX3_moved 6 = .ok (.isub, 1) := by decide +kernel
theorem dX3_moved_7 : decode cX3_moved 7 = .ok (.istore_n 3, 1) := by decide +kernel
theorem dX3_moved_8 : decode cX3_moved 8 = .ok (.iload_n 1, 1) := by decide +kernel
theorem dX3_moved_9 : decode cX3_moved 9 = .ok (.ifCond .ne 7, 3) := by decide +kernel
theorem dX3_moved_12 : decode cX3_moved 12 = .ok (.iload_n 0, 1) := by decide +kernel
theorem dX3_moved_13 : decode cX3_moved 13 = .ok (.iload_n 3, 1) := by decide +kernel
theorem dX3_moved_14 : decode cX3_moved 14 = .ok (.iadd, 1) := by decide +kernel
theorem dX3_moved_15 : decode cX3_moved 15 = .ok (.ireturn, 1) := by decide +kernel
theorem dX3_moved_16 : decode cX3_moved 16 = .ok (.iload_n 1, 1) := by decide +kernel
theorem dX3_moved_17 : decode cX3_moved 17 = .ok (.iconst 1, 1) := by decide +kernel
theorem dX3_moved_18 : decode cX3_moved 18 = .ok (.if_icmp .ne 12, 3) := by decide +kernel
theorem dX3_moved_21 : decode cX3_moved 21 = .ok (.iload_n 0, 1) := by decide +kernel
theorem dX3_moved_22 : decode cX3_moved 22 = .ok (.bipush 6, 2) := by decide +kernel
theorem dX3_moved_24 : decode cX3_moved 24 = .ok (.iload_n 3, 1) := by decide +kernel
theorem dX3_moved_25 : decode cX3_moved 25 = .ok (.imul, 1) := by decide +kernel
theorem dX3_moved_26 : decode cX3_moved 26 = .ok (.iadd, 1) := by decide +kernel
theorem dX3_moved_27 : decode cX3_moved 27 = .ok (.goto 9, 3) := by decide +kernel
theorem dX3_moved_30 : decode cX3_moved 30 = .ok (.iload_n 0, 1) := by decide +kernel
theorem dX3_moved_31 : decode cX3_moved 31 = .ok (.bipush 36, 2) := by decide +kernel
theorem dX3_moved_33 : decode cX3_moved 33 = .ok (.iload_n 3, 1) := by decide +kernel
theorem dX3_moved_34 : decode cX3_moved 34 = .ok (.imul, 1) := by decide +kernel
theorem dX3_moved_35 : decode cX3_moved 35 = .ok (.iadd, 1) := by decide +kernel
theorem dX3_moved_36 : decode cX3_moved 36 = .ok (.ireturn, 1) := by decide +kernel
theorem dX3_wayOf_0 : decode cX3_wayOf 0 = .ok (.aload_n 0, 1) := by decide +kernel
theorem dX3_wayOf_1 : decode cX3_wayOf 1 = .ok (.getfield 21, 3) := by decide +kernel
theorem dX3_wayOf_4 : decode cX3_wayOf 4 = .ok (.iload_n 1, 1) := by decide +kernel
theorem dX3_wayOf_5 : decode cX3_wayOf 5 = .ok (.iload_n 2, 1) := by decide +kernel
theorem dX3_wayOf_6 : decode cX3_wayOf 6 = .ok (.invokestatic 54, 3) := by decide +kernel
theorem dX3_wayOf_9 : decode cX3_wayOf 9 = .ok (.iaload, 1) := by decide +kernel
theorem dX3_wayOf_10 : decode cX3_wayOf 10 = .ok (.aload_n 0, 1) := by decide +kernel
theorem dX3_wayOf_11 : decode cX3_wayOf 11 = .ok (.getfield 21, 3) := by decide +kernel
theorem dX3_wayOf_14 : decode cX3_wayOf 14 = .ok (.iload_n 3, 1) := by decide +kernel
theorem dX3_wayOf_15 : decode cX3_wayOf 15 = .ok (.iaload, 1) := by decide +kernel
theorem dX3_wayOf_16 : decode cX3_wayOf 16 = .ok (.isub, 1) := by decide +kernel
theorem dX3_wayOf_17 : decode cX3_wayOf 17 = .ok (.invokestatic 58, 3) := by decide +kernel
theorem dX3_wayOf_20 : decode cX3_wayOf 20 = .ok (.ireturn, 1) := by decide +kernel
theorem dX3_leastWays_0 : decode cX3_leastWays 0 = .ok (.aload_n 0, 1) := by decide +kernel
theorem dX3_leastWays_1 : decode cX3_leastWays 1 = .ok (.getfield 15, 3) := by decide +kernel
theorem dX3_leastWays_4 : decode cX3_leastWays 4 = .ok (.iconst 1, 1) := by decide +kernel
theorem dX3_leastWays_5 : decode cX3_leastWays 5 = .ok (.if_icmp .ne 14, 3) := by decide +kernel
theorem dX3_leastWays_8 : decode cX3_leastWays 8 = .ok (.aload_n 1, 1) := by decide +kernel
theorem dX3_leastWays_9 : decode cX3_leastWays 9 = .ok (.iconst 0, 1) := by decide +kernel
theorem dX3_leastWays_10 : decode cX3_leastWays 10 = .ok (.iaload, 1) := by decide +kernel
theorem dX3_leastWays_11 : decode cX3_leastWays 11 = .ok (.aload_n 2, 1) := by decide +kernel
theorem dX3_leastWays_12 : decode cX3_leastWays 12 = .ok (.iconst 0, 1) := by decide +kernel
theorem dX3_leastWays_13 : decode cX3_leastWays 13 = .ok (.iaload, 1) := by decide +kernel
theorem dX3_leastWays_14 : decode cX3_leastWays 14 = .ok (.isub, 1) := by decide +kernel
theorem dX3_leastWays_15 : decode cX3_leastWays 15 = .ok (.invokestatic 58, 3) := by decide +kernel
theorem dX3_leastWays_18 : decode cX3_leastWays 18 = .ok (.ireturn, 1) := by decide +kernel
theorem dX3_leastWays_19 : decode cX3_leastWays 19 = .ok (.aload_n 0, 1) := by decide +kernel
theorem dX3_leastWays_20 : decode cX3_leastWays 20 = .ok (.getfield 15, 3) := by decide +kernel
theorem dX3_leastWays_23 : decode cX3_leastWays 23 = .ok (.iconst 2, 1) := by decide +kernel
theorem dX3_leastWays_24 : decode cX3_leastWays 24 = .ok (.if_icmp .ne 19, 3) := by decide +kernel
theorem dX3_leastWays_27 : decode cX3_leastWays 27 = .ok (.aload_n 1, 1) := by decide +kernel
theorem dX3_leastWays_28 : decode cX3_leastWays 28 = .ok (.iconst 0, 1) := by decide +kernel
theorem dX3_leastWays_29 : decode cX3_leastWays 29 = .ok (.iaload, 1) := by decide +kernel
theorem dX3_leastWays_30 : decode cX3_leastWays 30 = .ok (.aload_n 1, 1) := by decide +kernel
theorem dX3_leastWays_31 : decode cX3_leastWays 31 = .ok (.iconst 1, 1) := by decide +kernel
theorem dX3_leastWays_32 : decode cX3_leastWays 32 = .ok (.iaload, 1) := by decide +kernel
theorem dX3_leastWays_33 : decode cX3_leastWays 33 = .ok (.aload_n 2, 1) := by decide +kernel
theorem dX3_leastWays_34 : decode cX3_leastWays 34 = .ok (.iconst 0, 1) := by decide +kernel
theorem dX3_leastWays_35 : decode cX3_leastWays 35 = .ok (.iaload, 1) := by decide +kernel
theorem dX3_leastWays_36 : decode cX3_leastWays 36 = .ok (.aload_n 2, 1) := by decide +kernel
theorem dX3_leastWays_37 : decode cX3_leastWays 37 = .ok (.iconst 1, 1) := by decide +kernel
theorem dX3_leastWays_38 : decode cX3_leastWays 38 = .ok (.iaload, 1) := by decide +kernel
theorem dX3_leastWays_39 : decode cX3_leastWays 39 = .ok (.invokestatic 63, 3) := by decide +kernel
theorem dX3_leastWays_42 : decode cX3_leastWays 42 = .ok (.ireturn, 1) := by decide +kernel
theorem dX3_leastWays_43 : decode cX3_leastWays 43 = .ok (.aload_n 1, 1) := by decide +kernel
theorem dX3_leastWays_44 : decode cX3_leastWays 44 = .ok (.iconst 0, 1) := by decide +kernel
theorem dX3_leastWays_45 : decode cX3_leastWays 45 = .ok (.iaload, 1) := by decide +kernel
theorem dX3_leastWays_46 : decode cX3_leastWays 46 = .ok (.aload_n 2, 1) := by decide +kernel
theorem dX3_leastWays_47 : decode cX3_leastWays 47 = .ok (.iconst 0, 1) := by decide +kernel
theorem dX3_leastWays_48 : decode cX3_leastWays 48 = .ok (.iaload, 1) := by decide +kernel
theorem dX3_leastWays_49 : decode cX3_leastWays 49 = .ok (.isub, 1) := by decide +kernel
theorem dX3_leastWays_50 : decode cX3_leastWays 50 = .ok (.invokestatic 58, 3) := by decide +kernel
theorem dX3_leastWays_53 : decode cX3_leastWays 53 = .ok (.aload_n 1, 1) := by decide +kernel
theorem dX3_leastWays_54 : decode cX3_leastWays 54 = .ok (.iconst 1, 1) := by decide +kernel
theorem dX3_leastWays_55 : decode cX3_leastWays 55 = .ok (.iaload, 1) := by decide +kernel
theorem dX3_leastWays_56 : decode cX3_leastWays 56 = .ok (.aload_n 1, 1) := by decide +kernel
theorem dX3_leastWays_57 : decode cX3_leastWays 57 = .ok (.iconst 2, 1) := by decide +kernel
theorem dX3_leastWays_58 : decode cX3_leastWays 58 = .ok (.iaload, 1) := by decide +kernel
theorem dX3_leastWays_59 : decode cX3_leastWays 59 = .ok (.aload_n 2, 1) := by decide +kernel
theorem dX3_leastWays_60 : decode cX3_leastWays 60 = .ok (.iconst 1, 1) := by decide +kernel
theorem dX3_leastWays_61 : decode cX3_leastWays 61 = .ok (.iaload, 1) := by decide +kernel
theorem dX3_leastWays_62 : decode cX3_leastWays 62 = .ok (.aload_n 2, 1) := by decide +kernel
theorem dX3_leastWays_63 : decode cX3_leastWays 63 = .ok (.iconst 2, 1) := by decide +kernel
theorem dX3_leastWays_64 : decode cX3_leastWays 64 = .ok (.iaload, 1) := by decide +kernel
theorem dX3_leastWays_65 : decode cX3_leastWays 65 = .ok (.invokestatic 63, 3) := by decide +kernel
theorem dX3_leastWays_68 : decode cX3_leastWays 68 = .ok (.iadd, 1) := by decide +kernel
theorem dX3_leastWays_69 : decode cX3_leastWays 69 = .ok (.istore_n 3, 1) := by decide +kernel
theorem dX3_leastWays_70 : decode cX3_leastWays 70 = .ok (.aload_n 1, 1) := by decide +kernel
theorem dX3_leastWays_71 : decode cX3_leastWays 71 = .ok (.iconst 0, 1) := by decide +kernel
theorem dX3_leastWays_72 : decode cX3_leastWays 72 = .ok (.iaload, 1) := by decide +kernel
theorem dX3_leastWays_73 : decode cX3_leastWays 73 = .ok (.aload_n 2, 1) := by decide +kernel
theorem dX3_leastWays_74 : decode cX3_leastWays 74 = .ok (.iconst 1, 1) := by decide +kernel
theorem dX3_leastWays_75 : decode cX3_leastWays 75 = .ok (.iaload, 1) := by decide +kernel
theorem dX3_leastWays_76 : decode cX3_leastWays 76 = .ok (.isub, 1) := by decide +kernel
theorem dX3_leastWays_77 : decode cX3_leastWays 77 = .ok (.invokestatic 58, 3) := by decide +kernel
theorem dX3_leastWays_80 : decode cX3_leastWays 80 = .ok (.aload_n 1, 1) := by decide +kernel
theorem dX3_leastWays_81 : decode cX3_leastWays 81 = .ok (.iconst 1, 1) := by decide +kernel
theorem dX3_leastWays_82 : decode cX3_leastWays 82 = .ok (.iaload, 1) := by decide +kernel
theorem dX3_leastWays_83 : decode cX3_leastWays 83 = .ok (.aload_n 1, 1) := by decide +kernel
theorem dX3_leastWays_84 : decode cX3_leastWays 84 = .ok (.iconst 2, 1) := by decide +kernel
theorem dX3_leastWays_85 : decode cX3_leastWays 85 = .ok (.iaload, 1) := by decide +kernel
theorem dX3_leastWays_86 : decode cX3_leastWays 86 = .ok (.aload_n 2, 1) := by decide +kernel
theorem dX3_leastWays_87 : decode cX3_leastWays 87 = .ok (.iconst 0, 1) := by decide +kernel
theorem dX3_leastWays_88 : decode cX3_leastWays 88 = .ok (.iaload, 1) := by decide +kernel
theorem dX3_leastWays_89 : decode cX3_leastWays 89 = .ok (.aload_n 2, 1) := by decide +kernel
theorem dX3_leastWays_90 : decode cX3_leastWays 90 = .ok (.iconst 2, 1) := by decide +kernel
theorem dX3_leastWays_91 : decode cX3_leastWays 91 = .ok (.iaload, 1) := by decide +kernel
theorem dX3_leastWays_92 : decode cX3_leastWays 92 = .ok (.invokestatic 63, 3) := by decide +kernel
theorem dX3_leastWays_95 : decode cX3_leastWays 95 = .ok (.iadd, 1) := by decide +kernel
theorem dX3_leastWays_96 : decode cX3_leastWays 96 = .ok (.istore 4, 2) := by decide +kernel
theorem dX3_leastWays_98 : decode cX3_leastWays 98 = .ok (.aload_n 1, 1) := by decide +kernel
theorem dX3_leastWays_99 : decode cX3_leastWays 99 = .ok (.iconst 0, 1) := by decide +kernel
theorem dX3_leastWays_100 : decode cX3_leastWays 100 = .ok (.iaload, 1) := by decide +kernel
theorem dX3_leastWays_101 : decode cX3_leastWays 101 = .ok (.aload_n 2, 1) := by decide +kernel
theorem dX3_leastWays_102 : decode cX3_leastWays 102 = .ok (.iconst 2, 1) := by decide +kernel
theorem dX3_leastWays_103 : decode cX3_leastWays 103 = .ok (.iaload, 1) := by decide +kernel
theorem dX3_leastWays_104 : decode cX3_leastWays 104 = .ok (.isub, 1) := by decide +kernel
theorem dX3_leastWays_105 : decode cX3_leastWays 105 = .ok (.invokestatic 58, 3) := by decide +kernel
theorem dX3_leastWays_108 : decode cX3_leastWays 108 = .ok (.aload_n 1, 1) := by decide +kernel
theorem dX3_leastWays_109 : decode cX3_leastWays 109 = .ok (.iconst 1, 1) := by decide +kernel
theorem dX3_leastWays_110 : decode cX3_leastWays 110 = .ok (.iaload, 1) := by decide +kernel
theorem dX3_leastWays_111 : decode cX3_leastWays 111 = .ok (.aload_n 1, 1) := by decide +kernel
theorem dX3_leastWays_112 : decode cX3_leastWays 112 = .ok (.iconst 2, 1) := by decide +kernel
theorem dX3_leastWays_113 : decode cX3_leastWays 113 = .ok (.iaload, 1) := by decide +kernel
theorem dX3_leastWays_114 : decode cX3_leastWays 114 = .ok (.aload_n 2, 1) := by decide +kernel
theorem dX3_leastWays_115 : decode cX3_leastWays 115 = .ok (.iconst 0, 1) := by decide +kernel
theorem dX3_leastWays_116 : decode cX3_leastWays 116 = .ok (.iaload, 1) := by decide +kernel
theorem dX3_leastWays_117 : decode cX3_leastWays 117 = .ok (.aload_n 2, 1) := by decide +kernel
theorem dX3_leastWays_118 : decode cX3_leastWays 118 = .ok (.iconst 1, 1) := by decide +kernel
theorem dX3_leastWays_119 : decode cX3_leastWays 119 = .ok (.iaload, 1) := by decide +kernel
theorem dX3_leastWays_120 : decode cX3_leastWays 120 = .ok (.invokestatic 63, 3) := by decide +kernel
theorem dX3_leastWays_123 : decode cX3_leastWays 123 = .ok (.iadd, 1) := by decide +kernel
theorem dX3_leastWays_124 : decode cX3_leastWays 124 = .ok (.istore 5, 2) := by decide +kernel
theorem dX3_leastWays_126 : decode cX3_leastWays 126 = .ok (.iload_n 3, 1) := by decide +kernel
theorem dX3_leastWays_127 : decode cX3_leastWays 127 = .ok (.iload 4, 2) := by decide +kernel
theorem dX3_leastWays_129 : decode cX3_leastWays 129 = .ok (.iload 5, 2) := by decide +kernel
theorem dX3_leastWays_131 : decode cX3_leastWays 131 = .ok (.invokestatic 67, 3) := by decide +kernel
theorem dX3_leastWays_134 : decode cX3_leastWays 134 = .ok (.invokestatic 67, 3) := by decide +kernel
theorem dX3_leastWays_137 : decode cX3_leastWays 137 = .ok (.ireturn, 1) := by decide +kernel
theorem dX3_pairWays_0 : decode cX3_pairWays 0 = .ok (.iload_n 0, 1) := by decide +kernel
theorem dX3_pairWays_1 : decode cX3_pairWays 1 = .ok (.iload_n 2, 1) := by decide +kernel
theorem dX3_pairWays_2 : decode cX3_pairWays 2 = .ok (.isub, 1) := by decide +kernel
theorem dX3_pairWays_3 : decode cX3_pairWays 3 = .ok (.invokestatic 58, 3) := by decide +kernel
theorem dX3_pairWays_6 : decode cX3_pairWays 6 = .ok (.iload_n 1, 1) := by decide +kernel
theorem dX3_pairWays_7 : decode cX3_pairWays 7 = .ok (.iload_n 3, 1) := by decide +kernel
