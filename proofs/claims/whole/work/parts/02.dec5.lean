theorem dX12_runsGuarded_271 : decode cX12_runsGuarded 271 = .ok (.getfield 35, 3) := by decide +kernel
theorem dX12_runsGuarded_274 : decode cX12_runsGuarded 274 = .ok (.aload_n 0, 1) := by decide +kernel
theorem dX12_runsGuarded_275 : decode cX12_runsGuarded 275 = .ok (.getfield 50, 3) := by decide +kernel
theorem dX12_runsGuarded_278 : decode cX12_runsGuarded 278 = .ok (.invokestatic 170, 3) := by decide +kernel
theorem dX12_runsGuarded_281 : decode cX12_runsGuarded 281 = .ok (.iinc 4 1, 3) := by decide +kernel
theorem dX12_runsGuarded_284 : decode cX12_runsGuarded 284 = .ok (.goto (-230), 3) := by decide +kernel
theorem dX12_runsGuarded_287 : decode cX12_runsGuarded 287 = .ok (.return_, 1) := by decide +kernel
theorem dX12_costOf_0 : decode cX12_costOf 0 = .ok (.iload_n 1, 1) := by decide +kernel
theorem dX12_costOf_1 : decode cX12_costOf 1 = .ok (.iconst 4, 1) := by decide +kernel
theorem dX12_costOf_2 : decode cX12_costOf 2 = .ok (.if_icmp .ne 16, 3) := by decide +kernel
theorem dX12_costOf_5 : decode cX12_costOf 5 = .ok (.aload_n 0, 1) := by decide +kernel
theorem dX12_costOf_6 : decode cX12_costOf 6 = .ok (.aload_n 0, 1) := by decide +kernel
theorem dX12_costOf_7 : decode cX12_costOf 7 = .ok (.getfield 77, 3) := by decide +kernel
theorem dX12_costOf_10 : decode cX12_costOf 10 = .ok (.invokevirtual 174, 3) := by decide +kernel
theorem dX12_costOf_13 : decode cX12_costOf 13 = .ok (.aload_n 0, 1) := by decide +kernel
theorem dX12_costOf_14 : decode cX12_costOf 14 = .ok (.getfield 167, 3) := by decide +kernel
theorem dX12_costOf_17 : decode cX12_costOf 17 = .ok (.ireturn, 1) := by decide +kernel
theorem dX12_costOf_18 : decode cX12_costOf 18 = .ok (.aload_n 0, 1) := by decide +kernel
theorem dX12_costOf_19 : decode cX12_costOf 19 = .ok (.iload_n 1, 1) := by decide +kernel
theorem dX12_costOf_20 : decode cX12_costOf 20 = .ok (.aload_n 0, 1) := by decide +kernel
theorem dX12_costOf_21 : decode cX12_costOf 21 = .ok (.getfield 77, 3) := by decide +kernel
theorem dX12_costOf_24 : decode cX12_costOf 24 = .ok (.invokevirtual 177, 3) := by decide +kernel
theorem dX12_costOf_27 : decode cX12_costOf 27 = .ok (.aload_n 0, 1) := by decide +kernel
theorem dX12_costOf_28 : decode cX12_costOf 28 = .ok (.getfield 115, 3) := by decide +kernel
theorem dX12_costOf_31 : decode cX12_costOf 31 = .ok (.ireturn, 1) := by decide +kernel
theorem dX12_cost_0 : decode cX12_cost 0 = .ok (.iload_n 1, 1) := by decide +kernel
theorem dX12_cost_1 : decode cX12_cost 1 = .ok (.iconst 0, 1) := by decide +kernel
theorem dX12_cost_2 : decode cX12_cost 2 = .ok (.iconst 4, 1) := by decide +kernel
theorem dX12_cost_3 : decode cX12_cost 3 = .ok (.invokestatic 69, 3) := by decide +kernel
theorem dX12_cost_6 : decode cX12_cost 6 = .ok (.ifCond .ne 6, 3) := by decide +kernel
theorem dX12_cost_9 : decode cX12_cost 9 = .ok (.bipush (-2), 2) := by decide +kernel
theorem dX12_cost_11 : decode cX12_cost 11 = .ok (.ireturn, 1) := by decide +kernel
theorem dX12_cost_12 : decode cX12_cost 12 = .ok (.aload_n 0, 1) := by decide +kernel
theorem dX12_cost_13 : decode cX12_cost 13 = .ok (.invokevirtual 83, 3) := by decide +kernel
theorem dX12_cost_16 : decode cX12_cost 16 = .ok (.ifCond .eq 11, 3) := by decide +kernel
theorem dX12_cost_19 : decode cX12_cost 19 = .ok (.aload_n 0, 1) := by decide +kernel
theorem dX12_cost_20 : decode cX12_cost 20 = .ok (.iload_n 1, 1) := by decide +kernel
theorem dX12_cost_21 : decode cX12_cost 21 = .ok (.invokevirtual 180, 3) := by decide +kernel
theorem dX12_cost_24 : decode cX12_cost 24 = .ok (.goto 5, 3) := by decide +kernel
theorem dX12_cost_27 : decode cX12_cost 27 = .ok (.bipush (-11), 2) := by decide +kernel
theorem dX12_cost_29 : decode cX12_cost 29 = .ok (.ireturn, 1) := by decide +kernel
theorem dX12_stands_0 : decode cX12_stands 0 = .ok (.iload_n 1, 1) := by decide +kernel
theorem dX12_stands_1 : decode cX12_stands 1 = .ok (.iconst 0, 1) := by decide +kernel
theorem dX12_stands_2 : decode cX12_stands 2 = .ok (.iconst 3, 1) := by decide +kernel
theorem dX12_stands_3 : decode cX12_stands 3 = .ok (.invokestatic 69, 3) := by decide +kernel
theorem dX12_stands_6 : decode cX12_stands 6 = .ok (.ifCond .eq 27, 3) := by decide +kernel
theorem dX12_stands_9 : decode cX12_stands 9 = .ok (.iload_n 2, 1) := by decide +kernel
theorem dX12_stands_10 : decode cX12_stands 10 = .ok (.iconst 0, 1) := by decide +kernel
theorem dX12_stands_11 : decode cX12_stands 11 = .ok (.aload_n 0, 1) := by decide +kernel
theorem dX12_stands_12 : decode cX12_stands 12 = .ok (.getfield 17, 3) := by decide +kernel
theorem dX12_stands_15 : decode cX12_stands 15 = .ok (.iconst 1, 1) := by decide +kernel
theorem dX12_stands_16 : decode cX12_stands 16 = .ok (.isub, 1) := by decide +kernel
theorem dX12_stands_17 : decode cX12_stands 17 = .ok (.invokestatic 69, 3) := by decide +kernel
theorem dX12_stands_20 : decode cX12_stands 20 = .ok (.ifCond .eq 13, 3) := by decide +kernel
theorem dX12_stands_23 : decode cX12_stands 23 = .ok (.iload_n 3, 1) := by decide +kernel
theorem dX12_stands_24 : decode cX12_stands 24 = .ok (.iconst 0, 1) := by decide +kernel
theorem dX12_stands_25 : decode cX12_stands 25 = .ok (.bipush 40, 2) := by decide +kernel
theorem dX12_stands_27 : decode cX12_stands 27 = .ok (.invokestatic 69, 3) := by decide +kernel
theorem dX12_stands_30 : decode cX12_stands 30 = .ok (.ifCond .ne 6, 3) := by decide +kernel
theorem dX12_stands_33 : decode cX12_stands 33 = .ok (.bipush (-2), 2) := by decide +kernel
theorem dX12_stands_35 : decode cX12_stands 35 = .ok (.ireturn, 1) := by decide +kernel
theorem dX12_stands_36 : decode cX12_stands 36 = .ok (.aload_n 0, 1) := by decide +kernel
theorem dX12_stands_37 : decode cX12_stands 37 = .ok (.invokevirtual 83, 3) := by decide +kernel
theorem dX12_stands_40 : decode cX12_stands 40 = .ok (.ifCond .ne 6, 3) := by decide +kernel
theorem dX12_stands_43 : decode cX12_stands 43 = .ok (.bipush (-11), 2) := by decide +kernel
theorem dX12_stands_45 : decode cX12_stands 45 = .ok (.ireturn, 1) := by decide +kernel
theorem dX12_stands_46 : decode cX12_stands 46 = .ok (.aload_n 0, 1) := by decide +kernel
theorem dX12_stands_47 : decode cX12_stands 47 = .ok (.iload_n 1, 1) := by decide +kernel
theorem dX12_stands_48 : decode cX12_stands 48 = .ok (.iload_n 3, 1) := by decide +kernel
theorem dX12_stands_49 : decode cX12_stands 49 = .ok (.invokevirtual 177, 3) := by decide +kernel
theorem dX12_stands_52 : decode cX12_stands 52 = .ok (.aload_n 0, 1) := by decide +kernel
theorem dX12_stands_53 : decode cX12_stands 53 = .ok (.getfield 35, 3) := by decide +kernel
theorem dX12_stands_56 : decode cX12_stands 56 = .ok (.iload_n 2, 1) := by decide +kernel
theorem dX12_stands_57 : decode cX12_stands 57 = .ok (.iaload, 1) := by decide +kernel
theorem dX12_stands_58 : decode cX12_stands 58 = .ok (.ireturn, 1) := by decide +kernel
theorem dX12_goes_0 : decode cX12_goes 0 = .ok (.iload_n 1, 1) := by decide +kernel
theorem dX12_goes_1 : decode cX12_goes 1 = .ok (.ifCond .eq 13, 3) := by decide +kernel
theorem dX12_goes_4 : decode cX12_goes 4 = .ok (.iload_n 1, 1) := by decide +kernel
theorem dX12_goes_5 : decode cX12_goes 5 = .ok (.iconst 2, 1) := by decide +kernel
theorem dX12_goes_6 : decode cX12_goes 6 = .ok (.if_icmp .eq 8, 3) := by decide +kernel
theorem dX12_goes_9 : decode cX12_goes 9 = .ok (.iload_n 1, 1) := by decide +kernel
theorem dX12_goes_10 : decode cX12_goes 10 = .ok (.iconst 3, 1) := by decide +kernel
theorem dX12_goes_11 : decode cX12_goes 11 = .ok (.if_icmp .ne 13, 3) := by decide +kernel
theorem dX12_goes_14 : decode cX12_goes 14 = .ok (.iload_n 2, 1) := by decide +kernel
theorem dX12_goes_15 : decode cX12_goes 15 = .ok (.iconst 0, 1) := by decide +kernel
theorem dX12_goes_16 : decode cX12_goes 16 = .ok (.bipush 39, 2) := by decide +kernel
theorem dX12_goes_18 : decode cX12_goes 18 = .ok (.invokestatic 69, 3) := by decide +kernel
theorem dX12_goes_21 : decode cX12_goes 21 = .ok (.ifCond .ne 6, 3) := by decide +kernel
theorem dX12_goes_24 : decode cX12_goes 24 = .ok (.bipush (-2), 2) := by decide +kernel
theorem dX12_goes_26 : decode cX12_goes 26 = .ok (.ireturn, 1) := by decide +kernel
theorem dX12_goes_27 : decode cX12_goes 27 = .ok (.aload_n 0, 1) := by decide +kernel
theorem dX12_goes_28 : decode cX12_goes 28 = .ok (.invokevirtual 83, 3) := by decide +kernel
theorem dX12_goes_31 : decode cX12_goes 31 = .ok (.ifCond .ne 6, 3) := by decide +kernel
theorem dX12_goes_34 : decode cX12_goes 34 = .ok (.bipush (-11), 2) := by decide +kernel
theorem dX12_goes_36 : decode cX12_goes 36 = .ok (.ireturn, 1) := by decide +kernel
theorem dX12_goes_37 : decode cX12_goes 37 = .ok (.iload_n 2, 1) := by decide +kernel
theorem dX12_goes_38 : decode cX12_goes 38 = .ok (.aload_n 0, 1) := by decide +kernel
theorem dX12_goes_39 : decode cX12_goes 39 = .ok (.getfield 77, 3) := by decide +kernel
theorem dX12_goes_42 : decode cX12_goes 42 = .ok (.if_icmp .lt 5, 3) := by decide +kernel
theorem dX12_goes_45 : decode cX12_goes 45 = .ok (.iconst (-1), 1) := by decide +kernel
theorem dX12_goes_46 : decode cX12_goes 46 = .ok (.ireturn, 1) := by decide +kernel
theorem dX12_goes_47 : decode cX12_goes 47 = .ok (.aload_n 0, 1) := by decide +kernel
theorem dX12_goes_48 : decode cX12_goes 48 = .ok (.iload_n 1, 1) := by decide +kernel
theorem dX12_goes_49 : decode cX12_goes 49 = .ok (.iload_n 2, 1) := by decide +kernel
theorem dX12_goes_50 : decode cX12_goes 50 = .ok (.iconst 1, 1) := by decide +kernel
theorem dX12_goes_51 : decode cX12_goes 51 = .ok (.iadd, 1) := by decide +kernel
theorem dX12_goes_52 : decode cX12_goes 52 = .ok (.invokevirtual 177, 3) := by decide +kernel
theorem dX12_goes_55 : decode cX12_goes 55 = .ok (.aload_n 0, 1) := by decide +kernel
theorem dX12_goes_56 : decode cX12_goes 56 = .ok (.getfield 118, 3) := by decide +kernel
theorem dX12_goes_59 : decode cX12_goes 59 = .ok (.ireturn, 1) := by decide +kernel
theorem dX12_share_0 : decode cX12_share 0 = .ok (.iload_n 1, 1) := by decide +kernel
theorem dX12_share_1 : decode cX12_share 1 = .ok (.iconst 0, 1) := by decide +kernel
theorem dX12_share_2 : decode cX12_share 2 = .ok (.iconst 4, 1) := by decide +kernel
theorem dX12_share_3 : decode cX12_share 3 = .ok (.invokestatic 69, 3) := by decide +kernel
theorem dX12_share_6 : decode cX12_share 6 = .ok (.ifCond .ne 6, 3) := by decide +kernel
theorem dX12_share_9 : decode cX12_share 9 = .ok (.bipush (-2), 2) := by decide +kernel
theorem dX12_share_11 : decode cX12_share 11 = .ok (.ireturn, 1) := by decide +kernel
theorem dX12_share_12 : decode cX12_share 12 = .ok (.aload_n 0, 1) := by decide +kernel
theorem dX12_share_13 : decode cX12_share 13 = .ok (.invokevirtual 83, 3) := by decide +kernel
theorem dX12_share_16 : decode cX12_share 16 = .ok (.ifCond .ne 6, 3) := by decide +kernel
theorem dX12_share_19 : decode cX12_share 19 = .ok (.bipush (-11), 2) := by decide +kernel
theorem dX12_share_21 : decode cX12_share 21 = .ok (.ireturn, 1) := by decide +kernel
theorem dX12_share_22 : decode cX12_share 22 = .ok (.aload_n 0, 1) := by decide +kernel
theorem dX12_share_23 : decode cX12_share 23 = .ok (.invokevirtual 112, 3) := by decide +kernel
theorem dX12_share_26 : decode cX12_share 26 = .ok (.istore_n 2, 1) := by decide +kernel
theorem dX12_share_27 : decode cX12_share 27 = .ok (.iload_n 2, 1) := by decide +kernel
theorem dX12_share_28 : decode cX12_share 28 = .ok (.ifCond .ne 8, 3) := by decide +kernel
theorem dX12_share_31 : decode cX12_share 31 = .ok (.bipush (-3), 2) := by decide +kernel
theorem dX12_share_33 : decode cX12_share 33 = .ok (.goto 13, 3) := by decide +kernel
theorem dX12_share_36 : decode cX12_share 36 = .ok (.bipush 100, 2) := by decide +kernel
theorem dX12_share_38 : decode cX12_share 38 = .ok (.aload_n 0, 1) := by decide +kernel
theorem dX12_share_39 : decode cX12_share 39 = .ok (.iload_n 1, 1) := by decide +kernel
theorem dX12_share_40 : decode cX12_share 40 = .ok (.invokevirtual 180, 3) := by decide +kernel
theorem dX12_share_43 : decode cX12_share 43 = .ok (.imul, 1) := by decide +kernel
theorem dX12_share_44 : decode cX12_share 44 = .ok (.iload_n 2, 1) := by decide +kernel
theorem dX12_share_45 : decode cX12_share 45 = .ok (.idiv, 1) := by decide +kernel
theorem dX12_share_46 : decode cX12_share 46 = .ok (.ireturn, 1) := by decide +kernel
theorem dX12_work_0 : decode cX12_work 0 = .ok (.iload_n 1, 1) := by decide +kernel
theorem dX12_work_1 : decode cX12_work 1 = .ok (.iconst 0, 1) := by decide +kernel
theorem dX12_work_2 : decode cX12_work 2 = .ok (.aload_n 0, 1) := by decide +kernel
theorem dX12_work_3 : decode cX12_work 3 = .ok (.getfield 7, 3) := by decide +kernel
theorem dX12_work_6 : decode cX12_work 6 = .ok (.iconst 1, 1) := by decide +kernel
theorem dX12_work_7 : decode cX12_work 7 = .ok (.isub, 1) := by decide +kernel
theorem dX12_work_8 : decode cX12_work 8 = .ok (.invokestatic 69, 3) := by decide +kernel
theorem dX12_work_11 : decode cX12_work 11 = .ok (.istore 5, 2) := by decide +kernel
theorem dX12_work_13 : decode cX12_work 13 = .ok (.iload_n 2, 1) := by decide +kernel
theorem dX12_work_14 : decode cX12_work 14 = .ok (.iconst 0, 1) := by decide +kernel
theorem dX12_work_15 : decode cX12_work 15 = .ok (.aload_n 0, 1) := by decide +kernel
theorem dX12_work_16 : decode cX12_work 16 = .ok (.getfield 17, 3) := by decide +kernel
theorem dX12_work_19 : decode cX12_work 19 = .ok (.iconst 1, 1) := by decide +kernel
theorem dX12_work_20 : decode cX12_work 20 = .ok (.if_icmp .le 12, 3) := by decide +kernel
theorem dX12_work_23 : decode cX12_work 23 = .ok (.aload_n 0, 1) := by decide +kernel
theorem dX12_work_24 : decode cX12_work 24 = .ok (.getfield 7, 3) := by decide +kernel
theorem dX12_work_27 : decode cX12_work 27 = .ok (.iconst 1, 1) := by decide +kernel
theorem dX12_work_28 : decode cX12_work 28 = .ok (.isub, 1) := by decide +kernel
theorem dX12_work_29 : decode cX12_work 29 = .ok (.goto 4, 3) := by decide +kernel
theorem dX12_work_32 : decode cX12_work 32 = .ok (.iconst 5, 1) := by decide +kernel
theorem dX12_work_33 : decode cX12_work 33 = .ok (.invokestatic 69, 3) := by decide +kernel
theorem dX12_work_36 : decode cX12_work 36 = .ok (.istore 6, 2) := by decide +kernel
theorem dX12_work_38 : decode cX12_work 38 = .ok (.iload_n 3, 1) := by decide +kernel
theorem dX12_work_39 : decode cX12_work 39 = .ok (.iconst 0, 1) := by decide +kernel
theorem dX12_work_40 : decode cX12_work 40 = .ok (.aload_n 0, 1) := by decide +kernel
theorem dX12_work_41 : decode cX12_work 41 = .ok (.getfield 17, 3) := by decide +kernel
theorem dX12_work_44 : decode cX12_work 44 = .ok (.iconst 2, 1) := by decide +kernel
theorem dX12_work_45 : decode cX12_work 45 = .ok (.if_icmp .le 12, 3) := by decide +kernel
theorem dX12_work_48 : decode cX12_work 48 = .ok (.aload_n 0, 1) := by decide +kernel
theorem dX12_work_49 : decode cX12_work 49 = .ok (.getfield 7, 3) := by decide +kernel
theorem dX12_work_52 : decode cX12_work 52 = .ok (.iconst 1, 1) := by decide +kernel
theorem dX12_work_53 : decode cX12_work 53 = .ok (.isub, 1) := by decide +kernel
theorem dX12_work_54 : decode cX12_work 54 = .ok (.goto 4, 3) := by decide +kernel
theorem dX12_work_57 : decode cX12_work 57 = .ok (.iconst 5, 1) := by decide +kernel
theorem dX12_work_58 : decode cX12_work 58 = .ok (.invokestatic 69, 3) := by decide +kernel
theorem dX12_work_61 : decode cX12_work 61 = .ok (.istore 7, 2) := by decide +kernel
theorem dX12_work_63 : decode cX12_work 63 = .ok (.iload 5, 2) := by decide +kernel
theorem dX12_work_65 : decode cX12_work 65 = .ok (.ifCond .eq 24, 3) := by decide +kernel
theorem dX12_work_68 : decode cX12_work 68 = .ok (.iload 6, 2) := by decide +kernel
theorem dX12_work_70 : decode cX12_work 70 = .ok (.ifCond .eq 19, 3) := by decide +kernel
theorem dX12_work_73 : decode cX12_work 73 = .ok (.iload 7, 2) := by decide +kernel
theorem dX12_work_75 : decode cX12_work 75 = .ok (.ifCond .eq 14, 3) := by decide +kernel
theorem dX12_work_78 : decode cX12_work 78 = .ok (.iload 4, 2) := by decide +kernel
theorem dX12_work_80 : decode cX12_work 80 = .ok (.iconst 0, 1) := by decide +kernel
theorem dX12_work_81 : decode cX12_work 81 = .ok (.bipush 40, 2) := by decide +kernel
theorem dX12_work_83 : decode cX12_work 83 = .ok (.invokestatic 69, 3) := by decide +kernel
theorem dX12_work_86 : decode cX12_work 86 = .ok (.ifCond .ne 6, 3) := by decide +kernel
theorem dX12_work_89 : decode cX12_work 89 = .ok (.bipush (-2), 2) := by decide +kernel
theorem dX12_work_91 : decode cX12_work 91 = .ok (.ireturn, 1) := by decide +kernel
theorem dX12_work_92 : decode cX12_work 92 = .ok (.aload_n 0, 1) := by decide +kernel
theorem dX12_work_93 : decode cX12_work 93 = .ok (.invokevirtual 83, 3) := by decide +kernel
theorem dX12_work_96 : decode cX12_work 96 = .ok (.ifCond .ne 6, 3) := by decide +kernel
theorem dX12_work_99 : decode cX12_work 99 = .ok (.bipush (-11), 2) := by decide +kernel
theorem dX12_work_101 : decode cX12_work 101 = .ok (.ireturn, 1) := by decide +kernel
theorem dX12_work_102 : decode cX12_work 102 = .ok (.aload_n 0, 1) := by decide +kernel
theorem dX12_work_103 : decode cX12_work 103 = .ok (.invokevirtual 155, 3) := by decide +kernel
theorem dX12_work_106 : decode cX12_work 106 = .ok (.iconst 0, 1) := by decide +kernel
theorem dX12_work_107 : decode cX12_work 107 = .ok (.istore 8, 2) := by decide +kernel
theorem dX12_work_109 : decode cX12_work 109 = .ok (.iload 8, 2) := by decide +kernel
theorem dX12_work_111 : decode cX12_work 111 = .ok (.aload_n 0, 1) := by decide +kernel
theorem dX12_work_112 : decode cX12_work 112 = .ok (.iload 4, 2) := by decide +kernel
theorem dX12_work_114 : decode cX12_work 114 = .ok (.invokevirtual 158, 3) := by decide +kernel
theorem dX12_work_117 : decode cX12_work 117 = .ok (.if_icmp .ge 20, 3) := by decide +kernel
theorem dX12_work_120 : decode cX12_work 120 = .ok (.aload_n 0, 1) := by decide +kernel
theorem dX12_work_121 : decode cX12_work 121 = .ok (.aload_n 0, 1) := by decide +kernel
theorem dX12_work_122 : decode cX12_work 122 = .ok (.getfield 26, 3) := by decide +kernel
theorem dX12_work_125 : decode cX12_work 125 = .ok (.iload 8, 2) := by decide +kernel
theorem dX12_work_127 : decode cX12_work 127 = .ok (.iaload, 1) := by decide +kernel
theorem dX12_work_128 : decode cX12_work 128 = .ok (.invokevirtual 136, 3) := by decide +kernel
theorem dX12_work_131 : decode cX12_work 131 = .ok (.iinc 8 1, 3) := by decide +kernel
theorem dX12_work_134 : decode cX12_work 134 = .ok (.goto (-25), 3) := by decide +kernel
theorem dX12_work_137 : decode cX12_work 137 = .ok (.aload_n 0, 1) := by decide +kernel
theorem dX12_work_138 : decode cX12_work 138 = .ok (.getfield 38, 3) := by decide +kernel
theorem dX12_work_141 : decode cX12_work 141 = .ok (.iload_n 1, 1) := by decide +kernel
theorem dX12_work_142 : decode cX12_work 142 = .ok (.aload_n 0, 1) := by decide +kernel
theorem dX12_work_143 : decode cX12_work 143 = .ok (.getfield 17, 3) := by decide +kernel
theorem dX12_work_146 : decode cX12_work 146 = .ok (.iconst 1, 1) := by decide +kernel
theorem dX12_work_147 : decode cX12_work 147 = .ok (.if_icmp .le 10, 3) := by decide +kernel
theorem dX12_work_150 : decode cX12_work 150 = .ok (.bipush 6, 2) := by decide +kernel
theorem dX12_work_152 : decode cX12_work 152 = .ok (.iload_n 2, 1) := by decide +kernel
theorem dX12_work_153 : decode cX12_work 153 = .ok (.imul, 1) := by decide +kernel
theorem dX12_work_154 : decode cX12_work 154 = .ok (.goto 4, 3) := by decide +kernel
theorem dX12_work_157 : decode cX12_work 157 = .ok (.iconst 0, 1) := by decide +kernel
theorem dX12_work_158 : decode cX12_work 158 = .ok (.iadd, 1) := by decide +kernel
theorem dX12_work_159 : decode cX12_work 159 = .ok (.aload_n 0, 1) := by decide +kernel
theorem dX12_work_160 : decode cX12_work 160 = .ok (.getfield 17, 3) := by decide +kernel
theorem dX12_work_163 : decode cX12_work 163 = .ok (.iconst 2, 1) := by decide +kernel
theorem dX12_work_164 : decode cX12_work 164 = .ok (.if_icmp .le 10, 3) := by decide +kernel
theorem dX12_work_167 : decode cX12_work 167 = .ok (.bipush 36, 2) := by decide +kernel
theorem dX12_work_169 : decode cX12_work 169 = .ok (.iload_n 3, 1) := by decide +kernel
theorem dX12_work_170 : decode cX12_work 170 = .ok (.imul, 1) := by decide +kernel
theorem dX12_work_171 : decode cX12_work 171 = .ok (.goto 4, 3) := by decide +kernel
theorem dX12_work_174 : decode cX12_work 174 = .ok (.iconst 0, 1) := by decide +kernel
theorem dX12_work_175 : decode cX12_work 175 = .ok (.iadd, 1) := by decide +kernel
theorem dX12_work_176 : decode cX12_work 176 = .ok (.iaload, 1) := by decide +kernel
theorem dX12_work_177 : decode cX12_work 177 = .ok (.ireturn, 1) := by decide +kernel
theorem dX12_trusts_0 : decode cX12_trusts 0 = .ok (.iload_n 1, 1) := by decide +kernel
theorem dX12_trusts_1 : decode cX12_trusts 1 = .ok (.iconst 0, 1) := by decide +kernel
theorem dX12_trusts_2 : decode cX12_trusts 2 = .ok (.bipush 40, 2) := by decide +kernel
theorem dX12_trusts_4 : decode cX12_trusts 4 = .ok (.invokestatic 69, 3) := by decide +kernel
theorem dX12_trusts_7 : decode cX12_trusts 7 = .ok (.ifCond .ne 6, 3) := by decide +kernel
theorem dX12_trusts_10 : decode cX12_trusts 10 = .ok (.bipush (-2), 2) := by decide +kernel
theorem dX12_trusts_12 : decode cX12_trusts 12 = .ok (.ireturn, 1) := by decide +kernel
theorem dX12_trusts_13 : decode cX12_trusts 13 = .ok (.aload_n 0, 1) := by decide +kernel
theorem dX12_trusts_14 : decode cX12_trusts 14 = .ok (.invokevirtual 83, 3) := by decide +kernel
theorem dX12_trusts_17 : decode cX12_trusts 17 = .ok (.ifCond .ne 6, 3) := by decide +kernel
theorem dX12_trusts_20 : decode cX12_trusts 20 = .ok (.bipush (-11), 2) := by decide +kernel
theorem dX12_trusts_22 : decode cX12_trusts 22 = .ok (.ireturn, 1) := by decide +kernel
theorem dX12_trusts_23 : decode cX12_trusts 23 = .ok (.aload_n 0, 1) := by decide +kernel
theorem dX12_trusts_24 : decode cX12_trusts 24 = .ok (.iload_n 1, 1) := by decide +kernel
theorem dX12_trusts_25 : decode cX12_trusts 25 = .ok (.invokevirtual 174, 3) := by decide +kernel
theorem dX12_trusts_28 : decode cX12_trusts 28 = .ok (.aload_n 0, 1) := by decide +kernel
theorem dX12_trusts_29 : decode cX12_trusts 29 = .ok (.getfield 164, 3) := by decide +kernel
theorem dX12_trusts_32 : decode cX12_trusts 32 = .ok (.ireturn, 1) := by decide +kernel
theorem dX12_seeks_0 : decode cX12_seeks 0 = .ok (.iconst 1, 1) := by decide +kernel
theorem dX12_seeks_1 : decode cX12_seeks 1 = .ok (.istore_n 3, 1) := by decide +kernel
theorem dX12_seeks_2 : decode cX12_seeks 2 = .ok (.iconst 0, 1) := by decide +kernel
theorem dX12_seeks_3 : decode cX12_seeks 3 = .ok (.istore 4, 2) := by decide +kernel
theorem dX12_seeks_5 : decode cX12_seeks 5 = .ok (.iload 4, 2) := by decide +kernel
theorem dX12_seeks_7 : decode cX12_seeks 7 = .ok (.iload_n 2, 1) := by decide +kernel
theorem dX12_seeks_8 : decode cX12_seeks 8 = .ok (.if_icmp .ge 16, 3) := by decide +kernel
theorem dX12_seeks_11 : decode cX12_seeks 11 = .ok (.iload_n 3, 1) := by decide +kernel
theorem dX12_seeks_12 : decode cX12_seeks 12 = .ok (.aload_n 0, 1) := by decide +kernel
theorem dX12_seeks_13 : decode cX12_seeks 13 = .ok (.getfield 7, 3) := by decide +kernel
theorem dX12_seeks_16 : decode cX12_seeks 16 = .ok (.imul, 1) := by decide +kernel
theorem dX12_seeks_17 : decode cX12_seeks 17 = .ok (.istore_n 3, 1) := by decide +kernel
theorem dX12_seeks_18 : decode cX12_seeks 18 = .ok (.iinc 4 1, 3) := by decide +kernel
theorem dX12_seeks_21 : decode cX12_seeks 21 = .ok (.goto (-16), 3) := by decide +kernel
theorem dX12_seeks_24 : decode cX12_seeks 24 = .ok (.aload_n 0, 1) := by decide +kernel
theorem dX12_seeks_25 : decode cX12_seeks 25 = .ok (.iconst (-1), 1) := by decide +kernel
theorem dX12_seeks_26 : decode cX12_seeks 26 = .ok (.putfield 183, 3) := by decide +kernel
theorem dX12_seeks_29 : decode cX12_seeks 29 = .ok (.aload_n 0, 1) := by decide +kernel
theorem dX12_seeks_30 : decode cX12_seeks 30 = .ok (.iconst 0, 1) := by decide +kernel
theorem dX12_seeks_31 : decode cX12_seeks 31 = .ok (.putfield 186, 3) := by decide +kernel
theorem dX12_seeks_34 : decode cX12_seeks 34 = .ok (.aload_n 0, 1) := by decide +kernel
theorem dX12_seeks_35 : decode cX12_seeks 35 = .ok (.iconst 1, 1) := by decide +kernel
theorem dX12_seeks_36 : decode cX12_seeks 36 = .ok (.putfield 189, 3) := by decide +kernel
theorem dX12_seeks_39 : decode cX12_seeks 39 = .ok (.iconst 0, 1) := by decide +kernel
theorem dX12_seeks_40 : decode cX12_seeks 40 = .ok (.istore 4, 2) := by decide +kernel
theorem dX12_seeks_42 : decode cX12_seeks 42 = .ok (.iload 4, 2) := by decide +kernel
theorem dX12_seeks_44 : decode cX12_seeks 44 = .ok (.iload_n 3, 1) := by decide +kernel
theorem dX12_seeks_45 : decode cX12_seeks 45 = .ok (.if_icmp .ge 118, 3) := by decide +kernel
theorem dX12_seeks_48 : decode cX12_seeks 48 = .ok (.iload 4, 2) := by decide +kernel
theorem dX12_seeks_50 : decode cX12_seeks 50 = .ok (.istore 5, 2) := by decide +kernel
theorem dX12_seeks_52 : decode cX12_seeks 52 = .ok (.aload_n 0, 1) := by decide +kernel
theorem dX12_seeks_53 : decode cX12_seeks 53 = .ok (.iload_n 2, 1) := by decide +kernel
theorem dX12_seeks_54 : decode cX12_seeks 54 = .ok (.putfield 77, 3) := by decide +kernel
theorem dX12_seeks_57 : decode cX12_seeks 57 = .ok (.iload_n 2, 1) := by decide +kernel
theorem dX12_seeks_58 : decode cX12_seeks 58 = .ok (.iconst 1, 1) := by decide +kernel
theorem dX12_seeks_59 : decode cX12_seeks 59 = .ok (.isub, 1) := by decide +kernel
theorem dX12_seeks_60 : decode cX12_seeks 60 = .ok (.istore 6, 2) := by decide +kernel
theorem dX12_seeks_62 : decode cX12_seeks 62 = .ok (.iload 6, 2) := by decide +kernel
theorem dX12_seeks_64 : decode cX12_seeks 64 = .ok (.ifCond .lt 32, 3) := by decide +kernel
theorem dX12_seeks_67 : decode cX12_seeks 67 = .ok (.aload_n 0, 1) := by decide +kernel
theorem dX12_seeks_68 : decode cX12_seeks 68 = .ok (.getfield 26, 3) := by decide +kernel
theorem dX12_seeks_71 : decode cX12_seeks 71 = .ok (.iload 6, 2) := by decide +kernel
theorem dX12_seeks_73 : decode cX12_seeks 73 = .ok (.iload 5, 2) := by decide +kernel
theorem dX12_seeks_75 : decode cX12_seeks 75 = .ok (.aload_n 0, 1) := by decide +kernel
theorem dX12_seeks_76 : decode cX12_seeks 76 = .ok (.getfield 7, 3) := by decide +kernel
theorem dX12_seeks_79 : decode cX12_seeks 79 = .ok (.irem, 1) := by decide +kernel
theorem dX12_seeks_80 : decode cX12_seeks 80 = .ok (.iastore, 1) := by decide +kernel
theorem dX12_seeks_81 : decode cX12_seeks 81 = .ok (.iload 5, 2) := by decide +kernel
theorem dX12_seeks_83 : decode cX12_seeks 83 = .ok (.aload_n 0, 1) := by decide +kernel
theorem dX12_seeks_84 : decode cX12_seeks 84 = .ok (.getfield 7, 3) := by decide +kernel
theorem dX12_seeks_87 : decode cX12_seeks 87 = .ok (.idiv, 1) := by decide +kernel
theorem dX12_seeks_88 : decode cX12_seeks 88 = .ok (.istore 5, 2) := by decide +kernel
theorem dX12_seeks_90 : decode cX12_seeks 90 = .ok (.iinc 6 (-1), 3) := by decide +kernel
theorem dX12_seeks_93 : decode cX12_seeks 93 = .ok (.goto (-31), 3) := by decide +kernel
theorem dX12_seeks_96 : decode cX12_seeks 96 = .ok (.aload_n 0, 1) := by decide +kernel
theorem dX12_seeks_97 : decode cX12_seeks 97 = .ok (.invokevirtual 112, 3) := by decide +kernel
theorem dX12_seeks_100 : decode cX12_seeks 100 = .ok (.istore 6, 2) := by decide +kernel
theorem dX12_seeks_102 : decode cX12_seeks 102 = .ok (.iload 6, 2) := by decide +kernel
theorem dX12_seeks_104 : decode cX12_seeks 104 = .ok (.ifCond .le 53, 3) := by decide +kernel
theorem dX12_seeks_107 : decode cX12_seeks 107 = .ok (.aload_n 0, 1) := by decide +kernel
theorem dX12_seeks_108 : decode cX12_seeks 108 = .ok (.iload_n 1, 1) := by decide +kernel
theorem dX12_seeks_109 : decode cX12_seeks 109 = .ok (.invokevirtual 180, 3) := by decide +kernel
theorem dX12_seeks_112 : decode cX12_seeks 112 = .ok (.istore 7, 2) := by decide +kernel
theorem dX12_seeks_114 : decode cX12_seeks 114 = .ok (.aload_n 0, 1) := by decide +kernel
theorem dX12_seeks_115 : decode cX12_seeks 115 = .ok (.getfield 183, 3) := by decide +kernel
theorem dX12_seeks_118 : decode cX12_seeks 118 = .ok (.iconst (-1), 1) := by decide +kernel
theorem dX12_seeks_119 : decode cX12_seeks 119 = .ok (.if_icmp .eq 20, 3) := by decide +kernel
theorem dX12_seeks_122 : decode cX12_seeks 122 = .ok (.iload 7, 2) := by decide +kernel
theorem dX12_seeks_124 : decode cX12_seeks 124 = .ok (.aload_n 0, 1) := by decide +kernel
theorem dX12_seeks_125 : decode cX12_seeks 125 = .ok (.getfield 189, 3) := by decide +kernel
theorem dX12_seeks_128 : decode cX12_seeks 128 = .ok (.imul, 1) := by decide +kernel
theorem dX12_seeks_129 : decode cX12_seeks 129 = .ok (.aload_n 0, 1) := by decide +kernel
theorem dX12_seeks_130 : decode cX12_seeks 130 = .ok (.getfield 186, 3) := by decide +kernel
theorem dX12_seeks_133 : decode cX12_seeks 133 = .ok (.iload 6, 2) := by decide +kernel
theorem dX12_seeks_135 : decode cX12_seeks 135 = .ok (.imul, 1) := by decide +kernel
theorem dX12_seeks_136 : decode cX12_seeks 136 = .ok (.if_icmp .le 21, 3) := by decide +kernel
theorem dX12_seeks_139 : decode cX12_seeks 139 = .ok (.aload_n 0, 1) := by decide +kernel
theorem dX12_seeks_140 : decode cX12_seeks 140 = .ok (.iload 4, 2) := by decide +kernel
theorem dX12_seeks_142 : decode cX12_seeks 142 = .ok (.putfield 183, 3) := by decide +kernel
theorem dX12_seeks_145 : decode cX12_seeks 145 = .ok (.aload_n 0, 1) := by decide +kernel
theorem dX12_seeks_146 : decode cX12_seeks 146 = .ok (.iload 7, 2) := by decide +kernel
theorem dX12_seeks_148 : decode cX12_seeks 148 = .ok (.putfield 186, 3) := by decide +kernel
theorem dX12_seeks_151 : decode cX12_seeks 151 = .ok (.aload_n 0, 1) := by decide +kernel
theorem dX12_seeks_152 : decode cX12_seeks 152 = .ok (.iload 6, 2) := by decide +kernel
theorem dX12_seeks_154 : decode cX12_seeks 154 = .ok (.putfield 189, 3) := by decide +kernel
theorem dX12_seeks_157 : decode cX12_seeks 157 = .ok (.iinc 4 1, 3) := by decide +kernel
theorem dX12_seeks_160 : decode cX12_seeks 160 = .ok (.goto (-118), 3) := by decide +kernel
theorem dX12_seeks_163 : decode cX12_seeks 163 = .ok (.return_, 1) := by decide +kernel
theorem dX12_worst_0 : decode cX12_worst 0 = .ok (.iload_n 1, 1) := by decide +kernel
theorem dX12_worst_1 : decode cX12_worst 1 = .ok (.iconst 0, 1) := by decide +kernel
theorem dX12_worst_2 : decode cX12_worst 2 = .ok (.iconst 2, 1) := by decide +kernel
theorem dX12_worst_3 : decode cX12_worst 3 = .ok (.invokestatic 69, 3) := by decide +kernel
theorem dX12_worst_6 : decode cX12_worst 6 = .ok (.ifCond .eq 12, 3) := by decide +kernel
theorem dX12_worst_9 : decode cX12_worst 9 = .ok (.iload_n 2, 1) := by decide +kernel
theorem dX12_worst_10 : decode cX12_worst 10 = .ok (.iconst 1, 1) := by decide +kernel
theorem dX12_worst_11 : decode cX12_worst 11 = .ok (.iconst 3, 1) := by decide +kernel
theorem dX12_worst_12 : decode cX12_worst 12 = .ok (.invokestatic 69, 3) := by decide +kernel
theorem dX12_worst_15 : decode cX12_worst 15 = .ok (.ifCond .ne 6, 3) := by decide +kernel
theorem dX12_worst_18 : decode cX12_worst 18 = .ok (.bipush (-2), 2) := by decide +kernel
theorem dX12_worst_20 : decode cX12_worst 20 = .ok (.ireturn, 1) := by decide +kernel
theorem dX12_worst_21 : decode cX12_worst 21 = .ok (.aload_n 0, 1) := by decide +kernel
theorem dX12_worst_22 : decode cX12_worst 22 = .ok (.iload_n 1, 1) := by decide +kernel
theorem dX12_worst_23 : decode cX12_worst 23 = .ok (.iload_n 2, 1) := by decide +kernel
theorem dX12_worst_24 : decode cX12_worst 24 = .ok (.invokevirtual 192, 3) := by decide +kernel
theorem dX12_worst_27 : decode cX12_worst 27 = .ok (.aload_n 0, 1) := by decide +kernel
theorem dX12_worst_28 : decode cX12_worst 28 = .ok (.getfield 183, 3) := by decide +kernel
theorem dX12_worst_31 : decode cX12_worst 31 = .ok (.ireturn, 1) := by decide +kernel
theorem dX12_worstShare_0 : decode cX12_worstShare 0 = .ok (.iload_n 1, 1) := by decide +kernel
theorem dX12_worstShare_1 : decode cX12_worstShare 1 = .ok (.iconst 0, 1) := by decide +kernel
theorem dX12_worstShare_2 : decode cX12_worstShare 2 = .ok (.iconst 2, 1) := by decide +kernel
theorem dX12_worstShare_3 : decode cX12_worstShare 3 = .ok (.invokestatic 69, 3) := by decide +kernel
theorem dX12_worstShare_6 : decode cX12_worstShare 6 = .ok (.ifCond .eq 12, 3) := by decide +kernel
theorem dX12_worstShare_9 : decode cX12_worstShare 9 = .ok (.iload_n 2, 1) := by decide +kernel
theorem dX12_worstShare_10 : decode cX12_worstShare 10 = .ok (.iconst 1, 1) := by decide +kernel
theorem dX12_worstShare_11 : decode cX12_worstShare 11 = .ok (.iconst 3, 1) := by decide +kernel
theorem dX12_worstShare_12 : decode cX12_worstShare 12 = .ok (.invokestatic 69, 3) := by decide +kernel
theorem dX12_worstShare_15 : decode cX12_worstShare 15 = .ok (.ifCond .ne 6, 3) := by decide +kernel
theorem dX12_worstShare_18 : decode cX12_worstShare 18 = .ok (.bipush (-2), 2) := by decide +kernel
theorem dX12_worstShare_20 : decode cX12_worstShare 20 = .ok (.ireturn, 1) := by decide +kernel
theorem dX12_worstShare_21 : decode cX12_worstShare 21 = .ok (.aload_n 0, 1) := by decide +kernel
theorem dX12_worstShare_22 : decode cX12_worstShare 22 = .ok (.iload_n 1, 1) := by decide +kernel
theorem dX12_worstShare_23 : decode cX12_worstShare 23 = .ok (.iload_n 2, 1) := by decide +kernel
theorem dX12_worstShare_24 : decode cX12_worstShare 24 = .ok (.invokevirtual 192, 3) := by decide +kernel
theorem dX12_worstShare_27 : decode cX12_worstShare 27 = .ok (.aload_n 0, 1) := by decide +kernel
theorem dX12_worstShare_28 : decode cX12_worstShare 28 = .ok (.getfield 183, 3) := by decide +kernel
theorem dX12_worstShare_31 : decode cX12_worstShare 31 = .ok (.iconst (-1), 1) := by decide +kernel
theorem dX12_worstShare_32 : decode cX12_worstShare 32 = .ok (.if_icmp .ne 8, 3) := by decide +kernel
theorem dX12_worstShare_35 : decode cX12_worstShare 35 = .ok (.bipush (-3), 2) := by decide +kernel
theorem dX12_worstShare_37 : decode cX12_worstShare 37 = .ok (.goto 15, 3) := by decide +kernel
theorem dX12_worstShare_40 : decode cX12_worstShare 40 = .ok (.bipush 100, 2) := by decide +kernel
theorem dX12_worstShare_42 : decode cX12_worstShare 42 = .ok (.aload_n 0, 1) := by decide +kernel
theorem dX12_worstShare_43 : decode cX12_worstShare 43 = .ok (.getfield 186, 3) := by decide +kernel
theorem dX12_worstShare_46 : decode cX12_worstShare 46 = .ok (.imul, 1) := by decide +kernel
theorem dX12_worstShare_47 : decode cX12_worstShare 47 = .ok (.aload_n 0, 1) := by decide +kernel
theorem dX12_worstShare_48 : decode cX12_worstShare 48 = .ok (.getfield 189, 3) := by decide +kernel
theorem dX12_worstShare_51 : decode cX12_worstShare 51 = .ok (.idiv, 1) := by decide +kernel
theorem dX12_worstShare_52 : decode cX12_worstShare 52 = .ok (.ireturn, 1) := by decide +kernel
theorem dX12_longs_0 : decode cX12_longs 0 = .ok (.aload_n 0, 1) := by decide +kernel
theorem dX12_longs_1 : decode cX12_longs 1 = .ok (.getfield 13, 3) := by decide +kernel
theorem dX12_longs_4 : decode cX12_longs 4 = .ok (.aload_n 0, 1) := by decide +kernel
theorem dX12_longs_5 : decode cX12_longs 5 = .ok (.iload_n 1, 1) := by decide +kernel
theorem dX12_longs_6 : decode cX12_longs 6 = .ok (.iconst 0, 1) := by decide +kernel
theorem dX12_longs_7 : decode cX12_longs 7 = .ok (.invokevirtual 87, 3) := by decide +kernel
theorem dX12_longs_10 : decode cX12_longs 10 = .ok (.iaload, 1) := by decide +kernel
theorem dX12_longs_11 : decode cX12_longs 11 = .ok (.istore_n 2, 1) := by decide +kernel
theorem dX12_longs_12 : decode cX12_longs 12 = .ok (.aload_n 0, 1) := by decide +kernel
theorem dX12_longs_13 : decode cX12_longs 13 = .ok (.getfield 13, 3) := by decide +kernel
theorem dX12_longs_16 : decode cX12_longs 16 = .ok (.aload_n 0, 1) := by decide +kernel
theorem dX12_longs_17 : decode cX12_longs 17 = .ok (.iload_n 1, 1) := by decide +kernel
theorem dX12_longs_18 : decode cX12_longs 18 = .ok (.iconst 1, 1) := by decide +kernel
theorem dX12_longs_19 : decode cX12_longs 19 = .ok (.invokevirtual 87, 3) := by decide +kernel
theorem dX12_longs_22 : decode cX12_longs 22 = .ok (.iaload, 1) := by decide +kernel
theorem dX12_longs_23 : decode cX12_longs 23 = .ok (.istore_n 3, 1) := by decide +kernel
theorem dX12_longs_24 : decode cX12_longs 24 = .ok (.aload_n 0, 1) := by decide +kernel
theorem dX12_longs_25 : decode cX12_longs 25 = .ok (.getfield 13, 3) := by decide +kernel
theorem dX12_longs_28 : decode cX12_longs 28 = .ok (.aload_n 0, 1) := by decide +kernel
theorem dX12_longs_29 : decode cX12_longs 29 = .ok (.iload_n 1, 1) := by decide +kernel
theorem dX12_longs_30 : decode cX12_longs 30 = .ok (.iconst 2, 1) := by decide +kernel
theorem dX12_longs_31 : decode cX12_longs 31 = .ok (.invokevirtual 87, 3) := by decide +kernel
theorem dX12_longs_34 : decode cX12_longs 34 = .ok (.iaload, 1) := by decide +kernel
theorem dX12_longs_35 : decode cX12_longs 35 = .ok (.istore 4, 2) := by decide +kernel
theorem dX12_longs_37 : decode cX12_longs 37 = .ok (.aload_n 0, 1) := by decide +kernel
theorem dX12_longs_38 : decode cX12_longs 38 = .ok (.getfield 17, 3) := by decide +kernel
theorem dX12_longs_41 : decode cX12_longs 41 = .ok (.aload_n 0, 1) := by decide +kernel
theorem dX12_longs_42 : decode cX12_longs 42 = .ok (.aload_n 0, 1) := by decide +kernel
theorem dX12_longs_43 : decode cX12_longs 43 = .ok (.getfield 35, 3) := by decide +kernel
theorem dX12_longs_46 : decode cX12_longs 46 = .ok (.iconst 0, 1) := by decide +kernel
theorem dX12_longs_47 : decode cX12_longs 47 = .ok (.iaload, 1) := by decide +kernel
theorem dX12_longs_48 : decode cX12_longs 48 = .ok (.aload_n 0, 1) := by decide +kernel
theorem dX12_longs_49 : decode cX12_longs 49 = .ok (.getfield 35, 3) := by decide +kernel
theorem dX12_longs_52 : decode cX12_longs 52 = .ok (.iconst 1, 1) := by decide +kernel
theorem dX12_longs_53 : decode cX12_longs 53 = .ok (.iaload, 1) := by decide +kernel
theorem dX12_longs_54 : decode cX12_longs 54 = .ok (.aload_n 0, 1) := by decide +kernel
theorem dX12_longs_55 : decode cX12_longs 55 = .ok (.getfield 35, 3) := by decide +kernel
theorem dX12_longs_58 : decode cX12_longs 58 = .ok (.iconst 2, 1) := by decide +kernel
theorem dX12_longs_59 : decode cX12_longs 59 = .ok (.iaload, 1) := by decide +kernel
theorem dX12_longs_60 : decode cX12_longs 60 = .ok (.iload_n 2, 1) := by decide +kernel
theorem dX12_longs_61 : decode cX12_longs 61 = .ok (.iload_n 3, 1) := by decide +kernel
theorem dX12_longs_62 : decode cX12_longs 62 = .ok (.iload 4, 2) := by decide +kernel
theorem dX12_longs_64 : decode cX12_longs 64 = .ok (.invokevirtual 132, 3) := by decide +kernel
theorem dX12_longs_67 : decode cX12_longs 67 = .ok (.imul, 1) := by decide +kernel
theorem dX12_longs_68 : decode cX12_longs 68 = .ok (.istore 5, 2) := by decide +kernel
theorem dX12_longs_70 : decode cX12_longs 70 = .ok (.iconst 0, 1) := by decide +kernel
theorem dX12_longs_71 : decode cX12_longs 71 = .ok (.istore 6, 2) := by decide +kernel
theorem dX12_longs_73 : decode cX12_longs 73 = .ok (.iload 6, 2) := by decide +kernel
theorem dX12_longs_75 : decode cX12_longs 75 = .ok (.aload_n 0, 1) := by decide +kernel
theorem dX12_longs_76 : decode cX12_longs 76 = .ok (.getfield 17, 3) := by decide +kernel
theorem dX12_longs_79 : decode cX12_longs 79 = .ok (.if_icmp .ge 47, 3) := by decide +kernel
theorem dX12_longs_82 : decode cX12_longs 82 = .ok (.iconst 0, 1) := by decide +kernel
theorem dX12_longs_83 : decode cX12_longs 83 = .ok (.istore 7, 2) := by decide +kernel
theorem dX12_longs_85 : decode cX12_longs 85 = .ok (.iload 7, 2) := by decide +kernel
theorem dX12_longs_87 : decode cX12_longs 87 = .ok (.iload 6, 2) := by decide +kernel
theorem dX12_longs_89 : decode cX12_longs 89 = .ok (.if_icmp .ge 31, 3) := by decide +kernel
theorem dX12_longs_92 : decode cX12_longs 92 = .ok (.iload 5, 2) := by decide +kernel
theorem dX12_longs_94 : decode cX12_longs 94 = .ok (.aload_n 0, 1) := by decide +kernel
theorem dX12_longs_95 : decode cX12_longs 95 = .ok (.getfield 35, 3) := by decide +kernel
theorem dX12_longs_98 : decode cX12_longs 98 = .ok (.iload 6, 2) := by decide +kernel
theorem dX12_longs_100 : decode cX12_longs 100 = .ok (.iaload, 1) := by decide +kernel
theorem dX12_longs_101 : decode cX12_longs 101 = .ok (.aload_n 0, 1) := by decide +kernel
theorem dX12_longs_102 : decode cX12_longs 102 = .ok (.getfield 35, 3) := by decide +kernel
theorem dX12_longs_105 : decode cX12_longs 105 = .ok (.iload 7, 2) := by decide +kernel
theorem dX12_longs_107 : decode cX12_longs 107 = .ok (.iaload, 1) := by decide +kernel
theorem dX12_longs_108 : decode cX12_longs 108 = .ok (.invokestatic 95, 3) := by decide +kernel
theorem dX12_longs_111 : decode cX12_longs 111 = .ok (.iadd, 1) := by decide +kernel
theorem dX12_longs_112 : decode cX12_longs 112 = .ok (.istore 5, 2) := by decide +kernel
theorem dX12_longs_114 : decode cX12_longs 114 = .ok (.iinc 7 1, 3) := by decide +kernel
theorem dX12_longs_117 : decode cX12_longs 117 = .ok (.goto (-32), 3) := by decide +kernel
theorem dX12_longs_120 : decode cX12_longs 120 = .ok (.iinc 6 1, 3) := by decide +kernel
theorem dX12_longs_123 : decode cX12_longs 123 = .ok (.goto (-50), 3) := by decide +kernel
theorem dX12_longs_126 : decode cX12_longs 126 = .ok (.iload 5, 2) := by decide +kernel
theorem dX12_longs_128 : decode cX12_longs 128 = .ok (.ireturn, 1) := by decide +kernel
theorem dX12_standingAt_0 : decode cX12_standingAt 0 = .ok (.aload_n 0, 1) := by decide +kernel
theorem dX12_standingAt_1 : decode cX12_standingAt 1 = .ok (.invokevirtual 105, 3) := by decide +kernel
theorem dX12_standingAt_4 : decode cX12_standingAt 4 = .ok (.istore_n 2, 1) := by decide +kernel
theorem dX12_standingAt_5 : decode cX12_standingAt 5 = .ok (.iconst 0, 1) := by decide +kernel
theorem dX12_standingAt_6 : decode cX12_standingAt 6 = .ok (.istore_n 3, 1) := by decide +kernel
theorem dX12_standingAt_7 : decode cX12_standingAt 7 = .ok (.iload_n 3, 1) := by decide +kernel
theorem dX12_standingAt_8 : decode cX12_standingAt 8 = .ok (.iload_n 1, 1) := by decide +kernel
theorem dX12_standingAt_9 : decode cX12_standingAt 9 = .ok (.if_icmp .ge 27, 3) := by decide +kernel
theorem dX12_standingAt_12 : decode cX12_standingAt 12 = .ok (.aload_n 0, 1) := by decide +kernel
theorem dX12_standingAt_13 : decode cX12_standingAt 13 = .ok (.iload_n 2, 1) := by decide +kernel
theorem dX12_standingAt_14 : decode cX12_standingAt 14 = .ok (.aload_n 0, 1) := by decide +kernel
theorem dX12_standingAt_15 : decode cX12_standingAt 15 = .ok (.getfield 32, 3) := by decide +kernel
theorem dX12_standingAt_18 : decode cX12_standingAt 18 = .ok (.iload_n 3, 1) := by decide +kernel
theorem dX12_standingAt_19 : decode cX12_standingAt 19 = .ok (.iaload, 1) := by decide +kernel
theorem dX12_standingAt_20 : decode cX12_standingAt 20 = .ok (.aload_n 0, 1) := by decide +kernel
theorem dX12_standingAt_21 : decode cX12_standingAt 21 = .ok (.getfield 26, 3) := by decide +kernel
theorem dX12_standingAt_24 : decode cX12_standingAt 24 = .ok (.iload_n 3, 1) := by decide +kernel
theorem dX12_standingAt_25 : decode cX12_standingAt 25 = .ok (.iaload, 1) := by decide +kernel
theorem dX12_standingAt_26 : decode cX12_standingAt 26 = .ok (.invokevirtual 91, 3) := by decide +kernel
theorem dX12_standingAt_29 : decode cX12_standingAt 29 = .ok (.istore_n 2, 1) := by decide +kernel
theorem dX12_standingAt_30 : decode cX12_standingAt 30 = .ok (.iinc 3 1, 3) := by decide +kernel
theorem dX12_standingAt_33 : decode cX12_standingAt 33 = .ok (.goto (-26), 3) := by decide +kernel
theorem dX12_standingAt_36 : decode cX12_standingAt 36 = .ok (.iload_n 2, 1) := by decide +kernel
theorem dX12_standingAt_37 : decode cX12_standingAt 37 = .ok (.ireturn, 1) := by decide +kernel
theorem dX12_longing_0 : decode cX12_longing 0 = .ok (.iload_n 1, 1) := by decide +kernel
theorem dX12_longing_1 : decode cX12_longing 1 = .ok (.iconst 0, 1) := by decide +kernel
theorem dX12_longing_2 : decode cX12_longing 2 = .ok (.bipush 40, 2) := by decide +kernel
theorem dX12_longing_4 : decode cX12_longing 4 = .ok (.invokestatic 69, 3) := by decide +kernel
theorem dX12_longing_7 : decode cX12_longing 7 = .ok (.ifCond .ne 6, 3) := by decide +kernel
theorem dX12_longing_10 : decode cX12_longing 10 = .ok (.bipush (-2), 2) := by decide +kernel
theorem dX12_longing_12 : decode cX12_longing 12 = .ok (.ireturn, 1) := by decide +kernel
theorem dX12_longing_13 : decode cX12_longing 13 = .ok (.aload_n 0, 1) := by decide +kernel
theorem dX12_longing_14 : decode cX12_longing 14 = .ok (.invokevirtual 83, 3) := by decide +kernel
theorem dX12_longing_17 : decode cX12_longing 17 = .ok (.ifCond .ne 6, 3) := by decide +kernel
theorem dX12_longing_20 : decode cX12_longing 20 = .ok (.bipush (-11), 2) := by decide +kernel
theorem dX12_longing_22 : decode cX12_longing 22 = .ok (.ireturn, 1) := by decide +kernel
theorem dX12_longing_23 : decode cX12_longing 23 = .ok (.aload_n 0, 1) := by decide +kernel
theorem dX12_longing_24 : decode cX12_longing 24 = .ok (.invokevirtual 109, 3) := by decide +kernel
theorem dX12_longing_27 : decode cX12_longing 27 = .ok (.aload_n 0, 1) := by decide +kernel
theorem dX12_longing_28 : decode cX12_longing 28 = .ok (.iconst 1, 1) := by decide +kernel
theorem dX12_longing_29 : decode cX12_longing 29 = .ok (.iload_n 1, 1) := by decide +kernel
theorem dX12_longing_30 : decode cX12_longing 30 = .ok (.invokevirtual 177, 3) := by decide +kernel
theorem dX12_longing_33 : decode cX12_longing 33 = .ok (.aload_n 0, 1) := by decide +kernel
theorem dX12_longing_34 : decode cX12_longing 34 = .ok (.aload_n 0, 1) := by decide +kernel
theorem dX12_longing_35 : decode cX12_longing 35 = .ok (.aload_n 0, 1) := by decide +kernel
theorem dX12_longing_36 : decode cX12_longing 36 = .ok (.iload_n 1, 1) := by decide +kernel
theorem dX12_longing_37 : decode cX12_longing 37 = .ok (.invokevirtual 158, 3) := by decide +kernel
theorem dX12_longing_40 : decode cX12_longing 40 = .ok (.invokevirtual 195, 3) := by decide +kernel
theorem dX12_longing_43 : decode cX12_longing 43 = .ok (.invokevirtual 198, 3) := by decide +kernel
theorem dX12_longing_46 : decode cX12_longing 46 = .ok (.ireturn, 1) := by decide +kernel
theorem dX12_paysNot_0 : decode cX12_paysNot 0 = .ok (.aload_n 0, 1) := by decide +kernel
theorem dX12_paysNot_1 : decode cX12_paysNot 1 = .ok (.invokevirtual 109, 3) := by decide +kernel
theorem dX12_paysNot_4 : decode cX12_paysNot 4 = .ok (.aload_n 0, 1) := by decide +kernel
theorem dX12_paysNot_5 : decode cX12_paysNot 5 = .ok (.invokevirtual 153, 3) := by decide +kernel
theorem dX12_paysNot_8 : decode cX12_paysNot 8 = .ok (.aload_n 0, 1) := by decide +kernel
theorem dX12_paysNot_9 : decode cX12_paysNot 9 = .ok (.invokevirtual 105, 3) := by decide +kernel
theorem dX12_paysNot_12 : decode cX12_paysNot 12 = .ok (.istore_n 1, 1) := by decide +kernel
theorem dX12_paysNot_13 : decode cX12_paysNot 13 = .ok (.aload_n 0, 1) := by decide +kernel
theorem dX12_paysNot_14 : decode cX12_paysNot 14 = .ok (.iload_n 1, 1) := by decide +kernel
theorem dX12_paysNot_15 : decode cX12_paysNot 15 = .ok (.invokevirtual 198, 3) := by decide +kernel
theorem dX12_paysNot_18 : decode cX12_paysNot 18 = .ok (.istore_n 2, 1) := by decide +kernel
theorem dX12_paysNot_19 : decode cX12_paysNot 19 = .ok (.iconst 0, 1) := by decide +kernel
theorem dX12_paysNot_20 : decode cX12_paysNot 20 = .ok (.istore_n 3, 1) := by decide +kernel
theorem dX12_paysNot_21 : decode cX12_paysNot 21 = .ok (.iload_n 3, 1) := by decide +kernel
theorem dX12_paysNot_22 : decode cX12_paysNot 22 = .ok (.aload_n 0, 1) := by decide +kernel
theorem dX12_paysNot_23 : decode cX12_paysNot 23 = .ok (.getfield 77, 3) := by decide +kernel
theorem dX12_paysNot_26 : decode cX12_paysNot 26 = .ok (.if_icmp .ge 92, 3) := by decide +kernel
theorem dX12_paysNot_29 : decode cX12_paysNot 29 = .ok (.aload_n 0, 1) := by decide +kernel
theorem dX12_paysNot_30 : decode cX12_paysNot 30 = .ok (.getfield 115, 3) := by decide +kernel
theorem dX12_paysNot_33 : decode cX12_paysNot 33 = .ok (.istore 4, 2) := by decide +kernel
theorem dX12_paysNot_35 : decode cX12_paysNot 35 = .ok (.aload_n 0, 1) := by decide +kernel
theorem dX12_paysNot_36 : decode cX12_paysNot 36 = .ok (.iconst 1, 1) := by decide +kernel
theorem dX12_paysNot_37 : decode cX12_paysNot 37 = .ok (.iload_n 3, 1) := by decide +kernel
theorem dX12_paysNot_38 : decode cX12_paysNot 38 = .ok (.invokevirtual 161, 3) := by decide +kernel
theorem dX12_paysNot_41 : decode cX12_paysNot 41 = .ok (.aload_n 0, 1) := by decide +kernel
theorem dX12_paysNot_42 : decode cX12_paysNot 42 = .ok (.iload_n 1, 1) := by decide +kernel
theorem dX12_paysNot_43 : decode cX12_paysNot 43 = .ok (.aload_n 0, 1) := by decide +kernel
theorem dX12_paysNot_44 : decode cX12_paysNot 44 = .ok (.getfield 32, 3) := by decide +kernel
theorem dX12_paysNot_47 : decode cX12_paysNot 47 = .ok (.iload_n 3, 1) := by decide +kernel
theorem dX12_paysNot_48 : decode cX12_paysNot 48 = .ok (.iaload, 1) := by decide +kernel
theorem dX12_paysNot_49 : decode cX12_paysNot 49 = .ok (.aload_n 0, 1) := by decide +kernel
theorem dX12_paysNot_50 : decode cX12_paysNot 50 = .ok (.getfield 26, 3) := by decide +kernel
theorem dX12_paysNot_53 : decode cX12_paysNot 53 = .ok (.iload_n 3, 1) := by decide +kernel
theorem dX12_paysNot_54 : decode cX12_paysNot 54 = .ok (.iaload, 1) := by decide +kernel
theorem dX12_paysNot_55 : decode cX12_paysNot 55 = .ok (.invokevirtual 102, 3) := by decide +kernel
theorem dX12_paysNot_58 : decode cX12_paysNot 58 = .ok (.istore 5, 2) := by decide +kernel
theorem dX12_paysNot_60 : decode cX12_paysNot 60 = .ok (.aload_n 0, 1) := by decide +kernel
theorem dX12_paysNot_61 : decode cX12_paysNot 61 = .ok (.iload_n 1, 1) := by decide +kernel
theorem dX12_paysNot_62 : decode cX12_paysNot 62 = .ok (.aload_n 0, 1) := by decide +kernel
theorem dX12_paysNot_63 : decode cX12_paysNot 63 = .ok (.getfield 32, 3) := by decide +kernel
theorem dX12_paysNot_66 : decode cX12_paysNot 66 = .ok (.iload_n 3, 1) := by decide +kernel
theorem dX12_paysNot_67 : decode cX12_paysNot 67 = .ok (.iaload, 1) := by decide +kernel
theorem dX12_paysNot_68 : decode cX12_paysNot 68 = .ok (.aload_n 0, 1) := by decide +kernel
theorem dX12_paysNot_69 : decode cX12_paysNot 69 = .ok (.getfield 26, 3) := by decide +kernel
theorem dX12_paysNot_72 : decode cX12_paysNot 72 = .ok (.iload_n 3, 1) := by decide +kernel
theorem dX12_paysNot_73 : decode cX12_paysNot 73 = .ok (.iaload, 1) := by decide +kernel
theorem dX12_paysNot_74 : decode cX12_paysNot 74 = .ok (.invokevirtual 91, 3) := by decide +kernel
theorem dX12_paysNot_77 : decode cX12_paysNot 77 = .ok (.istore_n 1, 1) := by decide +kernel
theorem dX12_paysNot_78 : decode cX12_paysNot 78 = .ok (.aload_n 0, 1) := by decide +kernel
theorem dX12_paysNot_79 : decode cX12_paysNot 79 = .ok (.iload_n 1, 1) := by decide +kernel
theorem dX12_paysNot_80 : decode cX12_paysNot 80 = .ok (.invokevirtual 198, 3) := by decide +kernel
theorem dX12_paysNot_83 : decode cX12_paysNot 83 = .ok (.istore 6, 2) := by decide +kernel
theorem dX12_paysNot_85 : decode cX12_paysNot 85 = .ok (.aload_n 0, 1) := by decide +kernel
theorem dX12_paysNot_86 : decode cX12_paysNot 86 = .ok (.getfield 115, 3) := by decide +kernel
theorem dX12_paysNot_89 : decode cX12_paysNot 89 = .ok (.iload 4, 2) := by decide +kernel
theorem dX12_paysNot_91 : decode cX12_paysNot 91 = .ok (.isub, 1) := by decide +kernel
theorem dX12_paysNot_92 : decode cX12_paysNot 92 = .ok (.iload 6, 2) := by decide +kernel
theorem dX12_paysNot_94 : decode cX12_paysNot 94 = .ok (.iadd, 1) := by decide +kernel
theorem dX12_paysNot_95 : decode cX12_paysNot 95 = .ok (.iload_n 2, 1) := by decide +kernel
theorem dX12_paysNot_96 : decode cX12_paysNot 96 = .ok (.isub, 1) := by decide +kernel
theorem dX12_paysNot_97 : decode cX12_paysNot 97 = .ok (.aload_n 0, 1) := by decide +kernel
theorem dX12_paysNot_98 : decode cX12_paysNot 98 = .ok (.getfield 17, 3) := by decide +kernel
theorem dX12_paysNot_101 : decode cX12_paysNot 101 = .ok (.iload 5, 2) := by decide +kernel
theorem dX12_paysNot_103 : decode cX12_paysNot 103 = .ok (.imul, 1) := by decide +kernel
theorem dX12_paysNot_104 : decode cX12_paysNot 104 = .ok (.if_icmp .le 5, 3) := by decide +kernel
theorem dX12_paysNot_107 : decode cX12_paysNot 107 = .ok (.iload_n 3, 1) := by decide +kernel
theorem dX12_paysNot_108 : decode cX12_paysNot 108 = .ok (.ireturn, 1) := by decide +kernel
theorem dX12_paysNot_109 : decode cX12_paysNot 109 = .ok (.iload 6, 2) := by decide +kernel
theorem dX12_paysNot_111 : decode cX12_paysNot 111 = .ok (.istore_n 2, 1) := by decide +kernel
theorem dX12_paysNot_112 : decode cX12_paysNot 112 = .ok (.iinc 3 1, 3) := by decide +kernel
theorem dX12_paysNot_115 : decode cX12_paysNot 115 = .ok (.goto (-94), 3) := by decide +kernel
theorem dX12_paysNot_118 : decode cX12_paysNot 118 = .ok (.iconst (-1), 1) := by decide +kernel
theorem dX12_paysNot_119 : decode cX12_paysNot 119 = .ok (.ireturn, 1) := by decide +kernel
theorem dX12_pays_0 : decode cX12_pays 0 = .ok (.aload_n 0, 1) := by decide +kernel
theorem dX12_pays_1 : decode cX12_pays 1 = .ok (.invokevirtual 83, 3) := by decide +kernel
theorem dX12_pays_4 : decode cX12_pays 4 = .ok (.ifCond .eq 10, 3) := by decide +kernel
theorem dX12_pays_7 : decode cX12_pays 7 = .ok (.aload_n 0, 1) := by decide +kernel
theorem dX12_pays_8 : decode cX12_pays 8 = .ok (.invokevirtual 201, 3) := by decide +kernel
theorem dX12_pays_11 : decode cX12_pays 11 = .ok (.goto 5, 3) := by decide +kernel
theorem dX12_pays_14 : decode cX12_pays 14 = .ok (.bipush (-11), 2) := by decide +kernel
theorem dX12_pays_16 : decode cX12_pays 16 = .ok (.ireturn, 1) := by decide +kernel
theorem dX12_meets_0 : decode cX12_meets 0 = .ok (.aload_n 0, 1) := by decide +kernel
theorem dX12_meets_1 : decode cX12_meets 1 = .ok (.iload_n 1, 1) := by decide +kernel
theorem dX12_meets_2 : decode cX12_meets 2 = .ok (.putfield 80, 3) := by decide +kernel
theorem dX12_meets_5 : decode cX12_meets 5 = .ok (.bipush (-10), 2) := by decide +kernel
theorem dX12_meets_7 : decode cX12_meets 7 = .ok (.iload_n 1, 1) := by decide +kernel
theorem dX12_meets_8 : decode cX12_meets 8 = .ok (.isub, 1) := by decide +kernel
theorem dX12_meets_9 : decode cX12_meets 9 = .ok (.ireturn, 1) := by decide +kernel
theorem dX12_isSheet_0 : decode cX12_isSheet 0 = .ok (.iload_n 0, 1) := by decide +kernel
theorem dX12_isSheet_1 : decode cX12_isSheet 1 = .ok (.iconst 0, 1) := by decide +kernel
theorem dX12_isSheet_2 : decode cX12_isSheet 2 = .ok (.iconst 3, 1) := by decide +kernel
theorem dX12_isSheet_3 : decode cX12_isSheet 3 = .ok (.invokestatic 69, 3) := by decide +kernel
theorem dX12_isSheet_6 : decode cX12_isSheet 6 = .ok (.ireturn, 1) := by decide +kernel
theorem dX12_sheet_0 : decode cX12_sheet 0 = .ok (.iload_n 1, 1) := by decide +kernel
theorem dX12_sheet_1 : decode cX12_sheet 1 = .ok (.invokestatic 204, 3) := by decide +kernel
theorem dX12_sheet_4 : decode cX12_sheet 4 = .ok (.ifCond .eq 18, 3) := by decide +kernel
theorem dX12_sheet_7 : decode cX12_sheet 7 = .ok (.iload_n 2, 1) := by decide +kernel
theorem dX12_sheet_8 : decode cX12_sheet 8 = .ok (.iconst 0, 1) := by decide +kernel
theorem dX12_sheet_9 : decode cX12_sheet 9 = .ok (.iconst 2, 1) := by decide +kernel
theorem dX12_sheet_10 : decode cX12_sheet 10 = .ok (.invokestatic 69, 3) := by decide +kernel
theorem dX12_sheet_13 : decode cX12_sheet 13 = .ok (.ifCond .eq 9, 3) := by decide +kernel
theorem dX12_sheet_16 : decode cX12_sheet 16 = .ok (.iload_n 3, 1) := by decide +kernel
theorem dX12_sheet_17 : decode cX12_sheet 17 = .ok (.bipush 40, 2) := by decide +kernel
theorem dX12_sheet_19 : decode cX12_sheet 19 = .ok (.if_icmp .le 6, 3) := by decide +kernel
theorem dX12_sheet_22 : decode cX12_sheet 22 = .ok (.bipush (-2), 2) := by decide +kernel
theorem dX12_sheet_24 : decode cX12_sheet 24 = .ok (.ireturn, 1) := by decide +kernel
theorem dX12_sheet_25 : decode cX12_sheet 25 = .ok (.iload_n 3, 1) := by decide +kernel
theorem dX12_sheet_26 : decode cX12_sheet 26 = .ok (.ifCond .ge 9, 3) := by decide +kernel
theorem dX12_sheet_29 : decode cX12_sheet 29 = .ok (.aload_n 0, 1) := by decide +kernel
theorem dX12_sheet_30 : decode cX12_sheet 30 = .ok (.iconst 5, 1) := by decide +kernel
theorem dX12_sheet_31 : decode cX12_sheet 31 = .ok (.invokevirtual 207, 3) := by decide +kernel
theorem dX12_sheet_34 : decode cX12_sheet 34 = .ok (.ireturn, 1) := by decide +kernel
theorem dX12_sheet_35 : decode cX12_sheet 35 = .ok (.aload_n 0, 1) := by decide +kernel
theorem dX12_sheet_36 : decode cX12_sheet 36 = .ok (.getfield 53, 3) := by decide +kernel
theorem dX12_sheet_39 : decode cX12_sheet 39 = .ok (.iload_n 1, 1) := by decide +kernel
theorem dX12_sheet_40 : decode cX12_sheet 40 = .ok (.iconst 1, 1) := by decide +kernel
theorem dX12_sheet_41 : decode cX12_sheet 41 = .ok (.bastore, 1) := by decide +kernel
theorem dX12_sheet_42 : decode cX12_sheet 42 = .ok (.aload_n 0, 1) := by decide +kernel
theorem dX12_sheet_43 : decode cX12_sheet 43 = .ok (.getfield 57, 3) := by decide +kernel
theorem dX12_sheet_46 : decode cX12_sheet 46 = .ok (.iload_n 1, 1) := by decide +kernel
theorem dX12_sheet_47 : decode cX12_sheet 47 = .ok (.iload_n 2, 1) := by decide +kernel
theorem dX12_sheet_48 : decode cX12_sheet 48 = .ok (.iastore, 1) := by decide +kernel
theorem dX12_sheet_49 : decode cX12_sheet 49 = .ok (.aload_n 0, 1) := by decide +kernel
theorem dX12_sheet_50 : decode cX12_sheet 50 = .ok (.getfield 60, 3) := by decide +kernel
theorem dX12_sheet_53 : decode cX12_sheet 53 = .ok (.iload_n 1, 1) := by decide +kernel
theorem dX12_sheet_54 : decode cX12_sheet 54 = .ok (.iload_n 3, 1) := by decide +kernel
theorem dX12_sheet_55 : decode cX12_sheet 55 = .ok (.iastore, 1) := by decide +kernel
theorem dX12_sheet_56 : decode cX12_sheet 56 = .ok (.iconst 0, 1) := by decide +kernel
theorem dX12_sheet_57 : decode cX12_sheet 57 = .ok (.istore 4, 2) := by decide +kernel
theorem dX12_sheet_59 : decode cX12_sheet 59 = .ok (.iload 4, 2) := by decide +kernel
theorem dX12_sheet_61 : decode cX12_sheet 61 = .ok (.bipush 40, 2) := by decide +kernel
theorem dX12_sheet_63 : decode cX12_sheet 63 = .ok (.if_icmp .ge 22, 3) := by decide +kernel
theorem dX12_sheet_66 : decode cX12_sheet 66 = .ok (.aload_n 0, 1) := by decide +kernel
theorem dX12_sheet_67 : decode cX12_sheet 67 = .ok (.getfield 63, 3) := by decide +kernel
theorem dX12_sheet_70 : decode cX12_sheet 70 = .ok (.bipush 40, 2) := by decide +kernel
theorem dX12_sheet_72 : decode cX12_sheet 72 = .ok (.iload_n 1, 1) := by decide +kernel
theorem dX12_sheet_73 : decode cX12_sheet 73 = .ok (.imul, 1) := by decide +kernel
theorem dX12_sheet_74 : decode cX12_sheet 74 = .ok (.iload 4, 2) := by decide +kernel
theorem dX12_sheet_76 : decode cX12_sheet 76 = .ok (.iadd, 1) := by decide +kernel
theorem dX12_sheet_77 : decode cX12_sheet 77 = .ok (.iconst 0, 1) := by decide +kernel
theorem dX12_sheet_78 : decode cX12_sheet 78 = .ok (.iastore, 1) := by decide +kernel
theorem dX12_sheet_79 : decode cX12_sheet 79 = .ok (.iinc 4 1, 3) := by decide +kernel
theorem dX12_sheet_82 : decode cX12_sheet 82 = .ok (.goto (-23), 3) := by decide +kernel
theorem dX12_sheet_85 : decode cX12_sheet 85 = .ok (.iload_n 3, 1) := by decide +kernel
theorem dX12_sheet_86 : decode cX12_sheet 86 = .ok (.ireturn, 1) := by decide +kernel
theorem dX12_lose_0 : decode cX12_lose 0 = .ok (.iload_n 1, 1) := by decide +kernel
theorem dX12_lose_1 : decode cX12_lose 1 = .ok (.invokestatic 204, 3) := by decide +kernel
theorem dX12_lose_4 : decode cX12_lose 4 = .ok (.ifCond .ne 6, 3) := by decide +kernel
theorem dX12_lose_7 : decode cX12_lose 7 = .ok (.bipush (-2), 2) := by decide +kernel
theorem dX12_lose_9 : decode cX12_lose 9 = .ok (.ireturn, 1) := by decide +kernel
theorem dX12_lose_10 : decode cX12_lose 10 = .ok (.aload_n 0, 1) := by decide +kernel
theorem dX12_lose_11 : decode cX12_lose 11 = .ok (.getfield 53, 3) := by decide +kernel
theorem dX12_lose_14 : decode cX12_lose 14 = .ok (.iload_n 1, 1) := by decide +kernel
theorem dX12_lose_15 : decode cX12_lose 15 = .ok (.baload, 1) := by decide +kernel
theorem dX12_lose_16 : decode cX12_lose 16 = .ok (.ifCond .ne 9, 3) := by decide +kernel
theorem dX12_lose_19 : decode cX12_lose 19 = .ok (.aload_n 0, 1) := by decide +kernel
theorem dX12_lose_20 : decode cX12_lose 20 = .ok (.iconst 1, 1) := by decide +kernel
theorem dX12_lose_21 : decode cX12_lose 21 = .ok (.invokevirtual 207, 3) := by decide +kernel
theorem dX12_lose_24 : decode cX12_lose 24 = .ok (.ireturn, 1) := by decide +kernel
theorem dX12_lose_25 : decode cX12_lose 25 = .ok (.aload_n 0, 1) := by decide +kernel
theorem dX12_lose_26 : decode cX12_lose 26 = .ok (.getfield 53, 3) := by decide +kernel
theorem dX12_lose_29 : decode cX12_lose 29 = .ok (.iload_n 1, 1) := by decide +kernel
theorem dX12_lose_30 : decode cX12_lose 30 = .ok (.iconst 0, 1) := by decide +kernel
theorem dX12_lose_31 : decode cX12_lose 31 = .ok (.bastore, 1) := by decide +kernel
theorem dX12_lose_32 : decode cX12_lose 32 = .ok (.aload_n 0, 1) := by decide +kernel
theorem dX12_lose_33 : decode cX12_lose 33 = .ok (.getfield 60, 3) := by decide +kernel
theorem dX12_lose_36 : decode cX12_lose 36 = .ok (.iload_n 1, 1) := by decide +kernel
theorem dX12_lose_37 : decode cX12_lose 37 = .ok (.iaload, 1) := by decide +kernel
theorem dX12_lose_38 : decode cX12_lose 38 = .ok (.ireturn, 1) := by decide +kernel
theorem dX12_lacks_0 : decode cX12_lacks 0 = .ok (.aload_n 0, 1) := by decide +kernel
theorem dX12_lacks_1 : decode cX12_lacks 1 = .ok (.getfield 53, 3) := by decide +kernel
theorem dX12_lacks_4 : decode cX12_lacks 4 = .ok (.iload_n 1, 1) := by decide +kernel
theorem dX12_lacks_5 : decode cX12_lacks 5 = .ok (.baload, 1) := by decide +kernel
theorem dX12_lacks_6 : decode cX12_lacks 6 = .ok (.ifCond .ne 7, 3) := by decide +kernel
theorem dX12_lacks_9 : decode cX12_lacks 9 = .ok (.iconst 1, 1) := by decide +kernel
theorem dX12_lacks_10 : decode cX12_lacks 10 = .ok (.goto 38, 3) := by decide +kernel
theorem dX12_lacks_13 : decode cX12_lacks 13 = .ok (.aload_n 0, 1) := by decide +kernel
theorem dX12_lacks_14 : decode cX12_lacks 14 = .ok (.getfield 57, 3) := by decide +kernel
theorem dX12_lacks_17 : decode cX12_lacks 17 = .ok (.iload_n 1, 1) := by decide +kernel
theorem dX12_lacks_18 : decode cX12_lacks 18 = .ok (.iaload, 1) := by decide +kernel
theorem dX12_lacks_19 : decode cX12_lacks 19 = .ok (.iload_n 2, 1) := by decide +kernel
theorem dX12_lacks_20 : decode cX12_lacks 20 = .ok (.if_icmp .eq 7, 3) := by decide +kernel
theorem dX12_lacks_23 : decode cX12_lacks 23 = .ok (.iconst 3, 1) := by decide +kernel
theorem dX12_lacks_24 : decode cX12_lacks 24 = .ok (.goto 24, 3) := by decide +kernel
theorem dX12_lacks_27 : decode cX12_lacks 27 = .ok (.iload_n 3, 1) := by decide +kernel
theorem dX12_lacks_28 : decode cX12_lacks 28 = .ok (.iconst 0, 1) := by decide +kernel
theorem dX12_lacks_29 : decode cX12_lacks 29 = .ok (.aload_n 0, 1) := by decide +kernel
theorem dX12_lacks_30 : decode cX12_lacks 30 = .ok (.getfield 60, 3) := by decide +kernel
theorem dX12_lacks_33 : decode cX12_lacks 33 = .ok (.iload_n 1, 1) := by decide +kernel
theorem dX12_lacks_34 : decode cX12_lacks 34 = .ok (.iaload, 1) := by decide +kernel
theorem dX12_lacks_35 : decode cX12_lacks 35 = .ok (.iconst 1, 1) := by decide +kernel
theorem dX12_lacks_36 : decode cX12_lacks 36 = .ok (.isub, 1) := by decide +kernel
theorem dX12_lacks_37 : decode cX12_lacks 37 = .ok (.invokestatic 69, 3) := by decide +kernel
theorem dX12_lacks_40 : decode cX12_lacks 40 = .ok (.ifCond .eq 7, 3) := by decide +kernel
theorem dX12_lacks_43 : decode cX12_lacks 43 = .ok (.iconst 0, 1) := by decide +kernel
theorem dX12_lacks_44 : decode cX12_lacks 44 = .ok (.goto 4, 3) := by decide +kernel
theorem dX12_lacks_47 : decode cX12_lacks 47 = .ok (.iconst 2, 1) := by decide +kernel
theorem dX12_lacks_48 : decode cX12_lacks 48 = .ok (.ireturn, 1) := by decide +kernel
theorem dX12_put_0 : decode cX12_put 0 = .ok (.iload_n 1, 1) := by decide +kernel
theorem dX12_put_1 : decode cX12_put 1 = .ok (.invokestatic 204, 3) := by decide +kernel
theorem dX12_put_4 : decode cX12_put 4 = .ok (.ifCond .eq 12, 3) := by decide +kernel
theorem dX12_put_7 : decode cX12_put 7 = .ok (.iload_n 2, 1) := by decide +kernel
theorem dX12_put_8 : decode cX12_put 8 = .ok (.iconst 0, 1) := by decide +kernel
theorem dX12_put_9 : decode cX12_put 9 = .ok (.iconst 2, 1) := by decide +kernel
theorem dX12_put_10 : decode cX12_put 10 = .ok (.invokestatic 69, 3) := by decide +kernel
theorem dX12_put_13 : decode cX12_put 13 = .ok (.ifCond .ne 6, 3) := by decide +kernel
theorem dX12_put_16 : decode cX12_put 16 = .ok (.bipush (-2), 2) := by decide +kernel
theorem dX12_put_18 : decode cX12_put 18 = .ok (.ireturn, 1) := by decide +kernel
theorem dX12_put_19 : decode cX12_put 19 = .ok (.aload_n 0, 1) := by decide +kernel
theorem dX12_put_20 : decode cX12_put 20 = .ok (.iload_n 1, 1) := by decide +kernel
theorem dX12_put_21 : decode cX12_put 21 = .ok (.iload_n 2, 1) := by decide +kernel
theorem dX12_put_22 : decode cX12_put 22 = .ok (.iload_n 3, 1) := by decide +kernel
theorem dX12_put_23 : decode cX12_put 23 = .ok (.invokevirtual 210, 3) := by decide +kernel
theorem dX12_put_26 : decode cX12_put 26 = .ok (.istore 5, 2) := by decide +kernel
theorem dX12_put_28 : decode cX12_put 28 = .ok (.iload 5, 2) := by decide +kernel
theorem dX12_put_30 : decode cX12_put 30 = .ok (.ifCond .le 10, 3) := by decide +kernel
theorem dX12_put_33 : decode cX12_put 33 = .ok (.aload_n 0, 1) := by decide +kernel
theorem dX12_put_34 : decode cX12_put 34 = .ok (.iload 5, 2) := by decide +kernel
theorem dX12_put_36 : decode cX12_put 36 = .ok (.invokevirtual 207, 3) := by decide +kernel
theorem dX12_put_39 : decode cX12_put 39 = .ok (.ireturn, 1) := by decide +kernel
theorem dX12_put_40 : decode cX12_put 40 = .ok (.aload_n 0, 1) := by decide +kernel
theorem dX12_put_41 : decode cX12_put 41 = .ok (.getfield 63, 3) := by decide +kernel
theorem dX12_put_44 : decode cX12_put 44 = .ok (.bipush 40, 2) := by decide +kernel
theorem dX12_put_46 : decode cX12_put 46 = .ok (.iload_n 1, 1) := by decide +kernel
theorem dX12_put_47 : decode cX12_put 47 = .ok (.imul, 1) := by decide +kernel
theorem dX12_put_48 : decode cX12_put 48 = .ok (.iload_n 3, 1) := by decide +kernel
theorem dX12_put_49 : decode cX12_put 49 = .ok (.iadd, 1) := by decide +kernel
theorem dX12_put_50 : decode cX12_put 50 = .ok (.iload_n 2, 1) := by decide +kernel
theorem dX12_put_51 : decode cX12_put 51 = .ok (.ifCond .ne 9, 3) := by decide +kernel
theorem dX12_put_54 : decode cX12_put 54 = .ok (.iload 4, 2) := by decide +kernel
theorem dX12_put_56 : decode cX12_put 56 = .ok (.i2b, 1) := by decide +kernel
theorem dX12_put_57 : decode cX12_put 57 = .ok (.goto 16, 3) := by decide +kernel
theorem dX12_put_60 : decode cX12_put 60 = .ok (.iload_n 2, 1) := by decide +kernel
theorem dX12_put_61 : decode cX12_put 61 = .ok (.iconst 1, 1) := by decide +kernel
theorem dX12_put_62 : decode cX12_put 62 = .ok (.if_icmp .ne 9, 3) := by decide +kernel
theorem dX12_put_65 : decode cX12_put 65 = .ok (.iload 4, 2) := by decide +kernel
theorem dX12_put_67 : decode cX12_put 67 = .ok (.i2s, 1) := by decide +kernel
theorem dX12_put_68 : decode cX12_put 68 = .ok (.goto 5, 3) := by decide +kernel
theorem dX12_put_71 : decode cX12_put 71 = .ok (.iload 4, 2) := by decide +kernel
theorem dX12_put_73 : decode cX12_put 73 = .ok (.iastore, 1) := by decide +kernel
theorem dX12_put_74 : decode cX12_put 74 = .ok (.iconst 1, 1) := by decide +kernel
theorem dX12_put_75 : decode cX12_put 75 = .ok (.ireturn, 1) := by decide +kernel
theorem dX12_get_0 : decode cX12_get 0 = .ok (.iload_n 1, 1) := by decide +kernel
theorem dX12_get_1 : decode cX12_get 1 = .ok (.invokestatic 204, 3) := by decide +kernel
theorem dX12_get_4 : decode cX12_get 4 = .ok (.ifCond .eq 12, 3) := by decide +kernel
theorem dX12_get_7 : decode cX12_get 7 = .ok (.iload_n 2, 1) := by decide +kernel
theorem dX12_get_8 : decode cX12_get 8 = .ok (.iconst 0, 1) := by decide +kernel
theorem dX12_get_9 : decode cX12_get 9 = .ok (.iconst 2, 1) := by decide +kernel
theorem dX12_get_10 : decode cX12_get 10 = .ok (.invokestatic 69, 3) := by decide +kernel
theorem dX12_get_13 : decode cX12_get 13 = .ok (.ifCond .ne 6, 3) := by decide +kernel
theorem dX12_get_16 : decode cX12_get 16 = .ok (.ldc 213, 2) := by decide +kernel
theorem dX12_get_18 : decode cX12_get 18 = .ok (.ireturn, 1) := by decide +kernel
theorem dX12_get_19 : decode cX12_get 19 = .ok (.aload_n 0, 1) := by decide +kernel
theorem dX12_get_20 : decode cX12_get 20 = .ok (.iload_n 1, 1) := by decide +kernel
theorem dX12_get_21 : decode cX12_get 21 = .ok (.iload_n 2, 1) := by decide +kernel
theorem dX12_get_22 : decode cX12_get 22 = .ok (.iload_n 3, 1) := by decide +kernel
theorem dX12_get_23 : decode cX12_get 23 = .ok (.invokevirtual 210, 3) := by decide +kernel
theorem dX12_get_26 : decode cX12_get 26 = .ok (.istore 4, 2) := by decide +kernel
theorem dX12_get_28 : decode cX12_get 28 = .ok (.iload 4, 2) := by decide +kernel
theorem dX12_get_30 : decode cX12_get 30 = .ok (.ifCond .le 12, 3) := by decide +kernel
theorem dX12_get_33 : decode cX12_get 33 = .ok (.aload_n 0, 1) := by decide +kernel
theorem dX12_get_34 : decode cX12_get 34 = .ok (.iload 4, 2) := by decide +kernel
theorem dX12_get_36 : decode cX12_get 36 = .ok (.putfield 80, 3) := by decide +kernel
theorem dX12_get_39 : decode cX12_get 39 = .ok (.ldc 213, 2) := by decide +kernel
theorem dX12_get_41 : decode cX12_get 41 = .ok (.ireturn, 1) := by decide +kernel
theorem dX12_get_42 : decode cX12_get 42 = .ok (.aload_n 0, 1) := by decide +kernel
theorem dX12_get_43 : decode cX12_get 43 = .ok (.getfield 63, 3) := by decide +kernel
theorem dX12_get_46 : decode cX12_get 46 = .ok (.bipush 40, 2) := by decide +kernel
theorem dX12_get_48 : decode cX12_get 48 = .ok (.iload_n 1, 1) := by decide +kernel
theorem dX12_get_49 : decode cX12_get 49 = .ok (.imul, 1) := by decide +kernel
theorem dX12_get_50 : decode cX12_get 50 = .ok (.iload_n 3, 1) := by decide +kernel
theorem dX12_get_51 : decode cX12_get 51 = .ok (.iadd, 1) := by decide +kernel
theorem dX12_get_52 : decode cX12_get 52 = .ok (.iaload, 1) := by decide +kernel
theorem dX12_get_53 : decode cX12_get 53 = .ok (.ireturn, 1) := by decide +kernel
theorem dX12_copy_0 : decode cX12_copy 0 = .ok (.iload_n 1, 1) := by decide +kernel
theorem dX12_copy_1 : decode cX12_copy 1 = .ok (.invokestatic 204, 3) := by decide +kernel
theorem dX12_copy_4 : decode cX12_copy 4 = .ok (.ifCond .eq 10, 3) := by decide +kernel
theorem dX12_copy_7 : decode cX12_copy 7 = .ok (.iload_n 3, 1) := by decide +kernel
theorem dX12_copy_8 : decode cX12_copy 8 = .ok (.invokestatic 204, 3) := by decide +kernel
theorem dX12_copy_11 : decode cX12_copy 11 = .ok (.ifCond .ne 6, 3) := by decide +kernel
theorem dX12_copy_14 : decode cX12_copy 14 = .ok (.bipush (-2), 2) := by decide +kernel
theorem dX12_copy_16 : decode cX12_copy 16 = .ok (.ireturn, 1) := by decide +kernel
theorem dX12_copy_17 : decode cX12_copy 17 = .ok (.aload_n 0, 1) := by decide +kernel
theorem dX12_copy_18 : decode cX12_copy 18 = .ok (.getfield 53, 3) := by decide +kernel
theorem dX12_copy_21 : decode cX12_copy 21 = .ok (.iload_n 1, 1) := by decide +kernel
theorem dX12_copy_22 : decode cX12_copy 22 = .ok (.baload, 1) := by decide +kernel
theorem dX12_copy_23 : decode cX12_copy 23 = .ok (.ifCond .eq 12, 3) := by decide +kernel
theorem dX12_copy_26 : decode cX12_copy 26 = .ok (.aload_n 0, 1) := by decide +kernel
theorem dX12_copy_27 : decode cX12_copy 27 = .ok (.getfield 53, 3) := by decide +kernel
theorem dX12_copy_30 : decode cX12_copy 30 = .ok (.iload_n 3, 1) := by decide +kernel
theorem dX12_copy_31 : decode cX12_copy 31 = .ok (.baload, 1) := by decide +kernel
theorem dX12_copy_32 : decode cX12_copy 32 = .ok (.ifCond .ne 9, 3) := by decide +kernel
theorem dX12_copy_35 : decode cX12_copy 35 = .ok (.aload_n 0, 1) := by decide +kernel
theorem dX12_copy_36 : decode cX12_copy 36 = .ok (.iconst 1, 1) := by decide +kernel
theorem dX12_copy_37 : decode cX12_copy 37 = .ok (.invokevirtual 207, 3) := by decide +kernel
theorem dX12_copy_40 : decode cX12_copy 40 = .ok (.ireturn, 1) := by decide +kernel
theorem dX12_copy_41 : decode cX12_copy 41 = .ok (.aload_n 0, 1) := by decide +kernel
theorem dX12_copy_42 : decode cX12_copy 42 = .ok (.getfield 57, 3) := by decide +kernel
theorem dX12_copy_45 : decode cX12_copy 45 = .ok (.iload_n 1, 1) := by decide +kernel
theorem dX12_copy_46 : decode cX12_copy 46 = .ok (.iaload, 1) := by decide +kernel
theorem dX12_copy_47 : decode cX12_copy 47 = .ok (.aload_n 0, 1) := by decide +kernel
theorem dX12_copy_48 : decode cX12_copy 48 = .ok (.getfield 57, 3) := by decide +kernel
theorem dX12_copy_51 : decode cX12_copy 51 = .ok (.iload_n 3, 1) := by decide +kernel
theorem dX12_copy_52 : decode cX12_copy 52 = .ok (.iaload, 1) := by decide +kernel
theorem dX12_copy_53 : decode cX12_copy 53 = .ok (.if_icmp .eq 9, 3) := by decide +kernel
theorem dX12_copy_56 : decode cX12_copy 56 = .ok (.aload_n 0, 1) := by decide +kernel
theorem dX12_copy_57 : decode cX12_copy 57 = .ok (.iconst 4, 1) := by decide +kernel
theorem dX12_copy_58 : decode cX12_copy 58 = .ok (.invokevirtual 207, 3) := by decide +kernel
theorem dX12_copy_61 : decode cX12_copy 61 = .ok (.ireturn, 1) := by decide +kernel
theorem dX12_copy_62 : decode cX12_copy 62 = .ok (.iload_n 2, 1) := by decide +kernel
theorem dX12_copy_63 : decode cX12_copy 63 = .ok (.ifCond .lt 48, 3) := by decide +kernel
theorem dX12_copy_66 : decode cX12_copy 66 = .ok (.iload 4, 2) := by decide +kernel
theorem dX12_copy_68 : decode cX12_copy 68 = .ok (.ifCond .lt 43, 3) := by decide +kernel
theorem dX12_copy_71 : decode cX12_copy 71 = .ok (.iload 5, 2) := by decide +kernel
theorem dX12_copy_73 : decode cX12_copy 73 = .ok (.ifCond .lt 38, 3) := by decide +kernel
theorem dX12_copy_76 : decode cX12_copy 76 = .ok (.iload_n 2, 1) := by decide +kernel
theorem dX12_copy_77 : decode cX12_copy 77 = .ok (.i2l, 1) := by decide +kernel
theorem dX12_copy_78 : decode cX12_copy 78 = .ok (.iload 5, 2) := by decide +kernel
theorem dX12_copy_80 : decode cX12_copy 80 = .ok (.i2l, 1) := by decide +kernel
theorem dX12_copy_81 : decode cX12_copy 81 = .ok (.ladd, 1) := by decide +kernel
theorem dX12_copy_82 : decode cX12_copy 82 = .ok (.aload_n 0, 1) := by decide +kernel
theorem dX12_copy_83 : decode cX12_copy 83 = .ok (.getfield 60, 3) := by decide +kernel
theorem dX12_copy_86 : decode cX12_copy 86 = .ok (.iload_n 1, 1) := by decide +kernel
theorem dX12_copy_87 : decode cX12_copy 87 = .ok (.iaload, 1) := by decide +kernel
theorem dX12_copy_88 : decode cX12_copy 88 = .ok (.i2l, 1) := by decide +kernel
theorem dX12_copy_89 : decode cX12_copy 89 = .ok (.lcmp, 1) := by decide +kernel
theorem dX12_copy_90 : decode cX12_copy 90 = .ok (.ifCond .gt 21, 3) := by decide +kernel
theorem dX12_copy_93 : decode cX12_copy 93 = .ok (.iload 4, 2) := by decide +kernel
theorem dX12_copy_95 : decode cX12_copy 95 = .ok (.i2l, 1) := by decide +kernel
theorem dX12_copy_96 : decode cX12_copy 96 = .ok (.iload 5, 2) := by decide +kernel
theorem dX12_copy_98 : decode cX12_copy 98 = .ok (.i2l, 1) := by decide +kernel
theorem dX12_copy_99 : decode cX12_copy 99 = .ok (.ladd, 1) := by decide +kernel
theorem dX12_copy_100 : decode cX12_copy 100 = .ok (.aload_n 0, 1) := by decide +kernel
theorem dX12_copy_101 : decode cX12_copy 101 = .ok (.getfield 60, 3) := by decide +kernel
theorem dX12_copy_104 : decode cX12_copy 104 = .ok (.iload_n 3, 1) := by decide +kernel
theorem dX12_copy_105 : decode cX12_copy 105 = .ok (.iaload, 1) := by decide +kernel
theorem dX12_copy_106 : decode cX12_copy 106 = .ok (.i2l, 1) := by decide +kernel
theorem dX12_copy_107 : decode cX12_copy 107 = .ok (.lcmp, 1) := by decide +kernel
theorem dX12_copy_108 : decode cX12_copy 108 = .ok (.ifCond .le 9, 3) := by decide +kernel
theorem dX12_copy_111 : decode cX12_copy 111 = .ok (.aload_n 0, 1) := by decide +kernel
theorem dX12_copy_112 : decode cX12_copy 112 = .ok (.iconst 2, 1) := by decide +kernel
theorem dX12_copy_113 : decode cX12_copy 113 = .ok (.invokevirtual 207, 3) := by decide +kernel
theorem dX12_copy_116 : decode cX12_copy 116 = .ok (.ireturn, 1) := by decide +kernel
theorem dX12_copy_117 : decode cX12_copy 117 = .ok (.iconst 0, 1) := by decide +kernel
theorem dX12_copy_118 : decode cX12_copy 118 = .ok (.istore 6, 2) := by decide +kernel
theorem dX12_copy_120 : decode cX12_copy 120 = .ok (.iload 6, 2) := by decide +kernel
theorem dX12_copy_122 : decode cX12_copy 122 = .ok (.iload 5, 2) := by decide +kernel
theorem dX12_copy_124 : decode cX12_copy 124 = .ok (.if_icmp .ge 30, 3) := by decide +kernel
theorem dX12_copy_127 : decode cX12_copy 127 = .ok (.aload_n 0, 1) := by decide +kernel
theorem dX12_copy_128 : decode cX12_copy 128 = .ok (.getfield 66, 3) := by decide +kernel
theorem dX12_copy_131 : decode cX12_copy 131 = .ok (.iload 6, 2) := by decide +kernel
theorem dX12_copy_133 : decode cX12_copy 133 = .ok (.aload_n 0, 1) := by decide +kernel
theorem dX12_copy_134 : decode cX12_copy 134 = .ok (.getfield 63, 3) := by decide +kernel
theorem dX12_copy_137 : decode cX12_copy 137 = .ok (.bipush 40, 2) := by decide +kernel
theorem dX12_copy_139 : decode cX12_copy 139 = .ok (.iload_n 1, 1) := by decide +kernel
theorem dX12_copy_140 : decode cX12_copy 140 = .ok (.imul, 1) := by decide +kernel
theorem dX12_copy_141 : decode cX12_copy 141 = .ok (.iload_n 2, 1) := by decide +kernel
theorem dX12_copy_142 : decode cX12_copy 142 = .ok (.iadd, 1) := by decide +kernel
theorem dX12_copy_143 : decode cX12_copy 143 = .ok (.iload 6, 2) := by decide +kernel
theorem dX12_copy_145 : decode cX12_copy 145 = .ok (.iadd, 1) := by decide +kernel
theorem dX12_copy_146 : decode cX12_copy 146 = .ok (.iaload, 1) := by decide +kernel
theorem dX12_copy_147 : decode cX12_copy 147 = .ok (.iastore, 1) := by decide +kernel
theorem dX12_copy_148 : decode cX12_copy 148 = .ok (.iinc 6 1, 3) := by decide +kernel
theorem dX12_copy_151 : decode cX12_copy 151 = .ok (.goto (-31), 3) := by decide +kernel
theorem dX12_copy_154 : decode cX12_copy 154 = .ok (.iconst 0, 1) := by decide +kernel
theorem dX12_copy_155 : decode cX12_copy 155 = .ok (.istore 6, 2) := by decide +kernel
theorem dX12_copy_157 : decode cX12_copy 157 = .ok (.iload 6, 2) := by decide +kernel
theorem dX12_copy_159 : decode cX12_copy 159 = .ok (.iload 5, 2) := by decide +kernel
theorem dX12_copy_161 : decode cX12_copy 161 = .ok (.if_icmp .ge 31, 3) := by decide +kernel
theorem dX12_copy_164 : decode cX12_copy 164 = .ok (.aload_n 0, 1) := by decide +kernel
theorem dX12_copy_165 : decode cX12_copy 165 = .ok (.getfield 63, 3) := by decide +kernel
theorem dX12_copy_168 : decode cX12_copy 168 = .ok (.bipush 40, 2) := by decide +kernel
theorem dX12_copy_170 : decode cX12_copy 170 = .ok (.iload_n 3, 1) := by decide +kernel
theorem dX12_copy_171 : decode cX12_copy 171 = .ok (.imul, 1) := by decide +kernel
theorem dX12_copy_172 : decode cX12_copy 172 = .ok (.iload 4, 2) := by decide +kernel
theorem dX12_copy_174 : decode cX12_copy 174 = .ok (.iadd, 1) := by decide +kernel
theorem dX12_copy_175 : decode cX12_copy 175 = .ok (.iload 6, 2) := by decide +kernel
theorem dX12_copy_177 : decode cX12_copy 177 = .ok (.iadd, 1) := by decide +kernel
theorem dX12_copy_178 : decode cX12_copy 178 = .ok (.aload_n 0, 1) := by decide +kernel
theorem dX12_copy_179 : decode cX12_copy 179 = .ok (.getfield 66, 3) := by decide +kernel
theorem dX12_copy_182 : decode cX12_copy 182 = .ok (.iload 6, 2) := by decide +kernel
theorem dX12_copy_184 : decode cX12_copy 184 = .ok (.iaload, 1) := by decide +kernel
theorem dX12_copy_185 : decode cX12_copy 185 = .ok (.iastore, 1) := by decide +kernel
theorem dX12_copy_186 : decode cX12_copy 186 = .ok (.iinc 6 1, 3) := by decide +kernel
theorem dX12_copy_189 : decode cX12_copy 189 = .ok (.goto (-32), 3) := by decide +kernel
theorem dX12_copy_192 : decode cX12_copy 192 = .ok (.iconst 1, 1) := by decide +kernel
theorem dX12_copy_193 : decode cX12_copy 193 = .ok (.ireturn, 1) := by decide +kernel
theorem dX12_hint_0 : decode cX12_hint 0 = .ok (.aload_n 0, 1) := by decide +kernel
