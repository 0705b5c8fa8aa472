theorem dX10_seek_7 : decode cX10_seek 7 = .ok (.putfield 47, 3) := by decide +kernel
theorem dX10_seek_10 : decode cX10_seek 10 = .ok (.aload_n 0, 1) := by decide +kernel
theorem dX10_seek_11 : decode cX10_seek 11 = .ok (.iconst 0, 1) := by decide +kernel
theorem dX10_seek_12 : decode cX10_seek 12 = .ok (.putfield 50, 3) := by decide +kernel
theorem dX10_seek_15 : decode cX10_seek 15 = .ok (.iconst 0, 1) := by decide +kernel
theorem dX10_seek_16 : decode cX10_seek 16 = .ok (.istore_n 3, 1) := by decide +kernel
theorem dX10_seek_17 : decode cX10_seek 17 = .ok (.iload_n 3, 1) := by decide +kernel
theorem dX10_seek_18 : decode cX10_seek 18 = .ok (.iconst 3, 1) := by decide +kernel
theorem dX10_seek_19 : decode cX10_seek 19 = .ok (.if_icmp .ge 16, 3) := by decide +kernel
theorem dX10_seek_22 : decode cX10_seek 22 = .ok (.aload_n 0, 1) := by decide +kernel
theorem dX10_seek_23 : decode cX10_seek 23 = .ok (.getfield 9, 3) := by decide +kernel
theorem dX10_seek_26 : decode cX10_seek 26 = .ok (.iload_n 3, 1) := by decide +kernel
theorem dX10_seek_27 : decode cX10_seek 27 = .ok (.iconst 0, 1) := by decide +kernel
theorem dX10_seek_28 : decode cX10_seek 28 = .ok (.iastore, 1) := by decide +kernel
theorem dX10_seek_29 : decode cX10_seek 29 = .ok (.iinc 3 1, 3) := by decide +kernel
theorem dX10_seek_32 : decode cX10_seek 32 = .ok (.goto (-15), 3) := by decide +kernel
theorem dX10_seek_35 : decode cX10_seek 35 = .ok (.aload_n 0, 1) := by decide +kernel
theorem dX10_seek_36 : decode cX10_seek 36 = .ok (.getfield 43, 3) := by decide +kernel
theorem dX10_seek_39 : decode cX10_seek 39 = .ok (.iload_n 1, 1) := by decide +kernel
theorem dX10_seek_40 : decode cX10_seek 40 = .ok (.aaload, 1) := by decide +kernel
theorem dX10_seek_41 : decode cX10_seek 41 = .ok (.invokevirtual 53, 3) := by decide +kernel
theorem dX10_seek_44 : decode cX10_seek 44 = .ok (.iconst 0, 1) := by decide +kernel
theorem dX10_seek_45 : decode cX10_seek 45 = .ok (.istore_n 3, 1) := by decide +kernel
theorem dX10_seek_46 : decode cX10_seek 46 = .ok (.iload_n 3, 1) := by decide +kernel
theorem dX10_seek_47 : decode cX10_seek 47 = .ok (.sipush 216, 3) := by decide +kernel
theorem dX10_seek_50 : decode cX10_seek 50 = .ok (.if_icmp .ge 32, 3) := by decide +kernel
theorem dX10_seek_53 : decode cX10_seek 53 = .ok (.aload_n 0, 1) := by decide +kernel
theorem dX10_seek_54 : decode cX10_seek 54 = .ok (.aload_n 0, 1) := by decide +kernel
theorem dX10_seek_55 : decode cX10_seek 55 = .ok (.getfield 43, 3) := by decide +kernel
theorem dX10_seek_58 : decode cX10_seek 58 = .ok (.iload_n 1, 1) := by decide +kernel
theorem dX10_seek_59 : decode cX10_seek 59 = .ok (.aaload, 1) := by decide +kernel
theorem dX10_seek_60 : decode cX10_seek 60 = .ok (.iload_n 2, 1) := by decide +kernel
theorem dX10_seek_61 : decode cX10_seek 61 = .ok (.iload_n 3, 1) := by decide +kernel
theorem dX10_seek_62 : decode cX10_seek 62 = .ok (.invokevirtual 56, 3) := by decide +kernel
theorem dX10_seek_65 : decode cX10_seek 65 = .ok (.aload_n 0, 1) := by decide +kernel
theorem dX10_seek_66 : decode cX10_seek 66 = .ok (.iload_n 2, 1) := by decide +kernel
theorem dX10_seek_67 : decode cX10_seek 67 = .ok (.invokevirtual 60, 3) := by decide +kernel
theorem dX10_seek_70 : decode cX10_seek 70 = .ok (.ifCond .ne 6, 3) := by decide +kernel
theorem dX10_seek_73 : decode cX10_seek 73 = .ok (.goto 9, 3) := by decide +kernel
theorem dX10_seek_76 : decode cX10_seek 76 = .ok (.iinc 3 1, 3) := by decide +kernel
theorem dX10_seek_79 : decode cX10_seek 79 = .ok (.goto (-33), 3) := by decide +kernel
theorem dX10_seek_82 : decode cX10_seek 82 = .ok (.return_, 1) := by decide +kernel
theorem dX10_turnToNextRow_0 : decode cX10_turnToNextRow 0 = .ok (.iload_n 1, 1) := by decide +kernel
theorem dX10_turnToNextRow_1 : decode cX10_turnToNextRow 1 = .ok (.iconst 1, 1) := by decide +kernel
theorem dX10_turnToNextRow_2 : decode cX10_turnToNextRow 2 = .ok (.isub, 1) := by decide +kernel
theorem dX10_turnToNextRow_3 : decode cX10_turnToNextRow 3 = .ok (.istore_n 2, 1) := by decide +kernel
theorem dX10_turnToNextRow_4 : decode cX10_turnToNextRow 4 = .ok (.iload_n 2, 1) := by decide +kernel
theorem dX10_turnToNextRow_5 : decode cX10_turnToNextRow 5 = .ok (.ifCond .lt 46, 3) := by decide +kernel
theorem dX10_turnToNextRow_8 : decode cX10_turnToNextRow 8 = .ok (.aload_n 0, 1) := by decide +kernel
theorem dX10_turnToNextRow_9 : decode cX10_turnToNextRow 9 = .ok (.getfield 9, 3) := by decide +kernel
theorem dX10_turnToNextRow_12 : decode cX10_turnToNextRow 12 = .ok (.iload_n 2, 1) := by decide +kernel
theorem dX10_turnToNextRow_13 : decode cX10_turnToNextRow 13 = .ok (.iaload, 1) := by decide +kernel
theorem dX10_turnToNextRow_14 : decode cX10_turnToNextRow 14 = .ok (.aload_n 0, 1) := by decide +kernel
theorem dX10_turnToNextRow_15 : decode cX10_turnToNextRow 15 = .ok (.getfield 22, 3) := by decide +kernel
theorem dX10_turnToNextRow_18 : decode cX10_turnToNextRow 18 = .ok (.getfield 64, 3) := by decide +kernel
theorem dX10_turnToNextRow_21 : decode cX10_turnToNextRow 21 = .ok (.iconst 1, 1) := by decide +kernel
theorem dX10_turnToNextRow_22 : decode cX10_turnToNextRow 22 = .ok (.isub, 1) := by decide +kernel
theorem dX10_turnToNextRow_23 : decode cX10_turnToNextRow 23 = .ok (.if_icmp .ge 15, 3) := by decide +kernel
theorem dX10_turnToNextRow_26 : decode cX10_turnToNextRow 26 = .ok (.aload_n 0, 1) := by decide +kernel
theorem dX10_turnToNextRow_27 : decode cX10_turnToNextRow 27 = .ok (.getfield 9, 3) := by decide +kernel
theorem dX10_turnToNextRow_30 : decode cX10_turnToNextRow 30 = .ok (.iload_n 2, 1) := by decide +kernel
theorem dX10_turnToNextRow_31 : decode cX10_turnToNextRow 31 = .ok (.dup2, 1) := by decide +kernel
theorem dX10_turnToNextRow_32 : decode cX10_turnToNextRow 32 = .ok (.iaload, 1) := by decide +kernel
theorem dX10_turnToNextRow_33 : decode cX10_turnToNextRow 33 = .ok (.iconst 1, 1) := by decide +kernel
theorem dX10_turnToNextRow_34 : decode cX10_turnToNextRow 34 = .ok (.iadd, 1) := by decide +kernel
theorem dX10_turnToNextRow_35 : decode cX10_turnToNextRow 35 = .ok (.iastore, 1) := by decide +kernel
theorem dX10_turnToNextRow_36 : decode cX10_turnToNextRow 36 = .ok (.iconst 1, 1) := by decide +kernel
theorem dX10_turnToNextRow_37 : decode cX10_turnToNextRow 37 = .ok (.ireturn, 1) := by decide +kernel
theorem dX10_turnToNextRow_38 : decode cX10_turnToNextRow 38 = .ok (.aload_n 0, 1) := by decide +kernel
theorem dX10_turnToNextRow_39 : decode cX10_turnToNextRow 39 = .ok (.getfield 9, 3) := by decide +kernel
theorem dX10_turnToNextRow_42 : decode cX10_turnToNextRow 42 = .ok (.iload_n 2, 1) := by decide +kernel
theorem dX10_turnToNextRow_43 : decode cX10_turnToNextRow 43 = .ok (.iconst 0, 1) := by decide +kernel
theorem dX10_turnToNextRow_44 : decode cX10_turnToNextRow 44 = .ok (.iastore, 1) := by decide +kernel
theorem dX10_turnToNextRow_45 : decode cX10_turnToNextRow 45 = .ok (.iinc 2 (-1), 3) := by decide +kernel
theorem dX10_turnToNextRow_48 : decode cX10_turnToNextRow 48 = .ok (.goto (-44), 3) := by decide +kernel
theorem dX10_turnToNextRow_51 : decode cX10_turnToNextRow 51 = .ok (.iconst 0, 1) := by decide +kernel
theorem dX10_turnToNextRow_52 : decode cX10_turnToNextRow 52 = .ok (.ireturn, 1) := by decide +kernel
theorem dX10_weigh_0 : decode cX10_weigh 0 = .ok (.iconst 0, 1) := by decide +kernel
theorem dX10_weigh_1 : decode cX10_weigh 1 = .ok (.istore 4, 2) := by decide +kernel
theorem dX10_weigh_3 : decode cX10_weigh 3 = .ok (.iload 4, 2) := by decide +kernel
theorem dX10_weigh_5 : decode cX10_weigh 5 = .ok (.aload_n 0, 1) := by decide +kernel
theorem dX10_weigh_6 : decode cX10_weigh 6 = .ok (.getfield 22, 3) := by decide +kernel
theorem dX10_weigh_9 : decode cX10_weigh 9 = .ok (.getfield 69, 3) := by decide +kernel
theorem dX10_weigh_12 : decode cX10_weigh 12 = .ok (.if_icmp .ge 34, 3) := by decide +kernel
theorem dX10_weigh_15 : decode cX10_weigh 15 = .ok (.aload_n 0, 1) := by decide +kernel
theorem dX10_weigh_16 : decode cX10_weigh 16 = .ok (.getfield 15, 3) := by decide +kernel
theorem dX10_weigh_19 : decode cX10_weigh 19 = .ok (.iload 4, 2) := by decide +kernel
theorem dX10_weigh_21 : decode cX10_weigh 21 = .ok (.aload_n 0, 1) := by decide +kernel
theorem dX10_weigh_22 : decode cX10_weigh 22 = .ok (.getfield 22, 3) := by decide +kernel
theorem dX10_weigh_25 : decode cX10_weigh 25 = .ok (.getfield 72, 3) := by decide +kernel
theorem dX10_weigh_28 : decode cX10_weigh 28 = .ok (.aload_n 0, 1) := by decide +kernel
theorem dX10_weigh_29 : decode cX10_weigh 29 = .ok (.getfield 22, 3) := by decide +kernel
theorem dX10_weigh_32 : decode cX10_weigh 32 = .ok (.getfield 75, 3) := by decide +kernel
theorem dX10_weigh_35 : decode cX10_weigh 35 = .ok (.iload 4, 2) := by decide +kernel
theorem dX10_weigh_37 : decode cX10_weigh 37 = .ok (.iaload, 1) := by decide +kernel
theorem dX10_weigh_38 : decode cX10_weigh 38 = .ok (.iaload, 1) := by decide +kernel
theorem dX10_weigh_39 : decode cX10_weigh 39 = .ok (.iastore, 1) := by decide +kernel
theorem dX10_weigh_40 : decode cX10_weigh 40 = .ok (.iinc 4 1, 3) := by decide +kernel
theorem dX10_weigh_43 : decode cX10_weigh 43 = .ok (.goto (-40), 3) := by decide +kernel
theorem dX10_weigh_46 : decode cX10_weigh 46 = .ok (.aload_n 0, 1) := by decide +kernel
theorem dX10_weigh_47 : decode cX10_weigh 47 = .ok (.iconst 0, 1) := by decide +kernel
theorem dX10_weigh_48 : decode cX10_weigh 48 = .ok (.iload_n 2, 1) := by decide +kernel
theorem dX10_weigh_49 : decode cX10_weigh 49 = .ok (.invokevirtual 78, 3) := by decide +kernel
theorem dX10_weigh_52 : decode cX10_weigh 52 = .ok (.istore 4, 2) := by decide +kernel
theorem dX10_weigh_54 : decode cX10_weigh 54 = .ok (.iload 4, 2) := by decide +kernel
theorem dX10_weigh_56 : decode cX10_weigh 56 = .ok (.ifCond .gt 4, 3) := by decide +kernel
theorem dX10_weigh_59 : decode cX10_weigh 59 = .ok (.return_, 1) := by decide +kernel
theorem dX10_weigh_60 : decode cX10_weigh 60 = .ok (.aload_n 1, 1) := by decide +kernel
theorem dX10_weigh_61 : decode cX10_weigh 61 = .ok (.invokevirtual 82, 3) := by decide +kernel
theorem dX10_weigh_64 : decode cX10_weigh 64 = .ok (.iconst 0, 1) := by decide +kernel
theorem dX10_weigh_65 : decode cX10_weigh 65 = .ok (.istore 5, 2) := by decide +kernel
theorem dX10_weigh_67 : decode cX10_weigh 67 = .ok (.iload 5, 2) := by decide +kernel
theorem dX10_weigh_69 : decode cX10_weigh 69 = .ok (.iload_n 2, 1) := by decide +kernel
theorem dX10_weigh_70 : decode cX10_weigh 70 = .ok (.if_icmp .ge 21, 3) := by decide +kernel
theorem dX10_weigh_73 : decode cX10_weigh 73 = .ok (.aload_n 1, 1) := by decide +kernel
theorem dX10_weigh_74 : decode cX10_weigh 74 = .ok (.aload_n 0, 1) := by decide +kernel
theorem dX10_weigh_75 : decode cX10_weigh 75 = .ok (.getfield 9, 3) := by decide +kernel
theorem dX10_weigh_78 : decode cX10_weigh 78 = .ok (.iload 5, 2) := by decide +kernel
theorem dX10_weigh_80 : decode cX10_weigh 80 = .ok (.iaload, 1) := by decide +kernel
theorem dX10_weigh_81 : decode cX10_weigh 81 = .ok (.iconst (-1), 1) := by decide +kernel
theorem dX10_weigh_82 : decode cX10_weigh 82 = .ok (.invokevirtual 85, 3) := by decide +kernel
theorem dX10_weigh_85 : decode cX10_weigh 85 = .ok (.iinc 5 1, 3) := by decide +kernel
theorem dX10_weigh_88 : decode cX10_weigh 88 = .ok (.goto (-21), 3) := by decide +kernel
theorem dX10_weigh_91 : decode cX10_weigh 91 = .ok (.aload_n 0, 1) := by decide +kernel
theorem dX10_weigh_92 : decode cX10_weigh 92 = .ok (.getfield 18, 3) := by decide +kernel
theorem dX10_weigh_95 : decode cX10_weigh 95 = .ok (.iconst (-1), 1) := by decide +kernel
theorem dX10_weigh_96 : decode cX10_weigh 96 = .ok (.if_icmp .eq 22, 3) := by decide +kernel
theorem dX10_weigh_99 : decode cX10_weigh 99 = .ok (.aload_n 1, 1) := by decide +kernel
theorem dX10_weigh_100 : decode cX10_weigh 100 = .ok (.getfield 89, 3) := by decide +kernel
theorem dX10_weigh_103 : decode cX10_weigh 103 = .ok (.aload_n 0, 1) := by decide +kernel
theorem dX10_weigh_104 : decode cX10_weigh 104 = .ok (.getfield 50, 3) := by decide +kernel
theorem dX10_weigh_107 : decode cX10_weigh 107 = .ok (.imul, 1) := by decide +kernel
theorem dX10_weigh_108 : decode cX10_weigh 108 = .ok (.aload_n 0, 1) := by decide +kernel
theorem dX10_weigh_109 : decode cX10_weigh 109 = .ok (.getfield 47, 3) := by decide +kernel
theorem dX10_weigh_112 : decode cX10_weigh 112 = .ok (.iload 4, 2) := by decide +kernel
theorem dX10_weigh_114 : decode cX10_weigh 114 = .ok (.imul, 1) := by decide +kernel
theorem dX10_weigh_115 : decode cX10_weigh 115 = .ok (.if_icmp .le 22, 3) := by decide +kernel
theorem dX10_weigh_118 : decode cX10_weigh 118 = .ok (.aload_n 0, 1) := by decide +kernel
theorem dX10_weigh_119 : decode cX10_weigh 119 = .ok (.iload_n 3, 1) := by decide +kernel
theorem dX10_weigh_120 : decode cX10_weigh 120 = .ok (.putfield 18, 3) := by decide +kernel
theorem dX10_weigh_123 : decode cX10_weigh 123 = .ok (.aload_n 0, 1) := by decide +kernel
theorem dX10_weigh_124 : decode cX10_weigh 124 = .ok (.aload_n 1, 1) := by decide +kernel
theorem dX10_weigh_125 : decode cX10_weigh 125 = .ok (.getfield 89, 3) := by decide +kernel
theorem dX10_weigh_128 : decode cX10_weigh 128 = .ok (.putfield 47, 3) := by decide +kernel
theorem dX10_weigh_131 : decode cX10_weigh 131 = .ok (.aload_n 0, 1) := by decide +kernel
theorem dX10_weigh_132 : decode cX10_weigh 132 = .ok (.iload 4, 2) := by decide +kernel
theorem dX10_weigh_134 : decode cX10_weigh 134 = .ok (.putfield 50, 3) := by decide +kernel
theorem dX10_weigh_137 : decode cX10_weigh 137 = .ok (.return_, 1) := by decide +kernel
theorem dX10_leastFrom_0 : decode cX10_leastFrom 0 = .ok (.iload_n 1, 1) := by decide +kernel
theorem dX10_leastFrom_1 : decode cX10_leastFrom 1 = .ok (.iload_n 2, 1) := by decide +kernel
theorem dX10_leastFrom_2 : decode cX10_leastFrom 2 = .ok (.if_icmp .lt 5, 3) := by decide +kernel
theorem dX10_leastFrom_5 : decode cX10_leastFrom 5 = .ok (.iconst 0, 1) := by decide +kernel
theorem dX10_leastFrom_6 : decode cX10_leastFrom 6 = .ok (.ireturn, 1) := by decide +kernel
theorem dX10_leastFrom_7 : decode cX10_leastFrom 7 = .ok (.aload_n 0, 1) := by decide +kernel
theorem dX10_leastFrom_8 : decode cX10_leastFrom 8 = .ok (.getfield 22, 3) := by decide +kernel
theorem dX10_leastFrom_11 : decode cX10_leastFrom 11 = .ok (.getfield 72, 3) := by decide +kernel
theorem dX10_leastFrom_14 : decode cX10_leastFrom 14 = .ok (.aload_n 0, 1) := by decide +kernel
theorem dX10_leastFrom_15 : decode cX10_leastFrom 15 = .ok (.getfield 9, 3) := by decide +kernel
theorem dX10_leastFrom_18 : decode cX10_leastFrom 18 = .ok (.iload_n 1, 1) := by decide +kernel
theorem dX10_leastFrom_19 : decode cX10_leastFrom 19 = .ok (.iaload, 1) := by decide +kernel
theorem dX10_leastFrom_20 : decode cX10_leastFrom 20 = .ok (.iaload, 1) := by decide +kernel
theorem dX10_leastFrom_21 : decode cX10_leastFrom 21 = .ok (.istore_n 3, 1) := by decide +kernel
theorem dX10_leastFrom_22 : decode cX10_leastFrom 22 = .ok (.ldc 90, 2) := by decide +kernel
theorem dX10_leastFrom_24 : decode cX10_leastFrom 24 = .ok (.istore 4, 2) := by decide +kernel
theorem dX10_leastFrom_26 : decode cX10_leastFrom 26 = .ok (.iconst 0, 1) := by decide +kernel
theorem dX10_leastFrom_27 : decode cX10_leastFrom 27 = .ok (.istore 5, 2) := by decide +kernel
theorem dX10_leastFrom_29 : decode cX10_leastFrom 29 = .ok (.iload 5, 2) := by decide +kernel
theorem dX10_leastFrom_31 : decode cX10_leastFrom 31 = .ok (.aload_n 0, 1) := by decide +kernel
theorem dX10_leastFrom_32 : decode cX10_leastFrom 32 = .ok (.getfield 22, 3) := by decide +kernel
theorem dX10_leastFrom_35 : decode cX10_leastFrom 35 = .ok (.getfield 69, 3) := by decide +kernel
theorem dX10_leastFrom_38 : decode cX10_leastFrom 38 = .ok (.if_icmp .ge 58, 3) := by decide +kernel
theorem dX10_leastFrom_41 : decode cX10_leastFrom 41 = .ok (.aload_n 0, 1) := by decide +kernel
theorem dX10_leastFrom_42 : decode cX10_leastFrom 42 = .ok (.getfield 15, 3) := by decide +kernel
theorem dX10_leastFrom_45 : decode cX10_leastFrom 45 = .ok (.iload 5, 2) := by decide +kernel
theorem dX10_leastFrom_47 : decode cX10_leastFrom 47 = .ok (.iaload, 1) := by decide +kernel
theorem dX10_leastFrom_48 : decode cX10_leastFrom 48 = .ok (.istore 6, 2) := by decide +kernel
theorem dX10_leastFrom_50 : decode cX10_leastFrom 50 = .ok (.aload_n 0, 1) := by decide +kernel
theorem dX10_leastFrom_51 : decode cX10_leastFrom 51 = .ok (.getfield 15, 3) := by decide +kernel
theorem dX10_leastFrom_54 : decode cX10_leastFrom 54 = .ok (.iload 5, 2) := by decide +kernel
theorem dX10_leastFrom_56 : decode cX10_leastFrom 56 = .ok (.iload_n 3, 1) := by decide +kernel
theorem dX10_leastFrom_57 : decode cX10_leastFrom 57 = .ok (.iastore, 1) := by decide +kernel
theorem dX10_leastFrom_58 : decode cX10_leastFrom 58 = .ok (.iload 4, 2) := by decide +kernel
theorem dX10_leastFrom_60 : decode cX10_leastFrom 60 = .ok (.iload 6, 2) := by decide +kernel
theorem dX10_leastFrom_62 : decode cX10_leastFrom 62 = .ok (.iload_n 3, 1) := by decide +kernel
theorem dX10_leastFrom_63 : decode cX10_leastFrom 63 = .ok (.isub, 1) := by decide +kernel
theorem dX10_leastFrom_64 : decode cX10_leastFrom 64 = .ok (.invokestatic 91, 3) := by decide +kernel
theorem dX10_leastFrom_67 : decode cX10_leastFrom 67 = .ok (.aload_n 0, 1) := by decide +kernel
theorem dX10_leastFrom_68 : decode cX10_leastFrom 68 = .ok (.iload_n 1, 1) := by decide +kernel
theorem dX10_leastFrom_69 : decode cX10_leastFrom 69 = .ok (.iconst 1, 1) := by decide +kernel
theorem dX10_leastFrom_70 : decode cX10_leastFrom 70 = .ok (.iadd, 1) := by decide +kernel
theorem dX10_leastFrom_71 : decode cX10_leastFrom 71 = .ok (.iload_n 2, 1) := by decide +kernel
theorem dX10_leastFrom_72 : decode cX10_leastFrom 72 = .ok (.invokevirtual 78, 3) := by decide +kernel
theorem dX10_leastFrom_75 : decode cX10_leastFrom 75 = .ok (.iadd, 1) := by decide +kernel
theorem dX10_leastFrom_76 : decode cX10_leastFrom 76 = .ok (.invokestatic 97, 3) := by decide +kernel
theorem dX10_leastFrom_79 : decode cX10_leastFrom 79 = .ok (.istore 4, 2) := by decide +kernel
theorem dX10_leastFrom_81 : decode cX10_leastFrom 81 = .ok (.aload_n 0, 1) := by decide +kernel
theorem dX10_leastFrom_82 : decode cX10_leastFrom 82 = .ok (.getfield 15, 3) := by decide +kernel
theorem dX10_leastFrom_85 : decode cX10_leastFrom 85 = .ok (.iload 5, 2) := by decide +kernel
theorem dX10_leastFrom_87 : decode cX10_leastFrom 87 = .ok (.iload 6, 2) := by decide +kernel
theorem dX10_leastFrom_89 : decode cX10_leastFrom 89 = .ok (.iastore, 1) := by decide +kernel
theorem dX10_leastFrom_90 : decode cX10_leastFrom 90 = .ok (.iinc 5 1, 3) := by decide +kernel
theorem dX10_leastFrom_93 : decode cX10_leastFrom 93 = .ok (.goto (-64), 3) := by decide +kernel
theorem dX10_leastFrom_96 : decode cX10_leastFrom 96 = .ok (.iload 4, 2) := by decide +kernel
theorem dX10_leastFrom_98 : decode cX10_leastFrom 98 = .ok (.ireturn, 1) := by decide +kernel
theorem dX11_init_0 : decode cX11_init 0 = .ok (.aload_n 0, 1) := by decide +kernel
theorem dX11_init_1 : decode cX11_init 1 = .ok (.invokespecial 1, 3) := by decide +kernel
theorem dX11_init_4 : decode cX11_init 4 = .ok (.aload_n 0, 1) := by decide +kernel
theorem dX11_init_5 : decode cX11_init 5 = .ok (.new 7, 3) := by decide +kernel
theorem dX11_init_8 : decode cX11_init 8 = .ok (.dup, 1) := by decide +kernel
theorem dX11_init_9 : decode cX11_init 9 = .ok (.invokespecial 9, 3) := by decide +kernel
theorem dX11_init_12 : decode cX11_init 12 = .ok (.putfield 10, 3) := by decide +kernel
theorem dX11_init_15 : decode cX11_init 15 = .ok (.aload_n 0, 1) := by decide +kernel
theorem dX11_init_16 : decode cX11_init 16 = .ok (.new 16, 3) := by decide +kernel
theorem dX11_init_19 : decode cX11_init 19 = .ok (.dup, 1) := by decide +kernel
theorem dX11_init_20 : decode cX11_init 20 = .ok (.invokespecial 18, 3) := by decide +kernel
theorem dX11_init_23 : decode cX11_init 23 = .ok (.putfield 19, 3) := by decide +kernel
theorem dX11_init_26 : decode cX11_init 26 = .ok (.aload_n 0, 1) := by decide +kernel
theorem dX11_init_27 : decode cX11_init 27 = .ok (.new 23, 3) := by decide +kernel
theorem dX11_init_30 : decode cX11_init 30 = .ok (.dup, 1) := by decide +kernel
theorem dX11_init_31 : decode cX11_init 31 = .ok (.invokespecial 25, 3) := by decide +kernel
theorem dX11_init_34 : decode cX11_init 34 = .ok (.putfield 26, 3) := by decide +kernel
theorem dX11_init_37 : decode cX11_init 37 = .ok (.aload_n 0, 1) := by decide +kernel
theorem dX11_init_38 : decode cX11_init 38 = .ok (.new 30, 3) := by decide +kernel
theorem dX11_init_41 : decode cX11_init 41 = .ok (.dup, 1) := by decide +kernel
theorem dX11_init_42 : decode cX11_init 42 = .ok (.aload_n 0, 1) := by decide +kernel
theorem dX11_init_43 : decode cX11_init 43 = .ok (.getfield 10, 3) := by decide +kernel
theorem dX11_init_46 : decode cX11_init 46 = .ok (.iconst 1, 1) := by decide +kernel
theorem dX11_init_47 : decode cX11_init 47 = .ok (.invokespecial 32, 3) := by decide +kernel
theorem dX11_init_50 : decode cX11_init 50 = .ok (.putfield 35, 3) := by decide +kernel
theorem dX11_init_53 : decode cX11_init 53 = .ok (.aload_n 0, 1) := by decide +kernel
theorem dX11_init_54 : decode cX11_init 54 = .ok (.new 39, 3) := by decide +kernel
theorem dX11_init_57 : decode cX11_init 57 = .ok (.dup, 1) := by decide +kernel
theorem dX11_init_58 : decode cX11_init 58 = .ok (.aload_n 0, 1) := by decide +kernel
theorem dX11_init_59 : decode cX11_init 59 = .ok (.getfield 10, 3) := by decide +kernel
theorem dX11_init_62 : decode cX11_init 62 = .ok (.invokespecial 41, 3) := by decide +kernel
theorem dX11_init_65 : decode cX11_init 65 = .ok (.putfield 44, 3) := by decide +kernel
theorem dX11_init_68 : decode cX11_init 68 = .ok (.aload_n 0, 1) := by decide +kernel
theorem dX11_init_69 : decode cX11_init 69 = .ok (.iconst 5, 1) := by decide +kernel
theorem dX11_init_70 : decode cX11_init 70 = .ok (.anewarray 48, 3) := by decide +kernel
theorem dX11_init_73 : decode cX11_init 73 = .ok (.dup, 1) := by decide +kernel
theorem dX11_init_74 : decode cX11_init 74 = .ok (.iconst 0, 1) := by decide +kernel
theorem dX11_init_75 : decode cX11_init 75 = .ok (.new 50, 3) := by decide +kernel
theorem dX11_init_78 : decode cX11_init 78 = .ok (.dup, 1) := by decide +kernel
theorem dX11_init_79 : decode cX11_init 79 = .ok (.aload_n 0, 1) := by decide +kernel
theorem dX11_init_80 : decode cX11_init 80 = .ok (.getfield 10, 3) := by decide +kernel
theorem dX11_init_83 : decode cX11_init 83 = .ok (.iconst 0, 1) := by decide +kernel
theorem dX11_init_84 : decode cX11_init 84 = .ok (.invokespecial 52, 3) := by decide +kernel
theorem dX11_init_87 : decode cX11_init 87 = .ok (.aastore, 1) := by decide +kernel
theorem dX11_init_88 : decode cX11_init 88 = .ok (.dup, 1) := by decide +kernel
theorem dX11_init_89 : decode cX11_init 89 = .ok (.iconst 1, 1) := by decide +kernel
theorem dX11_init_90 : decode cX11_init 90 = .ok (.new 55, 3) := by decide +kernel
theorem dX11_init_93 : decode cX11_init 93 = .ok (.dup, 1) := by decide +kernel
theorem dX11_init_94 : decode cX11_init 94 = .ok (.aload_n 0, 1) := by decide +kernel
theorem dX11_init_95 : decode cX11_init 95 = .ok (.getfield 10, 3) := by decide +kernel
theorem dX11_init_98 : decode cX11_init 98 = .ok (.invokespecial 57, 3) := by decide +kernel
theorem dX11_init_101 : decode cX11_init 101 = .ok (.aastore, 1) := by decide +kernel
theorem dX11_init_102 : decode cX11_init 102 = .ok (.dup, 1) := by decide +kernel
theorem dX11_init_103 : decode cX11_init 103 = .ok (.iconst 2, 1) := by decide +kernel
theorem dX11_init_104 : decode cX11_init 104 = .ok (.aload_n 0, 1) := by decide +kernel
theorem dX11_init_105 : decode cX11_init 105 = .ok (.getfield 35, 3) := by decide +kernel
theorem dX11_init_108 : decode cX11_init 108 = .ok (.aastore, 1) := by decide +kernel
theorem dX11_init_109 : decode cX11_init 109 = .ok (.dup, 1) := by decide +kernel
theorem dX11_init_110 : decode cX11_init 110 = .ok (.iconst 3, 1) := by decide +kernel
theorem dX11_init_111 : decode cX11_init 111 = .ok (.new 50, 3) := by decide +kernel
theorem dX11_init_114 : decode cX11_init 114 = .ok (.dup, 1) := by decide +kernel
theorem dX11_init_115 : decode cX11_init 115 = .ok (.aload_n 0, 1) := by decide +kernel
theorem dX11_init_116 : decode cX11_init 116 = .ok (.getfield 10, 3) := by decide +kernel
theorem dX11_init_119 : decode cX11_init 119 = .ok (.iconst 1, 1) := by decide +kernel
theorem dX11_init_120 : decode cX11_init 120 = .ok (.invokespecial 52, 3) := by decide +kernel
theorem dX11_init_123 : decode cX11_init 123 = .ok (.aastore, 1) := by decide +kernel
theorem dX11_init_124 : decode cX11_init 124 = .ok (.dup, 1) := by decide +kernel
theorem dX11_init_125 : decode cX11_init 125 = .ok (.iconst 4, 1) := by decide +kernel
theorem dX11_init_126 : decode cX11_init 126 = .ok (.aload_n 0, 1) := by decide +kernel
theorem dX11_init_127 : decode cX11_init 127 = .ok (.getfield 44, 3) := by decide +kernel
theorem dX11_init_130 : decode cX11_init 130 = .ok (.aastore, 1) := by decide +kernel
theorem dX11_init_131 : decode cX11_init 131 = .ok (.putfield 58, 3) := by decide +kernel
theorem dX11_init_134 : decode cX11_init 134 = .ok (.aload_n 0, 1) := by decide +kernel
theorem dX11_init_135 : decode cX11_init 135 = .ok (.new 62, 3) := by decide +kernel
theorem dX11_init_138 : decode cX11_init 138 = .ok (.dup, 1) := by decide +kernel
theorem dX11_init_139 : decode cX11_init 139 = .ok (.aload_n 0, 1) := by decide +kernel
theorem dX11_init_140 : decode cX11_init 140 = .ok (.getfield 10, 3) := by decide +kernel
theorem dX11_init_143 : decode cX11_init 143 = .ok (.invokespecial 64, 3) := by decide +kernel
theorem dX11_init_146 : decode cX11_init 146 = .ok (.putfield 65, 3) := by decide +kernel
theorem dX11_init_149 : decode cX11_init 149 = .ok (.aload_n 0, 1) := by decide +kernel
theorem dX11_init_150 : decode cX11_init 150 = .ok (.new 69, 3) := by decide +kernel
theorem dX11_init_153 : decode cX11_init 153 = .ok (.dup, 1) := by decide +kernel
theorem dX11_init_154 : decode cX11_init 154 = .ok (.aload_n 0, 1) := by decide +kernel
theorem dX11_init_155 : decode cX11_init 155 = .ok (.getfield 10, 3) := by decide +kernel
theorem dX11_init_158 : decode cX11_init 158 = .ok (.aload_n 0, 1) := by decide +kernel
theorem dX11_init_159 : decode cX11_init 159 = .ok (.getfield 65, 3) := by decide +kernel
theorem dX11_init_162 : decode cX11_init 162 = .ok (.invokespecial 71, 3) := by decide +kernel
theorem dX11_init_165 : decode cX11_init 165 = .ok (.putfield 74, 3) := by decide +kernel
theorem dX11_init_168 : decode cX11_init 168 = .ok (.aload_n 0, 1) := by decide +kernel
theorem dX11_init_169 : decode cX11_init 169 = .ok (.new 78, 3) := by decide +kernel
theorem dX11_init_172 : decode cX11_init 172 = .ok (.dup, 1) := by decide +kernel
theorem dX11_init_173 : decode cX11_init 173 = .ok (.aload_n 0, 1) := by decide +kernel
theorem dX11_init_174 : decode cX11_init 174 = .ok (.getfield 10, 3) := by decide +kernel
theorem dX11_init_177 : decode cX11_init 177 = .ok (.invokespecial 80, 3) := by decide +kernel
theorem dX11_init_180 : decode cX11_init 180 = .ok (.putfield 81, 3) := by decide +kernel
theorem dX11_init_183 : decode cX11_init 183 = .ok (.return_, 1) := by decide +kernel
theorem dX11_points_0 : decode cX11_points 0 = .ok (.iload_n 1, 1) := by decide +kernel
theorem dX11_points_1 : decode cX11_points 1 = .ok (.iconst 1, 1) := by decide +kernel
theorem dX11_points_2 : decode cX11_points 2 = .ok (.bipush 6, 2) := by decide +kernel
theorem dX11_points_4 : decode cX11_points 4 = .ok (.invokestatic 85, 3) := by decide +kernel
theorem dX11_points_7 : decode cX11_points 7 = .ok (.ifCond .ne 6, 3) := by decide +kernel
theorem dX11_points_10 : decode cX11_points 10 = .ok (.bipush (-2), 2) := by decide +kernel
theorem dX11_points_12 : decode cX11_points 12 = .ok (.ireturn, 1) := by decide +kernel
theorem dX11_points_13 : decode cX11_points 13 = .ok (.aload_n 0, 1) := by decide +kernel
theorem dX11_points_14 : decode cX11_points 14 = .ok (.getfield 10, 3) := by decide +kernel
theorem dX11_points_17 : decode cX11_points 17 = .ok (.getfield 89, 3) := by decide +kernel
theorem dX11_points_20 : decode cX11_points 20 = .ok (.istore_n 2, 1) := by decide +kernel
theorem dX11_points_21 : decode cX11_points 21 = .ok (.aload_n 0, 1) := by decide +kernel
theorem dX11_points_22 : decode cX11_points 22 = .ok (.getfield 10, 3) := by decide +kernel
theorem dX11_points_25 : decode cX11_points 25 = .ok (.iload_n 1, 1) := by decide +kernel
theorem dX11_points_26 : decode cX11_points 26 = .ok (.invokevirtual 93, 3) := by decide +kernel
theorem dX11_points_29 : decode cX11_points 29 = .ok (.iload_n 2, 1) := by decide +kernel
theorem dX11_points_30 : decode cX11_points 30 = .ok (.ireturn, 1) := by decide +kernel
theorem dX11_place_0 : decode cX11_place 0 = .ok (.aload_n 0, 1) := by decide +kernel
theorem dX11_place_1 : decode cX11_place 1 = .ok (.iload_n 1, 1) := by decide +kernel
theorem dX11_place_2 : decode cX11_place 2 = .ok (.invokevirtual 97, 3) := by decide +kernel
theorem dX11_place_5 : decode cX11_place 5 = .ok (.ifCond .eq 14, 3) := by decide +kernel
theorem dX11_place_8 : decode cX11_place 8 = .ok (.iload_n 2, 1) := by decide +kernel
theorem dX11_place_9 : decode cX11_place 9 = .ok (.iconst 0, 1) := by decide +kernel
theorem dX11_place_10 : decode cX11_place 10 = .ok (.sipush 1000, 3) := by decide +kernel
theorem dX11_place_13 : decode cX11_place 13 = .ok (.invokestatic 85, 3) := by decide +kernel
theorem dX11_place_16 : decode cX11_place 16 = .ok (.ifCond .ne 6, 3) := by decide +kernel
theorem dX11_place_19 : decode cX11_place 19 = .ok (.bipush (-2), 2) := by decide +kernel
theorem dX11_place_21 : decode cX11_place 21 = .ok (.ireturn, 1) := by decide +kernel
theorem dX11_place_22 : decode cX11_place 22 = .ok (.aload_n 0, 1) := by decide +kernel
theorem dX11_place_23 : decode cX11_place 23 = .ok (.getfield 10, 3) := by decide +kernel
theorem dX11_place_26 : decode cX11_place 26 = .ok (.getfield 101, 3) := by decide +kernel
theorem dX11_place_29 : decode cX11_place 29 = .ok (.iload_n 1, 1) := by decide +kernel
theorem dX11_place_30 : decode cX11_place 30 = .ok (.iaload, 1) := by decide +kernel
theorem dX11_place_31 : decode cX11_place 31 = .ok (.istore_n 3, 1) := by decide +kernel
theorem dX11_place_32 : decode cX11_place 32 = .ok (.aload_n 0, 1) := by decide +kernel
theorem dX11_place_33 : decode cX11_place 33 = .ok (.getfield 10, 3) := by decide +kernel
theorem dX11_place_36 : decode cX11_place 36 = .ok (.getfield 101, 3) := by decide +kernel
theorem dX11_place_39 : decode cX11_place 39 = .ok (.iload_n 1, 1) := by decide +kernel
theorem dX11_place_40 : decode cX11_place 40 = .ok (.iload_n 2, 1) := by decide +kernel
theorem dX11_place_41 : decode cX11_place 41 = .ok (.iastore, 1) := by decide +kernel
theorem dX11_place_42 : decode cX11_place 42 = .ok (.iload_n 3, 1) := by decide +kernel
theorem dX11_place_43 : decode cX11_place 43 = .ok (.ireturn, 1) := by decide +kernel
theorem dX11_servers_0 : decode cX11_servers 0 = .ok (.iload_n 1, 1) := by decide +kernel
theorem dX11_servers_1 : decode cX11_servers 1 = .ok (.iconst 1, 1) := by decide +kernel
theorem dX11_servers_2 : decode cX11_servers 2 = .ok (.iconst 3, 1) := by decide +kernel
theorem dX11_servers_3 : decode cX11_servers 3 = .ok (.invokestatic 85, 3) := by decide +kernel
theorem dX11_servers_6 : decode cX11_servers 6 = .ok (.ifCond .ne 6, 3) := by decide +kernel
theorem dX11_servers_9 : decode cX11_servers 9 = .ok (.bipush (-2), 2) := by decide +kernel
theorem dX11_servers_11 : decode cX11_servers 11 = .ok (.ireturn, 1) := by decide +kernel
theorem dX11_servers_12 : decode cX11_servers 12 = .ok (.aload_n 0, 1) := by decide +kernel
theorem dX11_servers_13 : decode cX11_servers 13 = .ok (.getfield 10, 3) := by decide +kernel
theorem dX11_servers_16 : decode cX11_servers 16 = .ok (.getfield 105, 3) := by decide +kernel
theorem dX11_servers_19 : decode cX11_servers 19 = .ok (.istore_n 2, 1) := by decide +kernel
theorem dX11_servers_20 : decode cX11_servers 20 = .ok (.aload_n 0, 1) := by decide +kernel
theorem dX11_servers_21 : decode cX11_servers 21 = .ok (.getfield 10, 3) := by decide +kernel
theorem dX11_servers_24 : decode cX11_servers 24 = .ok (.iload_n 1, 1) := by decide +kernel
theorem dX11_servers_25 : decode cX11_servers 25 = .ok (.invokevirtual 108, 3) := by decide +kernel
theorem dX11_servers_28 : decode cX11_servers 28 = .ok (.iload_n 2, 1) := by decide +kernel
theorem dX11_servers_29 : decode cX11_servers 29 = .ok (.ireturn, 1) := by decide +kernel
theorem dX11_start_0 : decode cX11_start 0 = .ok (.aload_n 0, 1) := by decide +kernel
theorem dX11_start_1 : decode cX11_start 1 = .ok (.iload_n 1, 1) := by decide +kernel
theorem dX11_start_2 : decode cX11_start 2 = .ok (.invokevirtual 111, 3) := by decide +kernel
theorem dX11_start_5 : decode cX11_start 5 = .ok (.ifCond .eq 11, 3) := by decide +kernel
theorem dX11_start_8 : decode cX11_start 8 = .ok (.aload_n 0, 1) := by decide +kernel
theorem dX11_start_9 : decode cX11_start 9 = .ok (.iload_n 2, 1) := by decide +kernel
theorem dX11_start_10 : decode cX11_start 10 = .ok (.invokevirtual 97, 3) := by decide +kernel
theorem dX11_start_13 : decode cX11_start 13 = .ok (.ifCond .ne 6, 3) := by decide +kernel
theorem dX11_start_16 : decode cX11_start 16 = .ok (.bipush (-2), 2) := by decide +kernel
theorem dX11_start_18 : decode cX11_start 18 = .ok (.ireturn, 1) := by decide +kernel
theorem dX11_start_19 : decode cX11_start 19 = .ok (.aload_n 0, 1) := by decide +kernel
theorem dX11_start_20 : decode cX11_start 20 = .ok (.getfield 10, 3) := by decide +kernel
theorem dX11_start_23 : decode cX11_start 23 = .ok (.getfield 114, 3) := by decide +kernel
theorem dX11_start_26 : decode cX11_start 26 = .ok (.iload_n 1, 1) := by decide +kernel
theorem dX11_start_27 : decode cX11_start 27 = .ok (.iaload, 1) := by decide +kernel
theorem dX11_start_28 : decode cX11_start 28 = .ok (.istore_n 3, 1) := by decide +kernel
theorem dX11_start_29 : decode cX11_start 29 = .ok (.aload_n 0, 1) := by decide +kernel
theorem dX11_start_30 : decode cX11_start 30 = .ok (.getfield 10, 3) := by decide +kernel
theorem dX11_start_33 : decode cX11_start 33 = .ok (.getfield 114, 3) := by decide +kernel
theorem dX11_start_36 : decode cX11_start 36 = .ok (.iload_n 1, 1) := by decide +kernel
theorem dX11_start_37 : decode cX11_start 37 = .ok (.iload_n 2, 1) := by decide +kernel
theorem dX11_start_38 : decode cX11_start 38 = .ok (.iastore, 1) := by decide +kernel
theorem dX11_start_39 : decode cX11_start 39 = .ok (.iload_n 3, 1) := by decide +kernel
theorem dX11_start_40 : decode cX11_start 40 = .ok (.ireturn, 1) := by decide +kernel
theorem dX11_factor_0 : decode cX11_factor 0 = .ok (.iload_n 1, 1) := by decide +kernel
theorem dX11_factor_1 : decode cX11_factor 1 = .ok (.iconst 1, 1) := by decide +kernel
theorem dX11_factor_2 : decode cX11_factor 2 = .ok (.bipush 9, 2) := by decide +kernel
theorem dX11_factor_4 : decode cX11_factor 4 = .ok (.invokestatic 85, 3) := by decide +kernel
theorem dX11_factor_7 : decode cX11_factor 7 = .ok (.ifCond .ne 6, 3) := by decide +kernel
theorem dX11_factor_10 : decode cX11_factor 10 = .ok (.bipush (-2), 2) := by decide +kernel
theorem dX11_factor_12 : decode cX11_factor 12 = .ok (.ireturn, 1) := by decide +kernel
theorem dX11_factor_13 : decode cX11_factor 13 = .ok (.aload_n 0, 1) := by decide +kernel
theorem dX11_factor_14 : decode cX11_factor 14 = .ok (.getfield 10, 3) := by decide +kernel
theorem dX11_factor_17 : decode cX11_factor 17 = .ok (.getfield 117, 3) := by decide +kernel
theorem dX11_factor_20 : decode cX11_factor 20 = .ok (.istore_n 2, 1) := by decide +kernel
theorem dX11_factor_21 : decode cX11_factor 21 = .ok (.aload_n 0, 1) := by decide +kernel
theorem dX11_factor_22 : decode cX11_factor 22 = .ok (.getfield 10, 3) := by decide +kernel
theorem dX11_factor_25 : decode cX11_factor 25 = .ok (.iload_n 1, 1) := by decide +kernel
theorem dX11_factor_26 : decode cX11_factor 26 = .ok (.putfield 117, 3) := by decide +kernel
theorem dX11_factor_29 : decode cX11_factor 29 = .ok (.iload_n 2, 1) := by decide +kernel
theorem dX11_factor_30 : decode cX11_factor 30 = .ok (.ireturn, 1) := by decide +kernel
theorem dX11_asked_0 : decode cX11_asked 0 = .ok (.aload_n 0, 1) := by decide +kernel
theorem dX11_asked_1 : decode cX11_asked 1 = .ok (.invokevirtual 120, 3) := by decide +kernel
theorem dX11_asked_4 : decode cX11_asked 4 = .ok (.ifCond .ne 12, 3) := by decide +kernel
theorem dX11_asked_7 : decode cX11_asked 7 = .ok (.aload_n 0, 1) := by decide +kernel
theorem dX11_asked_8 : decode cX11_asked 8 = .ok (.getfield 19, 3) := by decide +kernel
theorem dX11_asked_11 : decode cX11_asked 11 = .ok (.iconst 1, 1) := by decide +kernel
theorem dX11_asked_12 : decode cX11_asked 12 = .ok (.invokevirtual 124, 3) := by decide +kernel
theorem dX11_asked_15 : decode cX11_asked 15 = .ok (.ireturn, 1) := by decide +kernel
theorem dX11_asked_16 : decode cX11_asked 16 = .ok (.aload_n 0, 1) := by decide +kernel
theorem dX11_asked_17 : decode cX11_asked 17 = .ok (.getfield 26, 3) := by decide +kernel
theorem dX11_asked_20 : decode cX11_asked 20 = .ok (.getfield 128, 3) := by decide +kernel
theorem dX11_asked_23 : decode cX11_asked 23 = .ok (.ireturn, 1) := by decide +kernel
theorem dX11_cost_0 : decode cX11_cost 0 = .ok (.iload_n 1, 1) := by decide +kernel
theorem dX11_cost_1 : decode cX11_cost 1 = .ok (.iconst 0, 1) := by decide +kernel
theorem dX11_cost_2 : decode cX11_cost 2 = .ok (.iconst 4, 1) := by decide +kernel
theorem dX11_cost_3 : decode cX11_cost 3 = .ok (.invokestatic 85, 3) := by decide +kernel
theorem dX11_cost_6 : decode cX11_cost 6 = .ok (.ifCond .ne 6, 3) := by decide +kernel
theorem dX11_cost_9 : decode cX11_cost 9 = .ok (.bipush (-2), 2) := by decide +kernel
theorem dX11_cost_11 : decode cX11_cost 11 = .ok (.ireturn, 1) := by decide +kernel
theorem dX11_cost_12 : decode cX11_cost 12 = .ok (.aload_n 0, 1) := by decide +kernel
theorem dX11_cost_13 : decode cX11_cost 13 = .ok (.invokevirtual 120, 3) := by decide +kernel
theorem dX11_cost_16 : decode cX11_cost 16 = .ok (.ifCond .ne 12, 3) := by decide +kernel
theorem dX11_cost_19 : decode cX11_cost 19 = .ok (.aload_n 0, 1) := by decide +kernel
theorem dX11_cost_20 : decode cX11_cost 20 = .ok (.getfield 19, 3) := by decide +kernel
theorem dX11_cost_23 : decode cX11_cost 23 = .ok (.iconst 1, 1) := by decide +kernel
theorem dX11_cost_24 : decode cX11_cost 24 = .ok (.invokevirtual 124, 3) := by decide +kernel
theorem dX11_cost_27 : decode cX11_cost 27 = .ok (.ireturn, 1) := by decide +kernel
theorem dX11_cost_28 : decode cX11_cost 28 = .ok (.aload_n 0, 1) := by decide +kernel
theorem dX11_cost_29 : decode cX11_cost 29 = .ok (.getfield 26, 3) := by decide +kernel
theorem dX11_cost_32 : decode cX11_cost 32 = .ok (.aload_n 0, 1) := by decide +kernel
theorem dX11_cost_33 : decode cX11_cost 33 = .ok (.getfield 58, 3) := by decide +kernel
theorem dX11_cost_36 : decode cX11_cost 36 = .ok (.iload_n 1, 1) := by decide +kernel
theorem dX11_cost_37 : decode cX11_cost 37 = .ok (.aaload, 1) := by decide +kernel
theorem dX11_cost_38 : decode cX11_cost 38 = .ok (.aload_n 0, 1) := by decide +kernel
theorem dX11_cost_39 : decode cX11_cost 39 = .ok (.getfield 26, 3) := by decide +kernel
theorem dX11_cost_42 : decode cX11_cost 42 = .ok (.getfield 128, 3) := by decide +kernel
theorem dX11_cost_45 : decode cX11_cost 45 = .ok (.invokevirtual 131, 3) := by decide +kernel
theorem dX11_cost_48 : decode cX11_cost 48 = .ok (.ireturn, 1) := by decide +kernel
theorem dX11_stands_0 : decode cX11_stands 0 = .ok (.iload_n 1, 1) := by decide +kernel
theorem dX11_stands_1 : decode cX11_stands 1 = .ok (.iconst 0, 1) := by decide +kernel
theorem dX11_stands_2 : decode cX11_stands 2 = .ok (.iconst 3, 1) := by decide +kernel
theorem dX11_stands_3 : decode cX11_stands 3 = .ok (.invokestatic 85, 3) := by decide +kernel
theorem dX11_stands_6 : decode cX11_stands 6 = .ok (.ifCond .eq 21, 3) := by decide +kernel
theorem dX11_stands_9 : decode cX11_stands 9 = .ok (.aload_n 0, 1) := by decide +kernel
theorem dX11_stands_10 : decode cX11_stands 10 = .ok (.iload_n 2, 1) := by decide +kernel
theorem dX11_stands_11 : decode cX11_stands 11 = .ok (.invokevirtual 111, 3) := by decide +kernel
theorem dX11_stands_14 : decode cX11_stands 14 = .ok (.ifCond .eq 13, 3) := by decide +kernel
theorem dX11_stands_17 : decode cX11_stands 17 = .ok (.iload_n 3, 1) := by decide +kernel
theorem dX11_stands_18 : decode cX11_stands 18 = .ok (.iconst 0, 1) := by decide +kernel
theorem dX11_stands_19 : decode cX11_stands 19 = .ok (.bipush 40, 2) := by decide +kernel
theorem dX11_stands_21 : decode cX11_stands 21 = .ok (.invokestatic 85, 3) := by decide +kernel
theorem dX11_stands_24 : decode cX11_stands 24 = .ok (.ifCond .ne 6, 3) := by decide +kernel
theorem dX11_stands_27 : decode cX11_stands 27 = .ok (.bipush (-2), 2) := by decide +kernel
theorem dX11_stands_29 : decode cX11_stands 29 = .ok (.ireturn, 1) := by decide +kernel
theorem dX11_stands_30 : decode cX11_stands 30 = .ok (.aload_n 0, 1) := by decide +kernel
theorem dX11_stands_31 : decode cX11_stands 31 = .ok (.invokevirtual 120, 3) := by decide +kernel
theorem dX11_stands_34 : decode cX11_stands 34 = .ok (.ifCond .ne 12, 3) := by decide +kernel
theorem dX11_stands_37 : decode cX11_stands 37 = .ok (.aload_n 0, 1) := by decide +kernel
theorem dX11_stands_38 : decode cX11_stands 38 = .ok (.getfield 19, 3) := by decide +kernel
theorem dX11_stands_41 : decode cX11_stands 41 = .ok (.iconst 1, 1) := by decide +kernel
theorem dX11_stands_42 : decode cX11_stands 42 = .ok (.invokevirtual 124, 3) := by decide +kernel
theorem dX11_stands_45 : decode cX11_stands 45 = .ok (.ireturn, 1) := by decide +kernel
theorem dX11_stands_46 : decode cX11_stands 46 = .ok (.aload_n 0, 1) := by decide +kernel
theorem dX11_stands_47 : decode cX11_stands 47 = .ok (.getfield 26, 3) := by decide +kernel
theorem dX11_stands_50 : decode cX11_stands 50 = .ok (.aload_n 0, 1) := by decide +kernel
theorem dX11_stands_51 : decode cX11_stands 51 = .ok (.getfield 58, 3) := by decide +kernel
theorem dX11_stands_54 : decode cX11_stands 54 = .ok (.iload_n 1, 1) := by decide +kernel
theorem dX11_stands_55 : decode cX11_stands 55 = .ok (.aaload, 1) := by decide +kernel
theorem dX11_stands_56 : decode cX11_stands 56 = .ok (.iload_n 3, 1) := by decide +kernel
theorem dX11_stands_57 : decode cX11_stands 57 = .ok (.invokevirtual 131, 3) := by decide +kernel
theorem dX11_stands_60 : decode cX11_stands 60 = .ok (.pop, 1) := by decide +kernel
theorem dX11_stands_61 : decode cX11_stands 61 = .ok (.aload_n 0, 1) := by decide +kernel
theorem dX11_stands_62 : decode cX11_stands 62 = .ok (.getfield 58, 3) := by decide +kernel
theorem dX11_stands_65 : decode cX11_stands 65 = .ok (.iload_n 1, 1) := by decide +kernel
theorem dX11_stands_66 : decode cX11_stands 66 = .ok (.aaload, 1) := by decide +kernel
theorem dX11_stands_67 : decode cX11_stands 67 = .ok (.getfield 135, 3) := by decide +kernel
theorem dX11_stands_70 : decode cX11_stands 70 = .ok (.iload_n 2, 1) := by decide +kernel
theorem dX11_stands_71 : decode cX11_stands 71 = .ok (.iaload, 1) := by decide +kernel
theorem dX11_stands_72 : decode cX11_stands 72 = .ok (.ireturn, 1) := by decide +kernel
theorem dX11_goes_0 : decode cX11_goes 0 = .ok (.iload_n 1, 1) := by decide +kernel
theorem dX11_goes_1 : decode cX11_goes 1 = .ok (.ifCond .eq 13, 3) := by decide +kernel
theorem dX11_goes_4 : decode cX11_goes 4 = .ok (.iload_n 1, 1) := by decide +kernel
theorem dX11_goes_5 : decode cX11_goes 5 = .ok (.iconst 2, 1) := by decide +kernel
theorem dX11_goes_6 : decode cX11_goes 6 = .ok (.if_icmp .eq 8, 3) := by decide +kernel
theorem dX11_goes_9 : decode cX11_goes 9 = .ok (.iload_n 1, 1) := by decide +kernel
theorem dX11_goes_10 : decode cX11_goes 10 = .ok (.iconst 3, 1) := by decide +kernel
theorem dX11_goes_11 : decode cX11_goes 11 = .ok (.if_icmp .ne 7, 3) := by decide +kernel
theorem dX11_goes_14 : decode cX11_goes 14 = .ok (.iconst 1, 1) := by decide +kernel
theorem dX11_goes_15 : decode cX11_goes 15 = .ok (.goto 4, 3) := by decide +kernel
theorem dX11_goes_18 : decode cX11_goes 18 = .ok (.iconst 0, 1) := by decide +kernel
theorem dX11_goes_19 : decode cX11_goes 19 = .ok (.istore_n 3, 1) := by decide +kernel
theorem dX11_goes_20 : decode cX11_goes 20 = .ok (.iload_n 3, 1) := by decide +kernel
theorem dX11_goes_21 : decode cX11_goes 21 = .ok (.ifCond .eq 13, 3) := by decide +kernel
theorem dX11_goes_24 : decode cX11_goes 24 = .ok (.iload_n 2, 1) := by decide +kernel
theorem dX11_goes_25 : decode cX11_goes 25 = .ok (.iconst 0, 1) := by decide +kernel
theorem dX11_goes_26 : decode cX11_goes 26 = .ok (.bipush 39, 2) := by decide +kernel
theorem dX11_goes_28 : decode cX11_goes 28 = .ok (.invokestatic 85, 3) := by decide +kernel
theorem dX11_goes_31 : decode cX11_goes 31 = .ok (.ifCond .ne 6, 3) := by decide +kernel
theorem dX11_goes_34 : decode cX11_goes 34 = .ok (.bipush (-2), 2) := by decide +kernel
theorem dX11_goes_36 : decode cX11_goes 36 = .ok (.ireturn, 1) := by decide +kernel
theorem dX11_goes_37 : decode cX11_goes 37 = .ok (.aload_n 0, 1) := by decide +kernel
theorem dX11_goes_38 : decode cX11_goes 38 = .ok (.invokevirtual 120, 3) := by decide +kernel
theorem dX11_goes_41 : decode cX11_goes 41 = .ok (.ifCond .ne 12, 3) := by decide +kernel
theorem dX11_goes_44 : decode cX11_goes 44 = .ok (.aload_n 0, 1) := by decide +kernel
theorem dX11_goes_45 : decode cX11_goes 45 = .ok (.getfield 19, 3) := by decide +kernel
theorem dX11_goes_48 : decode cX11_goes 48 = .ok (.iconst 1, 1) := by decide +kernel
theorem dX11_goes_49 : decode cX11_goes 49 = .ok (.invokevirtual 124, 3) := by decide +kernel
theorem dX11_goes_52 : decode cX11_goes 52 = .ok (.ireturn, 1) := by decide +kernel
theorem dX11_goes_53 : decode cX11_goes 53 = .ok (.aload_n 0, 1) := by decide +kernel
theorem dX11_goes_54 : decode cX11_goes 54 = .ok (.aload_n 0, 1) := by decide +kernel
theorem dX11_goes_55 : decode cX11_goes 55 = .ok (.getfield 58, 3) := by decide +kernel
theorem dX11_goes_58 : decode cX11_goes 58 = .ok (.iload_n 1, 1) := by decide +kernel
theorem dX11_goes_59 : decode cX11_goes 59 = .ok (.aaload, 1) := by decide +kernel
theorem dX11_goes_60 : decode cX11_goes 60 = .ok (.iload_n 2, 1) := by decide +kernel
theorem dX11_goes_61 : decode cX11_goes 61 = .ok (.invokevirtual 138, 3) := by decide +kernel
theorem dX11_goes_64 : decode cX11_goes 64 = .ok (.ireturn, 1) := by decide +kernel
theorem dX11_best_0 : decode cX11_best 0 = .ok (.aload_n 0, 1) := by decide +kernel
theorem dX11_best_1 : decode cX11_best 1 = .ok (.invokevirtual 120, 3) := by decide +kernel
theorem dX11_best_4 : decode cX11_best 4 = .ok (.ifCond .ne 12, 3) := by decide +kernel
theorem dX11_best_7 : decode cX11_best 7 = .ok (.aload_n 0, 1) := by decide +kernel
theorem dX11_best_8 : decode cX11_best 8 = .ok (.getfield 19, 3) := by decide +kernel
theorem dX11_best_11 : decode cX11_best 11 = .ok (.iconst 1, 1) := by decide +kernel
theorem dX11_best_12 : decode cX11_best 12 = .ok (.invokevirtual 124, 3) := by decide +kernel
theorem dX11_best_15 : decode cX11_best 15 = .ok (.ireturn, 1) := by decide +kernel
theorem dX11_best_16 : decode cX11_best 16 = .ok (.aload_n 0, 1) := by decide +kernel
theorem dX11_best_17 : decode cX11_best 17 = .ok (.getfield 65, 3) := by decide +kernel
theorem dX11_best_20 : decode cX11_best 20 = .ok (.aload_n 0, 1) := by decide +kernel
theorem dX11_best_21 : decode cX11_best 21 = .ok (.getfield 26, 3) := by decide +kernel
theorem dX11_best_24 : decode cX11_best 24 = .ok (.invokevirtual 141, 3) := by decide +kernel
theorem dX11_best_27 : decode cX11_best 27 = .ok (.ireturn, 1) := by decide +kernel
theorem dX11_way_0 : decode cX11_way 0 = .ok (.iload_n 1, 1) := by decide +kernel
theorem dX11_way_1 : decode cX11_way 1 = .ok (.iconst 0, 1) := by decide +kernel
theorem dX11_way_2 : decode cX11_way 2 = .ok (.bipush 39, 2) := by decide +kernel
theorem dX11_way_4 : decode cX11_way 4 = .ok (.invokestatic 85, 3) := by decide +kernel
theorem dX11_way_7 : decode cX11_way 7 = .ok (.ifCond .ne 6, 3) := by decide +kernel
theorem dX11_way_10 : decode cX11_way 10 = .ok (.bipush (-2), 2) := by decide +kernel
theorem dX11_way_12 : decode cX11_way 12 = .ok (.ireturn, 1) := by decide +kernel
theorem dX11_way_13 : decode cX11_way 13 = .ok (.aload_n 0, 1) := by decide +kernel
theorem dX11_way_14 : decode cX11_way 14 = .ok (.invokevirtual 120, 3) := by decide +kernel
theorem dX11_way_17 : decode cX11_way 17 = .ok (.ifCond .ne 12, 3) := by decide +kernel
theorem dX11_way_20 : decode cX11_way 20 = .ok (.aload_n 0, 1) := by decide +kernel
theorem dX11_way_21 : decode cX11_way 21 = .ok (.getfield 19, 3) := by decide +kernel
theorem dX11_way_24 : decode cX11_way 24 = .ok (.iconst 1, 1) := by decide +kernel
theorem dX11_way_25 : decode cX11_way 25 = .ok (.invokevirtual 124, 3) := by decide +kernel
theorem dX11_way_28 : decode cX11_way 28 = .ok (.ireturn, 1) := by decide +kernel
theorem dX11_way_29 : decode cX11_way 29 = .ok (.aload_n 0, 1) := by decide +kernel
theorem dX11_way_30 : decode cX11_way 30 = .ok (.getfield 65, 3) := by decide +kernel
theorem dX11_way_33 : decode cX11_way 33 = .ok (.aload_n 0, 1) := by decide +kernel
theorem dX11_way_34 : decode cX11_way 34 = .ok (.getfield 26, 3) := by decide +kernel
theorem dX11_way_37 : decode cX11_way 37 = .ok (.invokevirtual 141, 3) := by decide +kernel
theorem dX11_way_40 : decode cX11_way 40 = .ok (.pop, 1) := by decide +kernel
theorem dX11_way_41 : decode cX11_way 41 = .ok (.aload_n 0, 1) := by decide +kernel
theorem dX11_way_42 : decode cX11_way 42 = .ok (.aload_n 0, 1) := by decide +kernel
theorem dX11_way_43 : decode cX11_way 43 = .ok (.getfield 65, 3) := by decide +kernel
theorem dX11_way_46 : decode cX11_way 46 = .ok (.iload_n 1, 1) := by decide +kernel
theorem dX11_way_47 : decode cX11_way 47 = .ok (.invokevirtual 138, 3) := by decide +kernel
theorem dX11_way_50 : decode cX11_way 50 = .ok (.ireturn, 1) := by decide +kernel
theorem dX11_share_0 : decode cX11_share 0 = .ok (.iload_n 1, 1) := by decide +kernel
theorem dX11_share_1 : decode cX11_share 1 = .ok (.iconst 0, 1) := by decide +kernel
theorem dX11_share_2 : decode cX11_share 2 = .ok (.iconst 4, 1) := by decide +kernel
theorem dX11_share_3 : decode cX11_share 3 = .ok (.invokestatic 85, 3) := by decide +kernel
theorem dX11_share_6 : decode cX11_share 6 = .ok (.ifCond .ne 6, 3) := by decide +kernel
theorem dX11_share_9 : decode cX11_share 9 = .ok (.bipush (-2), 2) := by decide +kernel
theorem dX11_share_11 : decode cX11_share 11 = .ok (.ireturn, 1) := by decide +kernel
theorem dX11_share_12 : decode cX11_share 12 = .ok (.aload_n 0, 1) := by decide +kernel
theorem dX11_share_13 : decode cX11_share 13 = .ok (.invokevirtual 120, 3) := by decide +kernel
theorem dX11_share_16 : decode cX11_share 16 = .ok (.ifCond .ne 12, 3) := by decide +kernel
theorem dX11_share_19 : decode cX11_share 19 = .ok (.aload_n 0, 1) := by decide +kernel
theorem dX11_share_20 : decode cX11_share 20 = .ok (.getfield 19, 3) := by decide +kernel
theorem dX11_share_23 : decode cX11_share 23 = .ok (.iconst 1, 1) := by decide +kernel
theorem dX11_share_24 : decode cX11_share 24 = .ok (.invokevirtual 124, 3) := by decide +kernel
theorem dX11_share_27 : decode cX11_share 27 = .ok (.ireturn, 1) := by decide +kernel
theorem dX11_share_28 : decode cX11_share 28 = .ok (.aload_n 0, 1) := by decide +kernel
theorem dX11_share_29 : decode cX11_share 29 = .ok (.getfield 26, 3) := by decide +kernel
theorem dX11_share_32 : decode cX11_share 32 = .ok (.aload_n 0, 1) := by decide +kernel
theorem dX11_share_33 : decode cX11_share 33 = .ok (.getfield 58, 3) := by decide +kernel
theorem dX11_share_36 : decode cX11_share 36 = .ok (.iload_n 1, 1) := by decide +kernel
theorem dX11_share_37 : decode cX11_share 37 = .ok (.aaload, 1) := by decide +kernel
theorem dX11_share_38 : decode cX11_share 38 = .ok (.aload_n 0, 1) := by decide +kernel
theorem dX11_share_39 : decode cX11_share 39 = .ok (.getfield 26, 3) := by decide +kernel
theorem dX11_share_42 : decode cX11_share 42 = .ok (.getfield 128, 3) := by decide +kernel
theorem dX11_share_45 : decode cX11_share 45 = .ok (.invokevirtual 131, 3) := by decide +kernel
theorem dX11_share_48 : decode cX11_share 48 = .ok (.aload_n 0, 1) := by decide +kernel
theorem dX11_share_49 : decode cX11_share 49 = .ok (.getfield 65, 3) := by decide +kernel
theorem dX11_share_52 : decode cX11_share 52 = .ok (.aload_n 0, 1) := by decide +kernel
theorem dX11_share_53 : decode cX11_share 53 = .ok (.getfield 26, 3) := by decide +kernel
theorem dX11_share_56 : decode cX11_share 56 = .ok (.invokevirtual 141, 3) := by decide +kernel
theorem dX11_share_59 : decode cX11_share 59 = .ok (.invokestatic 145, 3) := by decide +kernel
theorem dX11_share_62 : decode cX11_share 62 = .ok (.ireturn, 1) := by decide +kernel
theorem dX11_work_0 : decode cX11_work 0 = .ok (.aload_n 0, 1) := by decide +kernel
theorem dX11_work_1 : decode cX11_work 1 = .ok (.iconst 0, 1) := by decide +kernel
theorem dX11_work_2 : decode cX11_work 2 = .ok (.iload_n 1, 1) := by decide +kernel
theorem dX11_work_3 : decode cX11_work 3 = .ok (.invokevirtual 149, 3) := by decide +kernel
theorem dX11_work_6 : decode cX11_work 6 = .ok (.ifCond .eq 21, 3) := by decide +kernel
theorem dX11_work_9 : decode cX11_work 9 = .ok (.aload_n 0, 1) := by decide +kernel
theorem dX11_work_10 : decode cX11_work 10 = .ok (.iconst 1, 1) := by decide +kernel
theorem dX11_work_11 : decode cX11_work 11 = .ok (.iload_n 2, 1) := by decide +kernel
theorem dX11_work_12 : decode cX11_work 12 = .ok (.invokevirtual 149, 3) := by decide +kernel
theorem dX11_work_15 : decode cX11_work 15 = .ok (.ifCond .eq 12, 3) := by decide +kernel
theorem dX11_work_18 : decode cX11_work 18 = .ok (.aload_n 0, 1) := by decide +kernel
theorem dX11_work_19 : decode cX11_work 19 = .ok (.iconst 2, 1) := by decide +kernel
theorem dX11_work_20 : decode cX11_work 20 = .ok (.iload_n 3, 1) := by decide +kernel
theorem dX11_work_21 : decode cX11_work 21 = .ok (.invokevirtual 149, 3) := by decide +kernel
theorem dX11_work_24 : decode cX11_work 24 = .ok (.ifCond .ne 6, 3) := by decide +kernel
theorem dX11_work_27 : decode cX11_work 27 = .ok (.bipush (-2), 2) := by decide +kernel
theorem dX11_work_29 : decode cX11_work 29 = .ok (.ireturn, 1) := by decide +kernel
theorem dX11_work_30 : decode cX11_work 30 = .ok (.iload 4, 2) := by decide +kernel
theorem dX11_work_32 : decode cX11_work 32 = .ok (.iconst 0, 1) := by decide +kernel
theorem dX11_work_33 : decode cX11_work 33 = .ok (.bipush 40, 2) := by decide +kernel
theorem dX11_work_35 : decode cX11_work 35 = .ok (.invokestatic 85, 3) := by decide +kernel
theorem dX11_work_38 : decode cX11_work 38 = .ok (.ifCond .ne 6, 3) := by decide +kernel
theorem dX11_work_41 : decode cX11_work 41 = .ok (.bipush (-2), 2) := by decide +kernel
theorem dX11_work_43 : decode cX11_work 43 = .ok (.ireturn, 1) := by decide +kernel
theorem dX11_work_44 : decode cX11_work 44 = .ok (.aload_n 0, 1) := by decide +kernel
theorem dX11_work_45 : decode cX11_work 45 = .ok (.invokevirtual 120, 3) := by decide +kernel
theorem dX11_work_48 : decode cX11_work 48 = .ok (.ifCond .ne 12, 3) := by decide +kernel
theorem dX11_work_51 : decode cX11_work 51 = .ok (.aload_n 0, 1) := by decide +kernel
theorem dX11_work_52 : decode cX11_work 52 = .ok (.getfield 19, 3) := by decide +kernel
theorem dX11_work_55 : decode cX11_work 55 = .ok (.iconst 1, 1) := by decide +kernel
theorem dX11_work_56 : decode cX11_work 56 = .ok (.invokevirtual 124, 3) := by decide +kernel
theorem dX11_work_59 : decode cX11_work 59 = .ok (.ireturn, 1) := by decide +kernel
theorem dX11_work_60 : decode cX11_work 60 = .ok (.aload_n 0, 1) := by decide +kernel
theorem dX11_work_61 : decode cX11_work 61 = .ok (.getfield 26, 3) := by decide +kernel
theorem dX11_work_64 : decode cX11_work 64 = .ok (.aload_n 0, 1) := by decide +kernel
theorem dX11_work_65 : decode cX11_work 65 = .ok (.getfield 35, 3) := by decide +kernel
theorem dX11_work_68 : decode cX11_work 68 = .ok (.iload 4, 2) := by decide +kernel
theorem dX11_work_70 : decode cX11_work 70 = .ok (.invokevirtual 131, 3) := by decide +kernel
theorem dX11_work_73 : decode cX11_work 73 = .ok (.pop, 1) := by decide +kernel
theorem dX11_work_74 : decode cX11_work 74 = .ok (.aload_n 0, 1) := by decide +kernel
theorem dX11_work_75 : decode cX11_work 75 = .ok (.getfield 35, 3) := by decide +kernel
theorem dX11_work_78 : decode cX11_work 78 = .ok (.aload_n 0, 1) := by decide +kernel
theorem dX11_work_79 : decode cX11_work 79 = .ok (.getfield 10, 3) := by decide +kernel
theorem dX11_work_82 : decode cX11_work 82 = .ok (.iload_n 1, 1) := by decide +kernel
theorem dX11_work_83 : decode cX11_work 83 = .ok (.iload_n 2, 1) := by decide +kernel
theorem dX11_work_84 : decode cX11_work 84 = .ok (.iload_n 3, 1) := by decide +kernel
theorem dX11_work_85 : decode cX11_work 85 = .ok (.invokevirtual 153, 3) := by decide +kernel
theorem dX11_work_88 : decode cX11_work 88 = .ok (.invokevirtual 157, 3) := by decide +kernel
theorem dX11_work_91 : decode cX11_work 91 = .ok (.ireturn, 1) := by decide +kernel
theorem dX11_trusts_0 : decode cX11_trusts 0 = .ok (.iload_n 1, 1) := by decide +kernel
theorem dX11_trusts_1 : decode cX11_trusts 1 = .ok (.iconst 0, 1) := by decide +kernel
theorem dX11_trusts_2 : decode cX11_trusts 2 = .ok (.bipush 40, 2) := by decide +kernel
theorem dX11_trusts_4 : decode cX11_trusts 4 = .ok (.invokestatic 85, 3) := by decide +kernel
theorem dX11_trusts_7 : decode cX11_trusts 7 = .ok (.ifCond .ne 6, 3) := by decide +kernel
theorem dX11_trusts_10 : decode cX11_trusts 10 = .ok (.bipush (-2), 2) := by decide +kernel
theorem dX11_trusts_12 : decode cX11_trusts 12 = .ok (.ireturn, 1) := by decide +kernel
theorem dX11_trusts_13 : decode cX11_trusts 13 = .ok (.aload_n 0, 1) := by decide +kernel
theorem dX11_trusts_14 : decode cX11_trusts 14 = .ok (.invokevirtual 120, 3) := by decide +kernel
theorem dX11_trusts_17 : decode cX11_trusts 17 = .ok (.ifCond .ne 12, 3) := by decide +kernel
theorem dX11_trusts_20 : decode cX11_trusts 20 = .ok (.aload_n 0, 1) := by decide +kernel
theorem dX11_trusts_21 : decode cX11_trusts 21 = .ok (.getfield 19, 3) := by decide +kernel
theorem dX11_trusts_24 : decode cX11_trusts 24 = .ok (.iconst 1, 1) := by decide +kernel
theorem dX11_trusts_25 : decode cX11_trusts 25 = .ok (.invokevirtual 124, 3) := by decide +kernel
theorem dX11_trusts_28 : decode cX11_trusts 28 = .ok (.ireturn, 1) := by decide +kernel
theorem dX11_trusts_29 : decode cX11_trusts 29 = .ok (.aload_n 0, 1) := by decide +kernel
theorem dX11_trusts_30 : decode cX11_trusts 30 = .ok (.getfield 26, 3) := by decide +kernel
theorem dX11_trusts_33 : decode cX11_trusts 33 = .ok (.aload_n 0, 1) := by decide +kernel
theorem dX11_trusts_34 : decode cX11_trusts 34 = .ok (.getfield 44, 3) := by decide +kernel
theorem dX11_trusts_37 : decode cX11_trusts 37 = .ok (.iload_n 1, 1) := by decide +kernel
theorem dX11_trusts_38 : decode cX11_trusts 38 = .ok (.invokevirtual 131, 3) := by decide +kernel
theorem dX11_trusts_41 : decode cX11_trusts 41 = .ok (.pop, 1) := by decide +kernel
theorem dX11_trusts_42 : decode cX11_trusts 42 = .ok (.aload_n 0, 1) := by decide +kernel
theorem dX11_trusts_43 : decode cX11_trusts 43 = .ok (.getfield 44, 3) := by decide +kernel
theorem dX11_trusts_46 : decode cX11_trusts 46 = .ok (.getfield 160, 3) := by decide +kernel
theorem dX11_trusts_49 : decode cX11_trusts 49 = .ok (.ireturn, 1) := by decide +kernel
theorem dX11_worst_0 : decode cX11_worst 0 = .ok (.iload_n 1, 1) := by decide +kernel
theorem dX11_worst_1 : decode cX11_worst 1 = .ok (.iconst 0, 1) := by decide +kernel
theorem dX11_worst_2 : decode cX11_worst 2 = .ok (.iconst 2, 1) := by decide +kernel
theorem dX11_worst_3 : decode cX11_worst 3 = .ok (.invokestatic 85, 3) := by decide +kernel
theorem dX11_worst_6 : decode cX11_worst 6 = .ok (.ifCond .eq 12, 3) := by decide +kernel
theorem dX11_worst_9 : decode cX11_worst 9 = .ok (.iload_n 2, 1) := by decide +kernel
theorem dX11_worst_10 : decode cX11_worst 10 = .ok (.iconst 1, 1) := by decide +kernel
theorem dX11_worst_11 : decode cX11_worst 11 = .ok (.iconst 3, 1) := by decide +kernel
theorem dX11_worst_12 : decode cX11_worst 12 = .ok (.invokestatic 85, 3) := by decide +kernel
theorem dX11_worst_15 : decode cX11_worst 15 = .ok (.ifCond .ne 6, 3) := by decide +kernel
theorem dX11_worst_18 : decode cX11_worst 18 = .ok (.bipush (-2), 2) := by decide +kernel
theorem dX11_worst_20 : decode cX11_worst 20 = .ok (.ireturn, 1) := by decide +kernel
theorem dX11_worst_21 : decode cX11_worst 21 = .ok (.aload_n 0, 1) := by decide +kernel
theorem dX11_worst_22 : decode cX11_worst 22 = .ok (.getfield 81, 3) := by decide +kernel
theorem dX11_worst_25 : decode cX11_worst 25 = .ok (.iload_n 1, 1) := by decide +kernel
theorem dX11_worst_26 : decode cX11_worst 26 = .ok (.iload_n 2, 1) := by decide +kernel
theorem dX11_worst_27 : decode cX11_worst 27 = .ok (.invokevirtual 163, 3) := by decide +kernel
theorem dX11_worst_30 : decode cX11_worst 30 = .ok (.aload_n 0, 1) := by decide +kernel
theorem dX11_worst_31 : decode cX11_worst 31 = .ok (.getfield 81, 3) := by decide +kernel
theorem dX11_worst_34 : decode cX11_worst 34 = .ok (.getfield 167, 3) := by decide +kernel
theorem dX11_worst_37 : decode cX11_worst 37 = .ok (.ireturn, 1) := by decide +kernel
theorem dX11_worstShare_0 : decode cX11_worstShare 0 = .ok (.iload_n 1, 1) := by decide +kernel
theorem dX11_worstShare_1 : decode cX11_worstShare 1 = .ok (.iconst 0, 1) := by decide +kernel
theorem dX11_worstShare_2 : decode cX11_worstShare 2 = .ok (.iconst 2, 1) := by decide +kernel
theorem dX11_worstShare_3 : decode cX11_worstShare 3 = .ok (.invokestatic 85, 3) := by decide +kernel
theorem dX11_worstShare_6 : decode cX11_worstShare 6 = .ok (.ifCond .eq 12, 3) := by decide +kernel
theorem dX11_worstShare_9 : decode cX11_worstShare 9 = .ok (.iload_n 2, 1) := by decide +kernel
theorem dX11_worstShare_10 : decode cX11_worstShare 10 = .ok (.iconst 1, 1) := by decide +kernel
theorem dX11_worstShare_11 : decode cX11_worstShare 11 = .ok (.iconst 3, 1) := by decide +kernel
theorem dX11_worstShare_12 : decode cX11_worstShare 12 = .ok (.invokestatic 85, 3) := by decide +kernel
theorem dX11_worstShare_15 : decode cX11_worstShare 15 = .ok (.ifCond .ne 6, 3) := by decide +kernel
theorem dX11_worstShare_18 : decode cX11_worstShare 18 = .ok (.bipush (-2), 2) := by decide +kernel
theorem dX11_worstShare_20 : decode cX11_worstShare 20 = .ok (.ireturn, 1) := by decide +kernel
theorem dX11_worstShare_21 : decode cX11_worstShare 21 = .ok (.aload_n 0, 1) := by decide +kernel
theorem dX11_worstShare_22 : decode cX11_worstShare 22 = .ok (.getfield 81, 3) := by decide +kernel
theorem dX11_worstShare_25 : decode cX11_worstShare 25 = .ok (.iload_n 1, 1) := by decide +kernel
theorem dX11_worstShare_26 : decode cX11_worstShare 26 = .ok (.iload_n 2, 1) := by decide +kernel
theorem dX11_worstShare_27 : decode cX11_worstShare 27 = .ok (.invokevirtual 163, 3) := by decide +kernel
theorem dX11_worstShare_30 : decode cX11_worstShare 30 = .ok (.aload_n 0, 1) := by decide +kernel
theorem dX11_worstShare_31 : decode cX11_worstShare 31 = .ok (.getfield 81, 3) := by decide +kernel
theorem dX11_worstShare_34 : decode cX11_worstShare 34 = .ok (.getfield 170, 3) := by decide +kernel
theorem dX11_worstShare_37 : decode cX11_worstShare 37 = .ok (.aload_n 0, 1) := by decide +kernel
theorem dX11_worstShare_38 : decode cX11_worstShare 38 = .ok (.getfield 81, 3) := by decide +kernel
theorem dX11_worstShare_41 : decode cX11_worstShare 41 = .ok (.getfield 173, 3) := by decide +kernel
theorem dX11_worstShare_44 : decode cX11_worstShare 44 = .ok (.invokestatic 145, 3) := by decide +kernel
theorem dX11_worstShare_47 : decode cX11_worstShare 47 = .ok (.ireturn, 1) := by decide +kernel
theorem dX11_longing_0 : decode cX11_longing 0 = .ok (.iload_n 1, 1) := by decide +kernel
theorem dX11_longing_1 : decode cX11_longing 1 = .ok (.iconst 0, 1) := by decide +kernel
theorem dX11_longing_2 : decode cX11_longing 2 = .ok (.bipush 40, 2) := by decide +kernel
theorem dX11_longing_4 : decode cX11_longing 4 = .ok (.invokestatic 85, 3) := by decide +kernel
theorem dX11_longing_7 : decode cX11_longing 7 = .ok (.ifCond .ne 6, 3) := by decide +kernel
theorem dX11_longing_10 : decode cX11_longing 10 = .ok (.bipush (-2), 2) := by decide +kernel
theorem dX11_longing_12 : decode cX11_longing 12 = .ok (.ireturn, 1) := by decide +kernel
theorem dX11_longing_13 : decode cX11_longing 13 = .ok (.aload_n 0, 1) := by decide +kernel
theorem dX11_longing_14 : decode cX11_longing 14 = .ok (.invokevirtual 120, 3) := by decide +kernel
theorem dX11_longing_17 : decode cX11_longing 17 = .ok (.ifCond .ne 12, 3) := by decide +kernel
theorem dX11_longing_20 : decode cX11_longing 20 = .ok (.aload_n 0, 1) := by decide +kernel
theorem dX11_longing_21 : decode cX11_longing 21 = .ok (.getfield 19, 3) := by decide +kernel
theorem dX11_longing_24 : decode cX11_longing 24 = .ok (.iconst 1, 1) := by decide +kernel
theorem dX11_longing_25 : decode cX11_longing 25 = .ok (.invokevirtual 124, 3) := by decide +kernel
theorem dX11_longing_28 : decode cX11_longing 28 = .ok (.ireturn, 1) := by decide +kernel
theorem dX11_longing_29 : decode cX11_longing 29 = .ok (.aload_n 0, 1) := by decide +kernel
theorem dX11_longing_30 : decode cX11_longing 30 = .ok (.getfield 74, 3) := by decide +kernel
theorem dX11_longing_33 : decode cX11_longing 33 = .ok (.aload_n 0, 1) := by decide +kernel
theorem dX11_longing_34 : decode cX11_longing 34 = .ok (.getfield 26, 3) := by decide +kernel
theorem dX11_longing_37 : decode cX11_longing 37 = .ok (.iload_n 1, 1) := by decide +kernel
theorem dX11_longing_38 : decode cX11_longing 38 = .ok (.invokevirtual 176, 3) := by decide +kernel
theorem dX11_longing_41 : decode cX11_longing 41 = .ok (.ireturn, 1) := by decide +kernel
theorem dX11_pays_0 : decode cX11_pays 0 = .ok (.aload_n 0, 1) := by decide +kernel
theorem dX11_pays_1 : decode cX11_pays 1 = .ok (.invokevirtual 120, 3) := by decide +kernel
theorem dX11_pays_4 : decode cX11_pays 4 = .ok (.ifCond .ne 12, 3) := by decide +kernel
theorem dX11_pays_7 : decode cX11_pays 7 = .ok (.aload_n 0, 1) := by decide +kernel
theorem dX11_pays_8 : decode cX11_pays 8 = .ok (.getfield 19, 3) := by decide +kernel
theorem dX11_pays_11 : decode cX11_pays 11 = .ok (.iconst 1, 1) := by decide +kernel
theorem dX11_pays_12 : decode cX11_pays 12 = .ok (.invokevirtual 124, 3) := by decide +kernel
theorem dX11_pays_15 : decode cX11_pays 15 = .ok (.ireturn, 1) := by decide +kernel
theorem dX11_pays_16 : decode cX11_pays 16 = .ok (.aload_n 0, 1) := by decide +kernel
theorem dX11_pays_17 : decode cX11_pays 17 = .ok (.getfield 74, 3) := by decide +kernel
theorem dX11_pays_20 : decode cX11_pays 20 = .ok (.aload_n 0, 1) := by decide +kernel
theorem dX11_pays_21 : decode cX11_pays 21 = .ok (.getfield 26, 3) := by decide +kernel
theorem dX11_pays_24 : decode cX11_pays 24 = .ok (.invokevirtual 180, 3) := by decide +kernel
theorem dX11_pays_27 : decode cX11_pays 27 = .ok (.ireturn, 1) := by decide +kernel
theorem dX11_sheet_0 : decode cX11_sheet 0 = .ok (.iload_n 1, 1) := by decide +kernel
theorem dX11_sheet_1 : decode cX11_sheet 1 = .ok (.invokestatic 183, 3) := by decide +kernel
theorem dX11_sheet_4 : decode cX11_sheet 4 = .ok (.ifCond .eq 16, 3) := by decide +kernel
theorem dX11_sheet_7 : decode cX11_sheet 7 = .ok (.iload_n 2, 1) := by decide +kernel
theorem dX11_sheet_8 : decode cX11_sheet 8 = .ok (.invokestatic 186, 3) := by decide +kernel
theorem dX11_sheet_11 : decode cX11_sheet 11 = .ok (.ifCond .eq 9, 3) := by decide +kernel
theorem dX11_sheet_14 : decode cX11_sheet 14 = .ok (.iload_n 3, 1) := by decide +kernel
theorem dX11_sheet_15 : decode cX11_sheet 15 = .ok (.bipush 40, 2) := by decide +kernel
theorem dX11_sheet_17 : decode cX11_sheet 17 = .ok (.if_icmp .le 6, 3) := by decide +kernel
theorem dX11_sheet_20 : decode cX11_sheet 20 = .ok (.bipush (-2), 2) := by decide +kernel
theorem dX11_sheet_22 : decode cX11_sheet 22 = .ok (.ireturn, 1) := by decide +kernel
theorem dX11_sheet_23 : decode cX11_sheet 23 = .ok (.iload_n 3, 1) := by decide +kernel
theorem dX11_sheet_24 : decode cX11_sheet 24 = .ok (.ifCond .ge 12, 3) := by decide +kernel
theorem dX11_sheet_27 : decode cX11_sheet 27 = .ok (.aload_n 0, 1) := by decide +kernel
theorem dX11_sheet_28 : decode cX11_sheet 28 = .ok (.getfield 19, 3) := by decide +kernel
theorem dX11_sheet_31 : decode cX11_sheet 31 = .ok (.iconst 5, 1) := by decide +kernel
theorem dX11_sheet_32 : decode cX11_sheet 32 = .ok (.invokevirtual 124, 3) := by decide +kernel
theorem dX11_sheet_35 : decode cX11_sheet 35 = .ok (.ireturn, 1) := by decide +kernel
theorem dX11_sheet_36 : decode cX11_sheet 36 = .ok (.aload_n 0, 1) := by decide +kernel
theorem dX11_sheet_37 : decode cX11_sheet 37 = .ok (.getfield 19, 3) := by decide +kernel
theorem dX11_sheet_40 : decode cX11_sheet 40 = .ok (.iload_n 1, 1) := by decide +kernel
theorem dX11_sheet_41 : decode cX11_sheet 41 = .ok (.iload_n 2, 1) := by decide +kernel
theorem dX11_sheet_42 : decode cX11_sheet 42 = .ok (.iload_n 3, 1) := by decide +kernel
theorem dX11_sheet_43 : decode cX11_sheet 43 = .ok (.invokevirtual 189, 3) := by decide +kernel
theorem dX11_sheet_46 : decode cX11_sheet 46 = .ok (.iload_n 3, 1) := by decide +kernel
theorem dX11_sheet_47 : decode cX11_sheet 47 = .ok (.ireturn, 1) := by decide +kernel
theorem dX11_lose_0 : decode cX11_lose 0 = .ok (.iload_n 1, 1) := by decide +kernel
theorem dX11_lose_1 : decode cX11_lose 1 = .ok (.invokestatic 183, 3) := by decide +kernel
theorem dX11_lose_4 : decode cX11_lose 4 = .ok (.ifCond .ne 6, 3) := by decide +kernel
theorem dX11_lose_7 : decode cX11_lose 7 = .ok (.bipush (-2), 2) := by decide +kernel
theorem dX11_lose_9 : decode cX11_lose 9 = .ok (.ireturn, 1) := by decide +kernel
theorem dX11_lose_10 : decode cX11_lose 10 = .ok (.aload_n 0, 1) := by decide +kernel
theorem dX11_lose_11 : decode cX11_lose 11 = .ok (.getfield 19, 3) := by decide +kernel
theorem dX11_lose_14 : decode cX11_lose 14 = .ok (.iload_n 1, 1) := by decide +kernel
theorem dX11_lose_15 : decode cX11_lose 15 = .ok (.invokevirtual 193, 3) := by decide +kernel
theorem dX11_lose_18 : decode cX11_lose 18 = .ok (.ifCond .eq 12, 3) := by decide +kernel
theorem dX11_lose_21 : decode cX11_lose 21 = .ok (.aload_n 0, 1) := by decide +kernel
theorem dX11_lose_22 : decode cX11_lose 22 = .ok (.getfield 19, 3) := by decide +kernel
theorem dX11_lose_25 : decode cX11_lose 25 = .ok (.iconst 1, 1) := by decide +kernel
theorem dX11_lose_26 : decode cX11_lose 26 = .ok (.invokevirtual 124, 3) := by decide +kernel
theorem dX11_lose_29 : decode cX11_lose 29 = .ok (.ireturn, 1) := by decide +kernel
theorem dX11_lose_30 : decode cX11_lose 30 = .ok (.aload_n 0, 1) := by decide +kernel
theorem dX11_lose_31 : decode cX11_lose 31 = .ok (.getfield 19, 3) := by decide +kernel
theorem dX11_lose_34 : decode cX11_lose 34 = .ok (.getfield 196, 3) := by decide +kernel
theorem dX11_lose_37 : decode cX11_lose 37 = .ok (.iload_n 1, 1) := by decide +kernel
theorem dX11_lose_38 : decode cX11_lose 38 = .ok (.iaload, 1) := by decide +kernel
theorem dX11_lose_39 : decode cX11_lose 39 = .ok (.istore_n 2, 1) := by decide +kernel
theorem dX11_lose_40 : decode cX11_lose 40 = .ok (.aload_n 0, 1) := by decide +kernel
theorem dX11_lose_41 : decode cX11_lose 41 = .ok (.getfield 19, 3) := by decide +kernel
theorem dX11_lose_44 : decode cX11_lose 44 = .ok (.iload_n 1, 1) := by decide +kernel
theorem dX11_lose_45 : decode cX11_lose 45 = .ok (.invokevirtual 199, 3) := by decide +kernel
theorem dX11_lose_48 : decode cX11_lose 48 = .ok (.iload_n 2, 1) := by decide +kernel
theorem dX11_lose_49 : decode cX11_lose 49 = .ok (.ireturn, 1) := by decide +kernel
theorem dX11_put_0 : decode cX11_put 0 = .ok (.aload_n 0, 1) := by decide +kernel
theorem dX11_put_1 : decode cX11_put 1 = .ok (.iload_n 1, 1) := by decide +kernel
theorem dX11_put_2 : decode cX11_put 2 = .ok (.iload_n 2, 1) := by decide +kernel
theorem dX11_put_3 : decode cX11_put 3 = .ok (.iload_n 3, 1) := by decide +kernel
theorem dX11_put_4 : decode cX11_put 4 = .ok (.invokevirtual 202, 3) := by decide +kernel
theorem dX11_put_7 : decode cX11_put 7 = .ok (.istore 5, 2) := by decide +kernel
theorem dX11_put_9 : decode cX11_put 9 = .ok (.iload 5, 2) := by decide +kernel
theorem dX11_put_11 : decode cX11_put 11 = .ok (.ifCond .eq 6, 3) := by decide +kernel
theorem dX11_put_14 : decode cX11_put 14 = .ok (.iload 5, 2) := by decide +kernel
theorem dX11_put_16 : decode cX11_put 16 = .ok (.ireturn, 1) := by decide +kernel
theorem dX11_put_17 : decode cX11_put 17 = .ok (.aload_n 0, 1) := by decide +kernel
theorem dX11_put_18 : decode cX11_put 18 = .ok (.getfield 19, 3) := by decide +kernel
theorem dX11_put_21 : decode cX11_put 21 = .ok (.iload_n 1, 1) := by decide +kernel
theorem dX11_put_22 : decode cX11_put 22 = .ok (.iload_n 3, 1) := by decide +kernel
theorem dX11_put_23 : decode cX11_put 23 = .ok (.iload 4, 2) := by decide +kernel
theorem dX11_put_25 : decode cX11_put 25 = .ok (.invokevirtual 205, 3) := by decide +kernel
theorem dX11_put_28 : decode cX11_put 28 = .ok (.iconst 1, 1) := by decide +kernel
theorem dX11_put_29 : decode cX11_put 29 = .ok (.ireturn, 1) := by decide +kernel
theorem dX11_get_0 : decode cX11_get 0 = .ok (.aload_n 0, 1) := by decide +kernel
theorem dX11_get_1 : decode cX11_get 1 = .ok (.iload_n 1, 1) := by decide +kernel
theorem dX11_get_2 : decode cX11_get 2 = .ok (.iload_n 2, 1) := by decide +kernel
theorem dX11_get_3 : decode cX11_get 3 = .ok (.iload_n 3, 1) := by decide +kernel
theorem dX11_get_4 : decode cX11_get 4 = .ok (.invokevirtual 202, 3) := by decide +kernel
theorem dX11_get_7 : decode cX11_get 7 = .ok (.ifCond .eq 6, 3) := by decide +kernel
theorem dX11_get_10 : decode cX11_get 10 = .ok (.ldc 208, 2) := by decide +kernel
theorem dX11_get_12 : decode cX11_get 12 = .ok (.ireturn, 1) := by decide +kernel
theorem dX11_get_13 : decode cX11_get 13 = .ok (.aload_n 0, 1) := by decide +kernel
theorem dX11_get_14 : decode cX11_get 14 = .ok (.getfield 19, 3) := by decide +kernel
theorem dX11_get_17 : decode cX11_get 17 = .ok (.getfield 209, 3) := by decide +kernel
theorem dX11_get_20 : decode cX11_get 20 = .ok (.iload_n 1, 1) := by decide +kernel
theorem dX11_get_21 : decode cX11_get 21 = .ok (.aaload, 1) := by decide +kernel
theorem dX11_get_22 : decode cX11_get 22 = .ok (.iload_n 3, 1) := by decide +kernel
theorem dX11_get_23 : decode cX11_get 23 = .ok (.iaload, 1) := by decide +kernel
theorem dX11_get_24 : decode cX11_get 24 = .ok (.ireturn, 1) := by decide +kernel
theorem dX11_copy_0 : decode cX11_copy 0 = .ok (.iload_n 1, 1) := by decide +kernel
theorem dX11_copy_1 : decode cX11_copy 1 = .ok (.invokestatic 183, 3) := by decide +kernel
theorem dX11_copy_4 : decode cX11_copy 4 = .ok (.ifCond .eq 10, 3) := by decide +kernel
theorem dX11_copy_7 : decode cX11_copy 7 = .ok (.iload_n 3, 1) := by decide +kernel
theorem dX11_copy_8 : decode cX11_copy 8 = .ok (.invokestatic 183, 3) := by decide +kernel
theorem dX11_copy_11 : decode cX11_copy 11 = .ok (.ifCond .ne 6, 3) := by decide +kernel
theorem dX11_copy_14 : decode cX11_copy 14 = .ok (.bipush (-2), 2) := by decide +kernel
theorem dX11_copy_16 : decode cX11_copy 16 = .ok (.ireturn, 1) := by decide +kernel
theorem dX11_copy_17 : decode cX11_copy 17 = .ok (.aload_n 0, 1) := by decide +kernel
theorem dX11_copy_18 : decode cX11_copy 18 = .ok (.getfield 19, 3) := by decide +kernel
theorem dX11_copy_21 : decode cX11_copy 21 = .ok (.iload_n 1, 1) := by decide +kernel
theorem dX11_copy_22 : decode cX11_copy 22 = .ok (.invokevirtual 193, 3) := by decide +kernel
theorem dX11_copy_25 : decode cX11_copy 25 = .ok (.ifCond .ne 14, 3) := by decide +kernel
theorem dX11_copy_28 : decode cX11_copy 28 = .ok (.aload_n 0, 1) := by decide +kernel
theorem dX11_copy_29 : decode cX11_copy 29 = .ok (.getfield 19, 3) := by decide +kernel
theorem dX11_copy_32 : decode cX11_copy 32 = .ok (.iload_n 3, 1) := by decide +kernel
theorem dX11_copy_33 : decode cX11_copy 33 = .ok (.invokevirtual 193, 3) := by decide +kernel
theorem dX11_copy_36 : decode cX11_copy 36 = .ok (.ifCond .eq 12, 3) := by decide +kernel
theorem dX11_copy_39 : decode cX11_copy 39 = .ok (.aload_n 0, 1) := by decide +kernel
theorem dX11_copy_40 : decode cX11_copy 40 = .ok (.getfield 19, 3) := by decide +kernel
theorem dX11_copy_43 : decode cX11_copy 43 = .ok (.iconst 1, 1) := by decide +kernel
theorem dX11_copy_44 : decode cX11_copy 44 = .ok (.invokevirtual 124, 3) := by decide +kernel
theorem dX11_copy_47 : decode cX11_copy 47 = .ok (.ireturn, 1) := by decide +kernel
theorem dX11_copy_48 : decode cX11_copy 48 = .ok (.aload_n 0, 1) := by decide +kernel
theorem dX11_copy_49 : decode cX11_copy 49 = .ok (.getfield 19, 3) := by decide +kernel
theorem dX11_copy_52 : decode cX11_copy 52 = .ok (.getfield 213, 3) := by decide +kernel
theorem dX11_copy_55 : decode cX11_copy 55 = .ok (.iload_n 1, 1) := by decide +kernel
theorem dX11_copy_56 : decode cX11_copy 56 = .ok (.iaload, 1) := by decide +kernel
theorem dX11_copy_57 : decode cX11_copy 57 = .ok (.aload_n 0, 1) := by decide +kernel
theorem dX11_copy_58 : decode cX11_copy 58 = .ok (.getfield 19, 3) := by decide +kernel
theorem dX11_copy_61 : decode cX11_copy 61 = .ok (.getfield 213, 3) := by decide +kernel
theorem dX11_copy_64 : decode cX11_copy 64 = .ok (.iload_n 3, 1) := by decide +kernel
theorem dX11_copy_65 : decode cX11_copy 65 = .ok (.iaload, 1) := by decide +kernel
theorem dX11_copy_66 : decode cX11_copy 66 = .ok (.if_icmp .eq 12, 3) := by decide +kernel
theorem dX11_copy_69 : decode cX11_copy 69 = .ok (.aload_n 0, 1) := by decide +kernel
theorem dX11_copy_70 : decode cX11_copy 70 = .ok (.getfield 19, 3) := by decide +kernel
theorem dX11_copy_73 : decode cX11_copy 73 = .ok (.iconst 4, 1) := by decide +kernel
theorem dX11_copy_74 : decode cX11_copy 74 = .ok (.invokevirtual 124, 3) := by decide +kernel
theorem dX11_copy_77 : decode cX11_copy 77 = .ok (.ireturn, 1) := by decide +kernel
theorem dX11_copy_78 : decode cX11_copy 78 = .ok (.aload_n 0, 1) := by decide +kernel
theorem dX11_copy_79 : decode cX11_copy 79 = .ok (.getfield 19, 3) := by decide +kernel
theorem dX11_copy_82 : decode cX11_copy 82 = .ok (.iload_n 1, 1) := by decide +kernel
theorem dX11_copy_83 : decode cX11_copy 83 = .ok (.iload_n 2, 1) := by decide +kernel
theorem dX11_copy_84 : decode cX11_copy 84 = .ok (.iload 5, 2) := by decide +kernel
theorem dX11_copy_86 : decode cX11_copy 86 = .ok (.invokevirtual 216, 3) := by decide +kernel
theorem dX11_copy_89 : decode cX11_copy 89 = .ok (.ifCond .eq 18, 3) := by decide +kernel
theorem dX11_copy_92 : decode cX11_copy 92 = .ok (.aload_n 0, 1) := by decide +kernel
theorem dX11_copy_93 : decode cX11_copy 93 = .ok (.getfield 19, 3) := by decide +kernel
theorem dX11_copy_96 : decode cX11_copy 96 = .ok (.iload_n 3, 1) := by decide +kernel
theorem dX11_copy_97 : decode cX11_copy 97 = .ok (.iload 4, 2) := by decide +kernel
theorem dX11_copy_99 : decode cX11_copy 99 = .ok (.iload 5, 2) := by decide +kernel
theorem dX11_copy_101 : decode cX11_copy 101 = .ok (.invokevirtual 216, 3) := by decide +kernel
theorem dX11_copy_104 : decode cX11_copy 104 = .ok (.ifCond .ne 12, 3) := by decide +kernel
theorem dX11_copy_107 : decode cX11_copy 107 = .ok (.aload_n 0, 1) := by decide +kernel
theorem dX11_copy_108 : decode cX11_copy 108 = .ok (.getfield 19, 3) := by decide +kernel
theorem dX11_copy_111 : decode cX11_copy 111 = .ok (.iconst 2, 1) := by decide +kernel
theorem dX11_copy_112 : decode cX11_copy 112 = .ok (.invokevirtual 124, 3) := by decide +kernel
theorem dX11_copy_115 : decode cX11_copy 115 = .ok (.ireturn, 1) := by decide +kernel
theorem dX11_copy_116 : decode cX11_copy 116 = .ok (.aload_n 0, 1) := by decide +kernel
theorem dX11_copy_117 : decode cX11_copy 117 = .ok (.getfield 19, 3) := by decide +kernel
theorem dX11_copy_120 : decode cX11_copy 120 = .ok (.getfield 209, 3) := by decide +kernel
theorem dX11_copy_123 : decode cX11_copy 123 = .ok (.iload_n 1, 1) := by decide +kernel
theorem dX11_copy_124 : decode cX11_copy 124 = .ok (.aaload, 1) := by decide +kernel
theorem dX11_copy_125 : decode cX11_copy 125 = .ok (.iload_n 2, 1) := by decide +kernel
theorem dX11_copy_126 : decode cX11_copy 126 = .ok (.aload_n 0, 1) := by decide +kernel
theorem dX11_copy_127 : decode cX11_copy 127 = .ok (.getfield 19, 3) := by decide +kernel
theorem dX11_copy_130 : decode cX11_copy 130 = .ok (.getfield 209, 3) := by decide +kernel
