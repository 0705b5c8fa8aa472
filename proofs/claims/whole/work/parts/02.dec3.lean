theorem dX11_copy_133 : decode cX11_copy 133 = .ok (.iload_n 3, 1) := by decide +kernel
theorem dX11_copy_134 : decode cX11_copy 134 = .ok (.aaload, 1) := by decide +kernel
theorem dX11_copy_135 : decode cX11_copy 135 = .ok (.iload 4, 2) := by decide +kernel
theorem dX11_copy_137 : decode cX11_copy 137 = .ok (.iload 5, 2) := by decide +kernel
theorem dX11_copy_139 : decode cX11_copy 139 = .ok (.invokestatic 219, 3) := by decide +kernel
theorem dX11_copy_142 : decode cX11_copy 142 = .ok (.iconst 1, 1) := by decide +kernel
theorem dX11_copy_143 : decode cX11_copy 143 = .ok (.ireturn, 1) := by decide +kernel
theorem dX11_hint_0 : decode cX11_hint 0 = .ok (.aload_n 0, 1) := by decide +kernel
theorem dX11_hint_1 : decode cX11_hint 1 = .ok (.invokevirtual 120, 3) := by decide +kernel
theorem dX11_hint_4 : decode cX11_hint 4 = .ok (.ifCond .eq 14, 3) := by decide +kernel
theorem dX11_hint_7 : decode cX11_hint 7 = .ok (.aload_n 0, 1) := by decide +kernel
theorem dX11_hint_8 : decode cX11_hint 8 = .ok (.getfield 19, 3) := by decide +kernel
theorem dX11_hint_11 : decode cX11_hint 11 = .ok (.iconst 1, 1) := by decide +kernel
theorem dX11_hint_12 : decode cX11_hint 12 = .ok (.invokevirtual 193, 3) := by decide +kernel
theorem dX11_hint_15 : decode cX11_hint 15 = .ok (.ifCond .eq 12, 3) := by decide +kernel
theorem dX11_hint_18 : decode cX11_hint 18 = .ok (.aload_n 0, 1) := by decide +kernel
theorem dX11_hint_19 : decode cX11_hint 19 = .ok (.getfield 19, 3) := by decide +kernel
theorem dX11_hint_22 : decode cX11_hint 22 = .ok (.iconst 1, 1) := by decide +kernel
theorem dX11_hint_23 : decode cX11_hint 23 = .ok (.invokevirtual 124, 3) := by decide +kernel
theorem dX11_hint_26 : decode cX11_hint 26 = .ok (.ireturn, 1) := by decide +kernel
theorem dX11_hint_27 : decode cX11_hint 27 = .ok (.aload_n 0, 1) := by decide +kernel
theorem dX11_hint_28 : decode cX11_hint 28 = .ok (.getfield 65, 3) := by decide +kernel
theorem dX11_hint_31 : decode cX11_hint 31 = .ok (.aload_n 0, 1) := by decide +kernel
theorem dX11_hint_32 : decode cX11_hint 32 = .ok (.getfield 26, 3) := by decide +kernel
theorem dX11_hint_35 : decode cX11_hint 35 = .ok (.invokevirtual 141, 3) := by decide +kernel
theorem dX11_hint_38 : decode cX11_hint 38 = .ok (.pop, 1) := by decide +kernel
theorem dX11_hint_39 : decode cX11_hint 39 = .ok (.aload_n 0, 1) := by decide +kernel
theorem dX11_hint_40 : decode cX11_hint 40 = .ok (.getfield 65, 3) := by decide +kernel
theorem dX11_hint_43 : decode cX11_hint 43 = .ok (.invokevirtual 225, 3) := by decide +kernel
theorem dX11_hint_46 : decode cX11_hint 46 = .ok (.aload_n 0, 1) := by decide +kernel
theorem dX11_hint_47 : decode cX11_hint 47 = .ok (.getfield 19, 3) := by decide +kernel
theorem dX11_hint_50 : decode cX11_hint 50 = .ok (.getfield 196, 3) := by decide +kernel
theorem dX11_hint_53 : decode cX11_hint 53 = .ok (.iconst 1, 1) := by decide +kernel
theorem dX11_hint_54 : decode cX11_hint 54 = .ok (.iaload, 1) := by decide +kernel
theorem dX11_hint_55 : decode cX11_hint 55 = .ok (.aload_n 0, 1) := by decide +kernel
theorem dX11_hint_56 : decode cX11_hint 56 = .ok (.getfield 26, 3) := by decide +kernel
theorem dX11_hint_59 : decode cX11_hint 59 = .ok (.getfield 128, 3) := by decide +kernel
theorem dX11_hint_62 : decode cX11_hint 62 = .ok (.invokestatic 228, 3) := by decide +kernel
theorem dX11_hint_65 : decode cX11_hint 65 = .ok (.istore_n 1, 1) := by decide +kernel
theorem dX11_hint_66 : decode cX11_hint 66 = .ok (.iconst 0, 1) := by decide +kernel
theorem dX11_hint_67 : decode cX11_hint 67 = .ok (.istore_n 2, 1) := by decide +kernel
theorem dX11_hint_68 : decode cX11_hint 68 = .ok (.iload_n 2, 1) := by decide +kernel
theorem dX11_hint_69 : decode cX11_hint 69 = .ok (.iload_n 1, 1) := by decide +kernel
theorem dX11_hint_70 : decode cX11_hint 70 = .ok (.if_icmp .ge 42, 3) := by decide +kernel
theorem dX11_hint_73 : decode cX11_hint 73 = .ok (.aload_n 0, 1) := by decide +kernel
theorem dX11_hint_74 : decode cX11_hint 74 = .ok (.getfield 65, 3) := by decide +kernel
theorem dX11_hint_77 : decode cX11_hint 77 = .ok (.aload_n 0, 1) := by decide +kernel
theorem dX11_hint_78 : decode cX11_hint 78 = .ok (.getfield 26, 3) := by decide +kernel
theorem dX11_hint_81 : decode cX11_hint 81 = .ok (.getfield 233, 3) := by decide +kernel
theorem dX11_hint_84 : decode cX11_hint 84 = .ok (.iload_n 2, 1) := by decide +kernel
theorem dX11_hint_85 : decode cX11_hint 85 = .ok (.iaload, 1) := by decide +kernel
theorem dX11_hint_86 : decode cX11_hint 86 = .ok (.iconst (-1), 1) := by decide +kernel
theorem dX11_hint_87 : decode cX11_hint 87 = .ok (.invokevirtual 236, 3) := by decide +kernel
theorem dX11_hint_90 : decode cX11_hint 90 = .ok (.aload_n 0, 1) := by decide +kernel
theorem dX11_hint_91 : decode cX11_hint 91 = .ok (.getfield 19, 3) := by decide +kernel
theorem dX11_hint_94 : decode cX11_hint 94 = .ok (.iconst 1, 1) := by decide +kernel
theorem dX11_hint_95 : decode cX11_hint 95 = .ok (.iload_n 2, 1) := by decide +kernel
theorem dX11_hint_96 : decode cX11_hint 96 = .ok (.aload_n 0, 1) := by decide +kernel
theorem dX11_hint_97 : decode cX11_hint 97 = .ok (.getfield 65, 3) := by decide +kernel
theorem dX11_hint_100 : decode cX11_hint 100 = .ok (.getfield 239, 3) := by decide +kernel
theorem dX11_hint_103 : decode cX11_hint 103 = .ok (.invokevirtual 205, 3) := by decide +kernel
theorem dX11_hint_106 : decode cX11_hint 106 = .ok (.iinc 2 1, 3) := by decide +kernel
theorem dX11_hint_109 : decode cX11_hint 109 = .ok (.goto (-41), 3) := by decide +kernel
theorem dX11_hint_112 : decode cX11_hint 112 = .ok (.iload_n 1, 1) := by decide +kernel
theorem dX11_hint_113 : decode cX11_hint 113 = .ok (.ireturn, 1) := by decide +kernel
theorem dX11_count_0 : decode cX11_count 0 = .ok (.iload_n 1, 1) := by decide +kernel
theorem dX11_count_1 : decode cX11_count 1 = .ok (.tableswitch 75 0 4 #[35, 43, 51, 59, 67], 35) := by decide +kernel
theorem dX11_count_36 : decode cX11_count 36 = .ok (.aload_n 0, 1) := by decide +kernel
theorem dX11_count_37 : decode cX11_count 37 = .ok (.getfield 10, 3) := by decide +kernel
theorem dX11_count_40 : decode cX11_count 40 = .ok (.getfield 89, 3) := by decide +kernel
theorem dX11_count_43 : decode cX11_count 43 = .ok (.ireturn, 1) := by decide +kernel
theorem dX11_count_44 : decode cX11_count 44 = .ok (.aload_n 0, 1) := by decide +kernel
theorem dX11_count_45 : decode cX11_count 45 = .ok (.getfield 10, 3) := by decide +kernel
theorem dX11_count_48 : decode cX11_count 48 = .ok (.getfield 105, 3) := by decide +kernel
theorem dX11_count_51 : decode cX11_count 51 = .ok (.ireturn, 1) := by decide +kernel
theorem dX11_count_52 : decode cX11_count 52 = .ok (.aload_n 0, 1) := by decide +kernel
theorem dX11_count_53 : decode cX11_count 53 = .ok (.getfield 10, 3) := by decide +kernel
theorem dX11_count_56 : decode cX11_count 56 = .ok (.getfield 117, 3) := by decide +kernel
theorem dX11_count_59 : decode cX11_count 59 = .ok (.ireturn, 1) := by decide +kernel
theorem dX11_count_60 : decode cX11_count 60 = .ok (.aload_n 0, 1) := by decide +kernel
theorem dX11_count_61 : decode cX11_count 61 = .ok (.getfield 19, 3) := by decide +kernel
theorem dX11_count_64 : decode cX11_count 64 = .ok (.getfield 242, 3) := by decide +kernel
theorem dX11_count_67 : decode cX11_count 67 = .ok (.ireturn, 1) := by decide +kernel
theorem dX11_count_68 : decode cX11_count 68 = .ok (.aload_n 0, 1) := by decide +kernel
theorem dX11_count_69 : decode cX11_count 69 = .ok (.getfield 19, 3) := by decide +kernel
theorem dX11_count_72 : decode cX11_count 72 = .ok (.invokevirtual 245, 3) := by decide +kernel
theorem dX11_count_75 : decode cX11_count 75 = .ok (.ireturn, 1) := by decide +kernel
theorem dX11_count_76 : decode cX11_count 76 = .ok (.bipush (-2), 2) := by decide +kernel
theorem dX11_count_78 : decode cX11_count 78 = .ok (.ireturn, 1) := by decide +kernel
theorem dX11_digest_0 : decode cX11_digest 0 = .ok (.ldc2_w 249, 3) := by decide +kernel
theorem dX11_digest_3 : decode cX11_digest 3 = .ok (.lstore_n 1, 1) := by decide +kernel
theorem dX11_digest_4 : decode cX11_digest 4 = .ok (.ldc2_w 251, 3) := by decide +kernel
theorem dX11_digest_7 : decode cX11_digest 7 = .ok (.lload_n 1, 1) := by decide +kernel
theorem dX11_digest_8 : decode cX11_digest 8 = .ok (.lmul, 1) := by decide +kernel
theorem dX11_digest_9 : decode cX11_digest 9 = .ok (.aload_n 0, 1) := by decide +kernel
theorem dX11_digest_10 : decode cX11_digest 10 = .ok (.getfield 10, 3) := by decide +kernel
theorem dX11_digest_13 : decode cX11_digest 13 = .ok (.getfield 89, 3) := by decide +kernel
theorem dX11_digest_16 : decode cX11_digest 16 = .ok (.i2l, 1) := by decide +kernel
theorem dX11_digest_17 : decode cX11_digest 17 = .ok (.ladd, 1) := by decide +kernel
theorem dX11_digest_18 : decode cX11_digest 18 = .ok (.lstore_n 1, 1) := by decide +kernel
theorem dX11_digest_19 : decode cX11_digest 19 = .ok (.ldc2_w 251, 3) := by decide +kernel
theorem dX11_digest_22 : decode cX11_digest 22 = .ok (.lload_n 1, 1) := by decide +kernel
theorem dX11_digest_23 : decode cX11_digest 23 = .ok (.lmul, 1) := by decide +kernel
theorem dX11_digest_24 : decode cX11_digest 24 = .ok (.aload_n 0, 1) := by decide +kernel
theorem dX11_digest_25 : decode cX11_digest 25 = .ok (.getfield 10, 3) := by decide +kernel
theorem dX11_digest_28 : decode cX11_digest 28 = .ok (.getfield 105, 3) := by decide +kernel
theorem dX11_digest_31 : decode cX11_digest 31 = .ok (.i2l, 1) := by decide +kernel
theorem dX11_digest_32 : decode cX11_digest 32 = .ok (.ladd, 1) := by decide +kernel
theorem dX11_digest_33 : decode cX11_digest 33 = .ok (.lstore_n 1, 1) := by decide +kernel
theorem dX11_digest_34 : decode cX11_digest 34 = .ok (.ldc2_w 251, 3) := by decide +kernel
theorem dX11_digest_37 : decode cX11_digest 37 = .ok (.lload_n 1, 1) := by decide +kernel
theorem dX11_digest_38 : decode cX11_digest 38 = .ok (.lmul, 1) := by decide +kernel
theorem dX11_digest_39 : decode cX11_digest 39 = .ok (.aload_n 0, 1) := by decide +kernel
theorem dX11_digest_40 : decode cX11_digest 40 = .ok (.getfield 10, 3) := by decide +kernel
theorem dX11_digest_43 : decode cX11_digest 43 = .ok (.getfield 117, 3) := by decide +kernel
theorem dX11_digest_46 : decode cX11_digest 46 = .ok (.i2l, 1) := by decide +kernel
theorem dX11_digest_47 : decode cX11_digest 47 = .ok (.ladd, 1) := by decide +kernel
theorem dX11_digest_48 : decode cX11_digest 48 = .ok (.lstore_n 1, 1) := by decide +kernel
theorem dX11_digest_49 : decode cX11_digest 49 = .ok (.ldc2_w 251, 3) := by decide +kernel
theorem dX11_digest_52 : decode cX11_digest 52 = .ok (.lload_n 1, 1) := by decide +kernel
theorem dX11_digest_53 : decode cX11_digest 53 = .ok (.lmul, 1) := by decide +kernel
theorem dX11_digest_54 : decode cX11_digest 54 = .ok (.aload_n 0, 1) := by decide +kernel
theorem dX11_digest_55 : decode cX11_digest 55 = .ok (.getfield 19, 3) := by decide +kernel
theorem dX11_digest_58 : decode cX11_digest 58 = .ok (.invokevirtual 245, 3) := by decide +kernel
theorem dX11_digest_61 : decode cX11_digest 61 = .ok (.i2l, 1) := by decide +kernel
theorem dX11_digest_62 : decode cX11_digest 62 = .ok (.ladd, 1) := by decide +kernel
theorem dX11_digest_63 : decode cX11_digest 63 = .ok (.lstore_n 1, 1) := by decide +kernel
theorem dX11_digest_64 : decode cX11_digest 64 = .ok (.iconst 0, 1) := by decide +kernel
theorem dX11_digest_65 : decode cX11_digest 65 = .ok (.istore_n 3, 1) := by decide +kernel
theorem dX11_digest_66 : decode cX11_digest 66 = .ok (.iload_n 3, 1) := by decide +kernel
theorem dX11_digest_67 : decode cX11_digest 67 = .ok (.aload_n 0, 1) := by decide +kernel
theorem dX11_digest_68 : decode cX11_digest 68 = .ok (.getfield 10, 3) := by decide +kernel
theorem dX11_digest_71 : decode cX11_digest 71 = .ok (.getfield 89, 3) := by decide +kernel
theorem dX11_digest_74 : decode cX11_digest 74 = .ok (.if_icmp .ge 26, 3) := by decide +kernel
theorem dX11_digest_77 : decode cX11_digest 77 = .ok (.ldc2_w 251, 3) := by decide +kernel
theorem dX11_digest_80 : decode cX11_digest 80 = .ok (.lload_n 1, 1) := by decide +kernel
theorem dX11_digest_81 : decode cX11_digest 81 = .ok (.lmul, 1) := by decide +kernel
theorem dX11_digest_82 : decode cX11_digest 82 = .ok (.aload_n 0, 1) := by decide +kernel
theorem dX11_digest_83 : decode cX11_digest 83 = .ok (.getfield 10, 3) := by decide +kernel
theorem dX11_digest_86 : decode cX11_digest 86 = .ok (.getfield 101, 3) := by decide +kernel
theorem dX11_digest_89 : decode cX11_digest 89 = .ok (.iload_n 3, 1) := by decide +kernel
theorem dX11_digest_90 : decode cX11_digest 90 = .ok (.iaload, 1) := by decide +kernel
theorem dX11_digest_91 : decode cX11_digest 91 = .ok (.i2l, 1) := by decide +kernel
theorem dX11_digest_92 : decode cX11_digest 92 = .ok (.ladd, 1) := by decide +kernel
theorem dX11_digest_93 : decode cX11_digest 93 = .ok (.lstore_n 1, 1) := by decide +kernel
theorem dX11_digest_94 : decode cX11_digest 94 = .ok (.iinc 3 1, 3) := by decide +kernel
theorem dX11_digest_97 : decode cX11_digest 97 = .ok (.goto (-31), 3) := by decide +kernel
theorem dX11_digest_100 : decode cX11_digest 100 = .ok (.iconst 0, 1) := by decide +kernel
theorem dX11_digest_101 : decode cX11_digest 101 = .ok (.istore_n 3, 1) := by decide +kernel
theorem dX11_digest_102 : decode cX11_digest 102 = .ok (.iload_n 3, 1) := by decide +kernel
theorem dX11_digest_103 : decode cX11_digest 103 = .ok (.aload_n 0, 1) := by decide +kernel
theorem dX11_digest_104 : decode cX11_digest 104 = .ok (.getfield 10, 3) := by decide +kernel
theorem dX11_digest_107 : decode cX11_digest 107 = .ok (.getfield 105, 3) := by decide +kernel
theorem dX11_digest_110 : decode cX11_digest 110 = .ok (.if_icmp .ge 26, 3) := by decide +kernel
theorem dX11_digest_113 : decode cX11_digest 113 = .ok (.ldc2_w 251, 3) := by decide +kernel
theorem dX11_digest_116 : decode cX11_digest 116 = .ok (.lload_n 1, 1) := by decide +kernel
theorem dX11_digest_117 : decode cX11_digest 117 = .ok (.lmul, 1) := by decide +kernel
theorem dX11_digest_118 : decode cX11_digest 118 = .ok (.aload_n 0, 1) := by decide +kernel
theorem dX11_digest_119 : decode cX11_digest 119 = .ok (.getfield 10, 3) := by decide +kernel
theorem dX11_digest_122 : decode cX11_digest 122 = .ok (.getfield 114, 3) := by decide +kernel
theorem dX11_digest_125 : decode cX11_digest 125 = .ok (.iload_n 3, 1) := by decide +kernel
theorem dX11_digest_126 : decode cX11_digest 126 = .ok (.iaload, 1) := by decide +kernel
theorem dX11_digest_127 : decode cX11_digest 127 = .ok (.i2l, 1) := by decide +kernel
theorem dX11_digest_128 : decode cX11_digest 128 = .ok (.ladd, 1) := by decide +kernel
theorem dX11_digest_129 : decode cX11_digest 129 = .ok (.lstore_n 1, 1) := by decide +kernel
theorem dX11_digest_130 : decode cX11_digest 130 = .ok (.iinc 3 1, 3) := by decide +kernel
theorem dX11_digest_133 : decode cX11_digest 133 = .ok (.goto (-31), 3) := by decide +kernel
theorem dX11_digest_136 : decode cX11_digest 136 = .ok (.aload_n 0, 1) := by decide +kernel
theorem dX11_digest_137 : decode cX11_digest 137 = .ok (.invokevirtual 120, 3) := by decide +kernel
theorem dX11_digest_140 : decode cX11_digest 140 = .ok (.ifCond .ne 5, 3) := by decide +kernel
theorem dX11_digest_143 : decode cX11_digest 143 = .ok (.lload_n 1, 1) := by decide +kernel
theorem dX11_digest_144 : decode cX11_digest 144 = .ok (.lreturn, 1) := by decide +kernel
theorem dX11_digest_145 : decode cX11_digest 145 = .ok (.ldc2_w 251, 3) := by decide +kernel
theorem dX11_digest_148 : decode cX11_digest 148 = .ok (.lload_n 1, 1) := by decide +kernel
theorem dX11_digest_149 : decode cX11_digest 149 = .ok (.lmul, 1) := by decide +kernel
theorem dX11_digest_150 : decode cX11_digest 150 = .ok (.aload_n 0, 1) := by decide +kernel
theorem dX11_digest_151 : decode cX11_digest 151 = .ok (.getfield 26, 3) := by decide +kernel
theorem dX11_digest_154 : decode cX11_digest 154 = .ok (.getfield 128, 3) := by decide +kernel
theorem dX11_digest_157 : decode cX11_digest 157 = .ok (.i2l, 1) := by decide +kernel
theorem dX11_digest_158 : decode cX11_digest 158 = .ok (.ladd, 1) := by decide +kernel
theorem dX11_digest_159 : decode cX11_digest 159 = .ok (.lstore_n 1, 1) := by decide +kernel
theorem dX11_digest_160 : decode cX11_digest 160 = .ok (.iconst 0, 1) := by decide +kernel
theorem dX11_digest_161 : decode cX11_digest 161 = .ok (.istore_n 3, 1) := by decide +kernel
theorem dX11_digest_162 : decode cX11_digest 162 = .ok (.iload_n 3, 1) := by decide +kernel
theorem dX11_digest_163 : decode cX11_digest 163 = .ok (.iconst 4, 1) := by decide +kernel
theorem dX11_digest_164 : decode cX11_digest 164 = .ok (.if_icmp .gt 37, 3) := by decide +kernel
theorem dX11_digest_167 : decode cX11_digest 167 = .ok (.ldc2_w 251, 3) := by decide +kernel
theorem dX11_digest_170 : decode cX11_digest 170 = .ok (.lload_n 1, 1) := by decide +kernel
theorem dX11_digest_171 : decode cX11_digest 171 = .ok (.lmul, 1) := by decide +kernel
theorem dX11_digest_172 : decode cX11_digest 172 = .ok (.aload_n 0, 1) := by decide +kernel
theorem dX11_digest_173 : decode cX11_digest 173 = .ok (.getfield 26, 3) := by decide +kernel
theorem dX11_digest_176 : decode cX11_digest 176 = .ok (.aload_n 0, 1) := by decide +kernel
theorem dX11_digest_177 : decode cX11_digest 177 = .ok (.getfield 58, 3) := by decide +kernel
theorem dX11_digest_180 : decode cX11_digest 180 = .ok (.iload_n 3, 1) := by decide +kernel
theorem dX11_digest_181 : decode cX11_digest 181 = .ok (.aaload, 1) := by decide +kernel
theorem dX11_digest_182 : decode cX11_digest 182 = .ok (.aload_n 0, 1) := by decide +kernel
theorem dX11_digest_183 : decode cX11_digest 183 = .ok (.getfield 26, 3) := by decide +kernel
theorem dX11_digest_186 : decode cX11_digest 186 = .ok (.getfield 128, 3) := by decide +kernel
theorem dX11_digest_189 : decode cX11_digest 189 = .ok (.invokevirtual 131, 3) := by decide +kernel
theorem dX11_digest_192 : decode cX11_digest 192 = .ok (.i2l, 1) := by decide +kernel
theorem dX11_digest_193 : decode cX11_digest 193 = .ok (.ladd, 1) := by decide +kernel
theorem dX11_digest_194 : decode cX11_digest 194 = .ok (.lstore_n 1, 1) := by decide +kernel
theorem dX11_digest_195 : decode cX11_digest 195 = .ok (.iinc 3 1, 3) := by decide +kernel
theorem dX11_digest_198 : decode cX11_digest 198 = .ok (.goto (-36), 3) := by decide +kernel
theorem dX11_digest_201 : decode cX11_digest 201 = .ok (.ldc2_w 251, 3) := by decide +kernel
theorem dX11_digest_204 : decode cX11_digest 204 = .ok (.lload_n 1, 1) := by decide +kernel
theorem dX11_digest_205 : decode cX11_digest 205 = .ok (.lmul, 1) := by decide +kernel
theorem dX11_digest_206 : decode cX11_digest 206 = .ok (.aload_n 0, 1) := by decide +kernel
theorem dX11_digest_207 : decode cX11_digest 207 = .ok (.getfield 65, 3) := by decide +kernel
theorem dX11_digest_210 : decode cX11_digest 210 = .ok (.aload_n 0, 1) := by decide +kernel
theorem dX11_digest_211 : decode cX11_digest 211 = .ok (.getfield 26, 3) := by decide +kernel
theorem dX11_digest_214 : decode cX11_digest 214 = .ok (.invokevirtual 141, 3) := by decide +kernel
theorem dX11_digest_217 : decode cX11_digest 217 = .ok (.i2l, 1) := by decide +kernel
theorem dX11_digest_218 : decode cX11_digest 218 = .ok (.ladd, 1) := by decide +kernel
theorem dX11_digest_219 : decode cX11_digest 219 = .ok (.lstore_n 1, 1) := by decide +kernel
theorem dX11_digest_220 : decode cX11_digest 220 = .ok (.ldc2_w 251, 3) := by decide +kernel
theorem dX11_digest_223 : decode cX11_digest 223 = .ok (.lload_n 1, 1) := by decide +kernel
theorem dX11_digest_224 : decode cX11_digest 224 = .ok (.lmul, 1) := by decide +kernel
theorem dX11_digest_225 : decode cX11_digest 225 = .ok (.aload_n 0, 1) := by decide +kernel
theorem dX11_digest_226 : decode cX11_digest 226 = .ok (.getfield 74, 3) := by decide +kernel
theorem dX11_digest_229 : decode cX11_digest 229 = .ok (.aload_n 0, 1) := by decide +kernel
theorem dX11_digest_230 : decode cX11_digest 230 = .ok (.getfield 26, 3) := by decide +kernel
theorem dX11_digest_233 : decode cX11_digest 233 = .ok (.invokevirtual 180, 3) := by decide +kernel
theorem dX11_digest_236 : decode cX11_digest 236 = .ok (.i2l, 1) := by decide +kernel
theorem dX11_digest_237 : decode cX11_digest 237 = .ok (.ladd, 1) := by decide +kernel
theorem dX11_digest_238 : decode cX11_digest 238 = .ok (.lreturn, 1) := by decide +kernel
theorem dX11_isWithin_0 : decode cX11_isWithin 0 = .ok (.iload_n 0, 1) := by decide +kernel
theorem dX11_isWithin_1 : decode cX11_isWithin 1 = .ok (.iload_n 1, 1) := by decide +kernel
theorem dX11_isWithin_2 : decode cX11_isWithin 2 = .ok (.if_icmp .lt 12, 3) := by decide +kernel
theorem dX11_isWithin_5 : decode cX11_isWithin 5 = .ok (.iload_n 0, 1) := by decide +kernel
theorem dX11_isWithin_6 : decode cX11_isWithin 6 = .ok (.iload_n 2, 1) := by decide +kernel
theorem dX11_isWithin_7 : decode cX11_isWithin 7 = .ok (.if_icmp .gt 7, 3) := by decide +kernel
theorem dX11_isWithin_10 : decode cX11_isWithin 10 = .ok (.iconst 1, 1) := by decide +kernel
theorem dX11_isWithin_11 : decode cX11_isWithin 11 = .ok (.goto 4, 3) := by decide +kernel
theorem dX11_isWithin_14 : decode cX11_isWithin 14 = .ok (.iconst 0, 1) := by decide +kernel
theorem dX11_isWithin_15 : decode cX11_isWithin 15 = .ok (.ireturn, 1) := by decide +kernel
theorem dX11_isPoint_0 : decode cX11_isPoint 0 = .ok (.iload_n 1, 1) := by decide +kernel
theorem dX11_isPoint_1 : decode cX11_isPoint 1 = .ok (.iconst 0, 1) := by decide +kernel
theorem dX11_isPoint_2 : decode cX11_isPoint 2 = .ok (.aload_n 0, 1) := by decide +kernel
theorem dX11_isPoint_3 : decode cX11_isPoint 3 = .ok (.getfield 10, 3) := by decide +kernel
theorem dX11_isPoint_6 : decode cX11_isPoint 6 = .ok (.getfield 89, 3) := by decide +kernel
theorem dX11_isPoint_9 : decode cX11_isPoint 9 = .ok (.iconst 1, 1) := by decide +kernel
theorem dX11_isPoint_10 : decode cX11_isPoint 10 = .ok (.isub, 1) := by decide +kernel
theorem dX11_isPoint_11 : decode cX11_isPoint 11 = .ok (.invokestatic 85, 3) := by decide +kernel
theorem dX11_isPoint_14 : decode cX11_isPoint 14 = .ok (.ireturn, 1) := by decide +kernel
theorem dX11_isServer_0 : decode cX11_isServer 0 = .ok (.iload_n 1, 1) := by decide +kernel
theorem dX11_isServer_1 : decode cX11_isServer 1 = .ok (.iconst 0, 1) := by decide +kernel
theorem dX11_isServer_2 : decode cX11_isServer 2 = .ok (.aload_n 0, 1) := by decide +kernel
theorem dX11_isServer_3 : decode cX11_isServer 3 = .ok (.getfield 10, 3) := by decide +kernel
theorem dX11_isServer_6 : decode cX11_isServer 6 = .ok (.getfield 105, 3) := by decide +kernel
theorem dX11_isServer_9 : decode cX11_isServer 9 = .ok (.iconst 1, 1) := by decide +kernel
theorem dX11_isServer_10 : decode cX11_isServer 10 = .ok (.isub, 1) := by decide +kernel
theorem dX11_isServer_11 : decode cX11_isServer 11 = .ok (.invokestatic 85, 3) := by decide +kernel
theorem dX11_isServer_14 : decode cX11_isServer 14 = .ok (.ireturn, 1) := by decide +kernel
theorem dX11_isSheet_0 : decode cX11_isSheet 0 = .ok (.iload_n 0, 1) := by decide +kernel
theorem dX11_isSheet_1 : decode cX11_isSheet 1 = .ok (.iconst 0, 1) := by decide +kernel
theorem dX11_isSheet_2 : decode cX11_isSheet 2 = .ok (.iconst 3, 1) := by decide +kernel
theorem dX11_isSheet_3 : decode cX11_isSheet 3 = .ok (.invokestatic 85, 3) := by decide +kernel
theorem dX11_isSheet_6 : decode cX11_isSheet 6 = .ok (.ireturn, 1) := by decide +kernel
theorem dX11_isForm_0 : decode cX11_isForm 0 = .ok (.iload_n 0, 1) := by decide +kernel
theorem dX11_isForm_1 : decode cX11_isForm 1 = .ok (.iconst 0, 1) := by decide +kernel
theorem dX11_isForm_2 : decode cX11_isForm 2 = .ok (.iconst 2, 1) := by decide +kernel
theorem dX11_isForm_3 : decode cX11_isForm 3 = .ok (.invokestatic 85, 3) := by decide +kernel
theorem dX11_isForm_6 : decode cX11_isForm 6 = .ok (.ireturn, 1) := by decide +kernel
theorem dX11_isStandingPoint_0 : decode cX11_isStandingPoint 0 = .ok (.aload_n 0, 1) := by decide +kernel
theorem dX11_isStandingPoint_1 : decode cX11_isStandingPoint 1 = .ok (.iload_n 1, 1) := by decide +kernel
theorem dX11_isStandingPoint_2 : decode cX11_isStandingPoint 2 = .ok (.invokevirtual 111, 3) := by decide +kernel
theorem dX11_isStandingPoint_5 : decode cX11_isStandingPoint 5 = .ok (.ifCond .eq 11, 3) := by decide +kernel
theorem dX11_isStandingPoint_8 : decode cX11_isStandingPoint 8 = .ok (.aload_n 0, 1) := by decide +kernel
theorem dX11_isStandingPoint_9 : decode cX11_isStandingPoint 9 = .ok (.iload_n 2, 1) := by decide +kernel
theorem dX11_isStandingPoint_10 : decode cX11_isStandingPoint 10 = .ok (.invokevirtual 97, 3) := by decide +kernel
theorem dX11_isStandingPoint_13 : decode cX11_isStandingPoint 13 = .ok (.goto 9, 3) := by decide +kernel
theorem dX11_isStandingPoint_16 : decode cX11_isStandingPoint 16 = .ok (.iload_n 2, 1) := by decide +kernel
theorem dX11_isStandingPoint_17 : decode cX11_isStandingPoint 17 = .ok (.iconst 0, 1) := by decide +kernel
theorem dX11_isStandingPoint_18 : decode cX11_isStandingPoint 18 = .ok (.iconst 5, 1) := by decide +kernel
theorem dX11_isStandingPoint_19 : decode cX11_isStandingPoint 19 = .ok (.invokestatic 85, 3) := by decide +kernel
theorem dX11_isStandingPoint_22 : decode cX11_isStandingPoint 22 = .ok (.ireturn, 1) := by decide +kernel
theorem dX11_readRow_0 : decode cX11_readRow 0 = .ok (.aload_n 0, 1) := by decide +kernel
theorem dX11_readRow_1 : decode cX11_readRow 1 = .ok (.getfield 26, 3) := by decide +kernel
theorem dX11_readRow_4 : decode cX11_readRow 4 = .ok (.aload_n 0, 1) := by decide +kernel
theorem dX11_readRow_5 : decode cX11_readRow 5 = .ok (.getfield 19, 3) := by decide +kernel
theorem dX11_readRow_8 : decode cX11_readRow 8 = .ok (.aload_n 0, 1) := by decide +kernel
theorem dX11_readRow_9 : decode cX11_readRow 9 = .ok (.getfield 10, 3) := by decide +kernel
theorem dX11_readRow_12 : decode cX11_readRow 12 = .ok (.invokevirtual 253, 3) := by decide +kernel
theorem dX11_readRow_15 : decode cX11_readRow 15 = .ok (.ireturn, 1) := by decide +kernel
theorem dX11_sentAt_0 : decode cX11_sentAt 0 = .ok (.iload_n 2, 1) := by decide +kernel
theorem dX11_sentAt_1 : decode cX11_sentAt 1 = .ok (.aload_n 0, 1) := by decide +kernel
theorem dX11_sentAt_2 : decode cX11_sentAt 2 = .ok (.getfield 26, 3) := by decide +kernel
theorem dX11_sentAt_5 : decode cX11_sentAt 5 = .ok (.getfield 128, 3) := by decide +kernel
theorem dX11_sentAt_8 : decode cX11_sentAt 8 = .ok (.if_icmp .lt 5, 3) := by decide +kernel
theorem dX11_sentAt_11 : decode cX11_sentAt 11 = .ok (.iconst (-1), 1) := by decide +kernel
theorem dX11_sentAt_12 : decode cX11_sentAt 12 = .ok (.ireturn, 1) := by decide +kernel
theorem dX11_sentAt_13 : decode cX11_sentAt 13 = .ok (.aload_n 0, 1) := by decide +kernel
theorem dX11_sentAt_14 : decode cX11_sentAt 14 = .ok (.getfield 26, 3) := by decide +kernel
theorem dX11_sentAt_17 : decode cX11_sentAt 17 = .ok (.aload_n 1, 1) := by decide +kernel
theorem dX11_sentAt_18 : decode cX11_sentAt 18 = .ok (.iload_n 2, 1) := by decide +kernel
theorem dX11_sentAt_19 : decode cX11_sentAt 19 = .ok (.iconst 1, 1) := by decide +kernel
theorem dX11_sentAt_20 : decode cX11_sentAt 20 = .ok (.iadd, 1) := by decide +kernel
theorem dX11_sentAt_21 : decode cX11_sentAt 21 = .ok (.invokevirtual 131, 3) := by decide +kernel
theorem dX11_sentAt_24 : decode cX11_sentAt 24 = .ok (.pop, 1) := by decide +kernel
theorem dX11_sentAt_25 : decode cX11_sentAt 25 = .ok (.aload_n 1, 1) := by decide +kernel
theorem dX11_sentAt_26 : decode cX11_sentAt 26 = .ok (.getfield 257, 3) := by decide +kernel
theorem dX11_sentAt_29 : decode cX11_sentAt 29 = .ok (.ireturn, 1) := by decide +kernel
theorem dX11_hundredths_0 : decode cX11_hundredths 0 = .ok (.iload_n 1, 1) := by decide +kernel
theorem dX11_hundredths_1 : decode cX11_hundredths 1 = .ok (.ifCond .le 12, 3) := by decide +kernel
theorem dX11_hundredths_4 : decode cX11_hundredths 4 = .ok (.iload_n 0, 1) := by decide +kernel
theorem dX11_hundredths_5 : decode cX11_hundredths 5 = .ok (.bipush 100, 2) := by decide +kernel
theorem dX11_hundredths_7 : decode cX11_hundredths 7 = .ok (.imul, 1) := by decide +kernel
theorem dX11_hundredths_8 : decode cX11_hundredths 8 = .ok (.iload_n 1, 1) := by decide +kernel
theorem dX11_hundredths_9 : decode cX11_hundredths 9 = .ok (.idiv, 1) := by decide +kernel
theorem dX11_hundredths_10 : decode cX11_hundredths 10 = .ok (.goto 5, 3) := by decide +kernel
theorem dX11_hundredths_13 : decode cX11_hundredths 13 = .ok (.bipush (-3), 2) := by decide +kernel
theorem dX11_hundredths_15 : decode cX11_hundredths 15 = .ok (.ireturn, 1) := by decide +kernel
theorem dX11_itemRefusal_0 : decode cX11_itemRefusal 0 = .ok (.iload_n 1, 1) := by decide +kernel
theorem dX11_itemRefusal_1 : decode cX11_itemRefusal 1 = .ok (.invokestatic 183, 3) := by decide +kernel
theorem dX11_itemRefusal_4 : decode cX11_itemRefusal 4 = .ok (.ifCond .eq 10, 3) := by decide +kernel
theorem dX11_itemRefusal_7 : decode cX11_itemRefusal 7 = .ok (.iload_n 2, 1) := by decide +kernel
theorem dX11_itemRefusal_8 : decode cX11_itemRefusal 8 = .ok (.invokestatic 186, 3) := by decide +kernel
theorem dX11_itemRefusal_11 : decode cX11_itemRefusal 11 = .ok (.ifCond .ne 6, 3) := by decide +kernel
theorem dX11_itemRefusal_14 : decode cX11_itemRefusal 14 = .ok (.bipush (-2), 2) := by decide +kernel
theorem dX11_itemRefusal_16 : decode cX11_itemRefusal 16 = .ok (.ireturn, 1) := by decide +kernel
theorem dX11_itemRefusal_17 : decode cX11_itemRefusal 17 = .ok (.aload_n 0, 1) := by decide +kernel
theorem dX11_itemRefusal_18 : decode cX11_itemRefusal 18 = .ok (.getfield 19, 3) := by decide +kernel
theorem dX11_itemRefusal_21 : decode cX11_itemRefusal 21 = .ok (.iload_n 1, 1) := by decide +kernel
theorem dX11_itemRefusal_22 : decode cX11_itemRefusal 22 = .ok (.invokevirtual 193, 3) := by decide +kernel
theorem dX11_itemRefusal_25 : decode cX11_itemRefusal 25 = .ok (.ifCond .eq 12, 3) := by decide +kernel
theorem dX11_itemRefusal_28 : decode cX11_itemRefusal 28 = .ok (.aload_n 0, 1) := by decide +kernel
theorem dX11_itemRefusal_29 : decode cX11_itemRefusal 29 = .ok (.getfield 19, 3) := by decide +kernel
theorem dX11_itemRefusal_32 : decode cX11_itemRefusal 32 = .ok (.iconst 1, 1) := by decide +kernel
theorem dX11_itemRefusal_33 : decode cX11_itemRefusal 33 = .ok (.invokevirtual 124, 3) := by decide +kernel
theorem dX11_itemRefusal_36 : decode cX11_itemRefusal 36 = .ok (.ireturn, 1) := by decide +kernel
theorem dX11_itemRefusal_37 : decode cX11_itemRefusal 37 = .ok (.aload_n 0, 1) := by decide +kernel
theorem dX11_itemRefusal_38 : decode cX11_itemRefusal 38 = .ok (.getfield 19, 3) := by decide +kernel
theorem dX11_itemRefusal_41 : decode cX11_itemRefusal 41 = .ok (.getfield 213, 3) := by decide +kernel
theorem dX11_itemRefusal_44 : decode cX11_itemRefusal 44 = .ok (.iload_n 1, 1) := by decide +kernel
theorem dX11_itemRefusal_45 : decode cX11_itemRefusal 45 = .ok (.iaload, 1) := by decide +kernel
theorem dX11_itemRefusal_46 : decode cX11_itemRefusal 46 = .ok (.iload_n 2, 1) := by decide +kernel
theorem dX11_itemRefusal_47 : decode cX11_itemRefusal 47 = .ok (.if_icmp .eq 12, 3) := by decide +kernel
theorem dX11_itemRefusal_50 : decode cX11_itemRefusal 50 = .ok (.aload_n 0, 1) := by decide +kernel
theorem dX11_itemRefusal_51 : decode cX11_itemRefusal 51 = .ok (.getfield 19, 3) := by decide +kernel
theorem dX11_itemRefusal_54 : decode cX11_itemRefusal 54 = .ok (.iconst 3, 1) := by decide +kernel
theorem dX11_itemRefusal_55 : decode cX11_itemRefusal 55 = .ok (.invokevirtual 124, 3) := by decide +kernel
theorem dX11_itemRefusal_58 : decode cX11_itemRefusal 58 = .ok (.ireturn, 1) := by decide +kernel
theorem dX11_itemRefusal_59 : decode cX11_itemRefusal 59 = .ok (.aload_n 0, 1) := by decide +kernel
theorem dX11_itemRefusal_60 : decode cX11_itemRefusal 60 = .ok (.getfield 19, 3) := by decide +kernel
theorem dX11_itemRefusal_63 : decode cX11_itemRefusal 63 = .ok (.iload_n 1, 1) := by decide +kernel
theorem dX11_itemRefusal_64 : decode cX11_itemRefusal 64 = .ok (.iload_n 3, 1) := by decide +kernel
theorem dX11_itemRefusal_65 : decode cX11_itemRefusal 65 = .ok (.iconst 1, 1) := by decide +kernel
theorem dX11_itemRefusal_66 : decode cX11_itemRefusal 66 = .ok (.invokevirtual 216, 3) := by decide +kernel
theorem dX11_itemRefusal_69 : decode cX11_itemRefusal 69 = .ok (.ifCond .ne 12, 3) := by decide +kernel
theorem dX11_itemRefusal_72 : decode cX11_itemRefusal 72 = .ok (.aload_n 0, 1) := by decide +kernel
theorem dX11_itemRefusal_73 : decode cX11_itemRefusal 73 = .ok (.getfield 19, 3) := by decide +kernel
theorem dX11_itemRefusal_76 : decode cX11_itemRefusal 76 = .ok (.iconst 2, 1) := by decide +kernel
theorem dX11_itemRefusal_77 : decode cX11_itemRefusal 77 = .ok (.invokevirtual 124, 3) := by decide +kernel
theorem dX11_itemRefusal_80 : decode cX11_itemRefusal 80 = .ok (.ireturn, 1) := by decide +kernel
theorem dX11_itemRefusal_81 : decode cX11_itemRefusal 81 = .ok (.iconst 0, 1) := by decide +kernel
theorem dX11_itemRefusal_82 : decode cX11_itemRefusal 82 = .ok (.ireturn, 1) := by decide +kernel
theorem dX12_init_0 : decode cX12_init 0 = .ok (.aload_n 0, 1) := by decide +kernel
theorem dX12_init_1 : decode cX12_init 1 = .ok (.invokespecial 1, 3) := by decide +kernel
theorem dX12_init_4 : decode cX12_init 4 = .ok (.aload_n 0, 1) := by decide +kernel
theorem dX12_init_5 : decode cX12_init 5 = .ok (.iconst 1, 1) := by decide +kernel
theorem dX12_init_6 : decode cX12_init 6 = .ok (.putfield 7, 3) := by decide +kernel
theorem dX12_init_9 : decode cX12_init 9 = .ok (.aload_n 0, 1) := by decide +kernel
theorem dX12_init_10 : decode cX12_init 10 = .ok (.bipush 6, 2) := by decide +kernel
theorem dX12_init_12 : decode cX12_init 12 = .ok (.newarray .int, 2) := by decide +kernel
theorem dX12_init_14 : decode cX12_init 14 = .ok (.putfield 13, 3) := by decide +kernel
theorem dX12_init_17 : decode cX12_init 17 = .ok (.aload_n 0, 1) := by decide +kernel
theorem dX12_init_18 : decode cX12_init 18 = .ok (.iconst 1, 1) := by decide +kernel
theorem dX12_init_19 : decode cX12_init 19 = .ok (.putfield 17, 3) := by decide +kernel
theorem dX12_init_22 : decode cX12_init 22 = .ok (.aload_n 0, 1) := by decide +kernel
theorem dX12_init_23 : decode cX12_init 23 = .ok (.iconst 3, 1) := by decide +kernel
theorem dX12_init_24 : decode cX12_init 24 = .ok (.newarray .int, 2) := by decide +kernel
theorem dX12_init_26 : decode cX12_init 26 = .ok (.putfield 20, 3) := by decide +kernel
theorem dX12_init_29 : decode cX12_init 29 = .ok (.aload_n 0, 1) := by decide +kernel
theorem dX12_init_30 : decode cX12_init 30 = .ok (.iconst 2, 1) := by decide +kernel
theorem dX12_init_31 : decode cX12_init 31 = .ok (.putfield 23, 3) := by decide +kernel
theorem dX12_init_34 : decode cX12_init 34 = .ok (.aload_n 0, 1) := by decide +kernel
theorem dX12_init_35 : decode cX12_init 35 = .ok (.bipush 40, 2) := by decide +kernel
theorem dX12_init_37 : decode cX12_init 37 = .ok (.newarray .int, 2) := by decide +kernel
theorem dX12_init_39 : decode cX12_init 39 = .ok (.putfield 26, 3) := by decide +kernel
theorem dX12_init_42 : decode cX12_init 42 = .ok (.aload_n 0, 1) := by decide +kernel
theorem dX12_init_43 : decode cX12_init 43 = .ok (.sipush 8856, 3) := by decide +kernel
theorem dX12_init_46 : decode cX12_init 46 = .ok (.newarray .int, 2) := by decide +kernel
theorem dX12_init_48 : decode cX12_init 48 = .ok (.putfield 29, 3) := by decide +kernel
theorem dX12_init_51 : decode cX12_init 51 = .ok (.aload_n 0, 1) := by decide +kernel
theorem dX12_init_52 : decode cX12_init 52 = .ok (.bipush 40, 2) := by decide +kernel
theorem dX12_init_54 : decode cX12_init 54 = .ok (.newarray .int, 2) := by decide +kernel
theorem dX12_init_56 : decode cX12_init 56 = .ok (.putfield 32, 3) := by decide +kernel
theorem dX12_init_59 : decode cX12_init 59 = .ok (.aload_n 0, 1) := by decide +kernel
theorem dX12_init_60 : decode cX12_init 60 = .ok (.iconst 3, 1) := by decide +kernel
theorem dX12_init_61 : decode cX12_init 61 = .ok (.newarray .int, 2) := by decide +kernel
theorem dX12_init_63 : decode cX12_init 63 = .ok (.putfield 35, 3) := by decide +kernel
theorem dX12_init_66 : decode cX12_init 66 = .ok (.aload_n 0, 1) := by decide +kernel
theorem dX12_init_67 : decode cX12_init 67 = .ok (.sipush 216, 3) := by decide +kernel
theorem dX12_init_70 : decode cX12_init 70 = .ok (.newarray .int, 2) := by decide +kernel
theorem dX12_init_72 : decode cX12_init 72 = .ok (.putfield 38, 3) := by decide +kernel
theorem dX12_init_75 : decode cX12_init 75 = .ok (.aload_n 0, 1) := by decide +kernel
theorem dX12_init_76 : decode cX12_init 76 = .ok (.sipush 216, 3) := by decide +kernel
theorem dX12_init_79 : decode cX12_init 79 = .ok (.newarray .int, 2) := by decide +kernel
theorem dX12_init_81 : decode cX12_init 81 = .ok (.putfield 41, 3) := by decide +kernel
theorem dX12_init_84 : decode cX12_init 84 = .ok (.aload_n 0, 1) := by decide +kernel
theorem dX12_init_85 : decode cX12_init 85 = .ok (.iconst 3, 1) := by decide +kernel
theorem dX12_init_86 : decode cX12_init 86 = .ok (.newarray .int, 2) := by decide +kernel
theorem dX12_init_88 : decode cX12_init 88 = .ok (.putfield 44, 3) := by decide +kernel
theorem dX12_init_91 : decode cX12_init 91 = .ok (.aload_n 0, 1) := by decide +kernel
theorem dX12_init_92 : decode cX12_init 92 = .ok (.iconst 3, 1) := by decide +kernel
theorem dX12_init_93 : decode cX12_init 93 = .ok (.newarray .int, 2) := by decide +kernel
theorem dX12_init_95 : decode cX12_init 95 = .ok (.putfield 47, 3) := by decide +kernel
theorem dX12_init_98 : decode cX12_init 98 = .ok (.aload_n 0, 1) := by decide +kernel
theorem dX12_init_99 : decode cX12_init 99 = .ok (.iconst 3, 1) := by decide +kernel
theorem dX12_init_100 : decode cX12_init 100 = .ok (.newarray .int, 2) := by decide +kernel
theorem dX12_init_102 : decode cX12_init 102 = .ok (.putfield 50, 3) := by decide +kernel
theorem dX12_init_105 : decode cX12_init 105 = .ok (.aload_n 0, 1) := by decide +kernel
theorem dX12_init_106 : decode cX12_init 106 = .ok (.iconst 4, 1) := by decide +kernel
theorem dX12_init_107 : decode cX12_init 107 = .ok (.newarray .boolean, 2) := by decide +kernel
theorem dX12_init_109 : decode cX12_init 109 = .ok (.putfield 53, 3) := by decide +kernel
theorem dX12_init_112 : decode cX12_init 112 = .ok (.aload_n 0, 1) := by decide +kernel
theorem dX12_init_113 : decode cX12_init 113 = .ok (.iconst 4, 1) := by decide +kernel
theorem dX12_init_114 : decode cX12_init 114 = .ok (.newarray .int, 2) := by decide +kernel
theorem dX12_init_116 : decode cX12_init 116 = .ok (.putfield 57, 3) := by decide +kernel
theorem dX12_init_119 : decode cX12_init 119 = .ok (.aload_n 0, 1) := by decide +kernel
theorem dX12_init_120 : decode cX12_init 120 = .ok (.iconst 4, 1) := by decide +kernel
theorem dX12_init_121 : decode cX12_init 121 = .ok (.newarray .int, 2) := by decide +kernel
theorem dX12_init_123 : decode cX12_init 123 = .ok (.putfield 60, 3) := by decide +kernel
theorem dX12_init_126 : decode cX12_init 126 = .ok (.aload_n 0, 1) := by decide +kernel
theorem dX12_init_127 : decode cX12_init 127 = .ok (.sipush 160, 3) := by decide +kernel
theorem dX12_init_130 : decode cX12_init 130 = .ok (.newarray .int, 2) := by decide +kernel
theorem dX12_init_132 : decode cX12_init 132 = .ok (.putfield 63, 3) := by decide +kernel
theorem dX12_init_135 : decode cX12_init 135 = .ok (.aload_n 0, 1) := by decide +kernel
theorem dX12_init_136 : decode cX12_init 136 = .ok (.bipush 40, 2) := by decide +kernel
theorem dX12_init_138 : decode cX12_init 138 = .ok (.newarray .int, 2) := by decide +kernel
theorem dX12_init_140 : decode cX12_init 140 = .ok (.putfield 66, 3) := by decide +kernel
theorem dX12_init_143 : decode cX12_init 143 = .ok (.return_, 1) := by decide +kernel
theorem dX12_in_0 : decode cX12_in 0 = .ok (.iload_n 0, 1) := by decide +kernel
theorem dX12_in_1 : decode cX12_in 1 = .ok (.iload_n 1, 1) := by decide +kernel
theorem dX12_in_2 : decode cX12_in 2 = .ok (.if_icmp .lt 12, 3) := by decide +kernel
theorem dX12_in_5 : decode cX12_in 5 = .ok (.iload_n 0, 1) := by decide +kernel
theorem dX12_in_6 : decode cX12_in 6 = .ok (.iload_n 2, 1) := by decide +kernel
theorem dX12_in_7 : decode cX12_in 7 = .ok (.if_icmp .gt 7, 3) := by decide +kernel
theorem dX12_in_10 : decode cX12_in 10 = .ok (.iconst 1, 1) := by decide +kernel
theorem dX12_in_11 : decode cX12_in 11 = .ok (.goto 4, 3) := by decide +kernel
theorem dX12_in_14 : decode cX12_in 14 = .ok (.iconst 0, 1) := by decide +kernel
theorem dX12_in_15 : decode cX12_in 15 = .ok (.ireturn, 1) := by decide +kernel
theorem dX12_apart_0 : decode cX12_apart 0 = .ok (.iload_n 0, 1) := by decide +kernel
theorem dX12_apart_1 : decode cX12_apart 1 = .ok (.iload_n 1, 1) := by decide +kernel
theorem dX12_apart_2 : decode cX12_apart 2 = .ok (.if_icmp .ge 9, 3) := by decide +kernel
theorem dX12_apart_5 : decode cX12_apart 5 = .ok (.iload_n 1, 1) := by decide +kernel
theorem dX12_apart_6 : decode cX12_apart 6 = .ok (.iload_n 0, 1) := by decide +kernel
theorem dX12_apart_7 : decode cX12_apart 7 = .ok (.isub, 1) := by decide +kernel
theorem dX12_apart_8 : decode cX12_apart 8 = .ok (.goto 6, 3) := by decide +kernel
theorem dX12_apart_11 : decode cX12_apart 11 = .ok (.iload_n 0, 1) := by decide +kernel
theorem dX12_apart_12 : decode cX12_apart 12 = .ok (.iload_n 1, 1) := by decide +kernel
theorem dX12_apart_13 : decode cX12_apart 13 = .ok (.isub, 1) := by decide +kernel
theorem dX12_apart_14 : decode cX12_apart 14 = .ok (.ireturn, 1) := by decide +kernel
theorem dX12_points_0 : decode cX12_points 0 = .ok (.iload_n 1, 1) := by decide +kernel
theorem dX12_points_1 : decode cX12_points 1 = .ok (.iconst 1, 1) := by decide +kernel
theorem dX12_points_2 : decode cX12_points 2 = .ok (.bipush 6, 2) := by decide +kernel
theorem dX12_points_4 : decode cX12_points 4 = .ok (.invokestatic 69, 3) := by decide +kernel
theorem dX12_points_7 : decode cX12_points 7 = .ok (.ifCond .ne 6, 3) := by decide +kernel
theorem dX12_points_10 : decode cX12_points 10 = .ok (.bipush (-2), 2) := by decide +kernel
theorem dX12_points_12 : decode cX12_points 12 = .ok (.ireturn, 1) := by decide +kernel
theorem dX12_points_13 : decode cX12_points 13 = .ok (.aload_n 0, 1) := by decide +kernel
theorem dX12_points_14 : decode cX12_points 14 = .ok (.getfield 7, 3) := by decide +kernel
theorem dX12_points_17 : decode cX12_points 17 = .ok (.istore_n 2, 1) := by decide +kernel
theorem dX12_points_18 : decode cX12_points 18 = .ok (.aload_n 0, 1) := by decide +kernel
theorem dX12_points_19 : decode cX12_points 19 = .ok (.iload_n 1, 1) := by decide +kernel
theorem dX12_points_20 : decode cX12_points 20 = .ok (.putfield 7, 3) := by decide +kernel
theorem dX12_points_23 : decode cX12_points 23 = .ok (.iload_n 2, 1) := by decide +kernel
theorem dX12_points_24 : decode cX12_points 24 = .ok (.istore_n 3, 1) := by decide +kernel
theorem dX12_points_25 : decode cX12_points 25 = .ok (.iload_n 3, 1) := by decide +kernel
theorem dX12_points_26 : decode cX12_points 26 = .ok (.iload_n 1, 1) := by decide +kernel
theorem dX12_points_27 : decode cX12_points 27 = .ok (.if_icmp .ge 16, 3) := by decide +kernel
theorem dX12_points_30 : decode cX12_points 30 = .ok (.aload_n 0, 1) := by decide +kernel
theorem dX12_points_31 : decode cX12_points 31 = .ok (.getfield 13, 3) := by decide +kernel
theorem dX12_points_34 : decode cX12_points 34 = .ok (.iload_n 3, 1) := by decide +kernel
theorem dX12_points_35 : decode cX12_points 35 = .ok (.iconst 0, 1) := by decide +kernel
theorem dX12_points_36 : decode cX12_points 36 = .ok (.iastore, 1) := by decide +kernel
theorem dX12_points_37 : decode cX12_points 37 = .ok (.iinc 3 1, 3) := by decide +kernel
theorem dX12_points_40 : decode cX12_points 40 = .ok (.goto (-15), 3) := by decide +kernel
theorem dX12_points_43 : decode cX12_points 43 = .ok (.iconst 0, 1) := by decide +kernel
theorem dX12_points_44 : decode cX12_points 44 = .ok (.istore_n 3, 1) := by decide +kernel
theorem dX12_points_45 : decode cX12_points 45 = .ok (.iload_n 3, 1) := by decide +kernel
theorem dX12_points_46 : decode cX12_points 46 = .ok (.iconst 3, 1) := by decide +kernel
theorem dX12_points_47 : decode cX12_points 47 = .ok (.if_icmp .ge 35, 3) := by decide +kernel
theorem dX12_points_50 : decode cX12_points 50 = .ok (.aload_n 0, 1) := by decide +kernel
theorem dX12_points_51 : decode cX12_points 51 = .ok (.getfield 20, 3) := by decide +kernel
theorem dX12_points_54 : decode cX12_points 54 = .ok (.iload_n 3, 1) := by decide +kernel
theorem dX12_points_55 : decode cX12_points 55 = .ok (.aload_n 0, 1) := by decide +kernel
theorem dX12_points_56 : decode cX12_points 56 = .ok (.getfield 20, 3) := by decide +kernel
theorem dX12_points_59 : decode cX12_points 59 = .ok (.iload_n 3, 1) := by decide +kernel
theorem dX12_points_60 : decode cX12_points 60 = .ok (.iaload, 1) := by decide +kernel
theorem dX12_points_61 : decode cX12_points 61 = .ok (.iload_n 1, 1) := by decide +kernel
theorem dX12_points_62 : decode cX12_points 62 = .ok (.if_icmp .ge 12, 3) := by decide +kernel
theorem dX12_points_65 : decode cX12_points 65 = .ok (.aload_n 0, 1) := by decide +kernel
theorem dX12_points_66 : decode cX12_points 66 = .ok (.getfield 20, 3) := by decide +kernel
theorem dX12_points_69 : decode cX12_points 69 = .ok (.iload_n 3, 1) := by decide +kernel
theorem dX12_points_70 : decode cX12_points 70 = .ok (.iaload, 1) := by decide +kernel
theorem dX12_points_71 : decode cX12_points 71 = .ok (.goto 4, 3) := by decide +kernel
theorem dX12_points_74 : decode cX12_points 74 = .ok (.iconst 0, 1) := by decide +kernel
theorem dX12_points_75 : decode cX12_points 75 = .ok (.iastore, 1) := by decide +kernel
theorem dX12_points_76 : decode cX12_points 76 = .ok (.iinc 3 1, 3) := by decide +kernel
theorem dX12_points_79 : decode cX12_points 79 = .ok (.goto (-34), 3) := by decide +kernel
theorem dX12_points_82 : decode cX12_points 82 = .ok (.iload_n 2, 1) := by decide +kernel
theorem dX12_points_83 : decode cX12_points 83 = .ok (.ireturn, 1) := by decide +kernel
theorem dX12_isPoint_0 : decode cX12_isPoint 0 = .ok (.iload_n 1, 1) := by decide +kernel
theorem dX12_isPoint_1 : decode cX12_isPoint 1 = .ok (.iconst 0, 1) := by decide +kernel
theorem dX12_isPoint_2 : decode cX12_isPoint 2 = .ok (.aload_n 0, 1) := by decide +kernel
theorem dX12_isPoint_3 : decode cX12_isPoint 3 = .ok (.getfield 7, 3) := by decide +kernel
theorem dX12_isPoint_6 : decode cX12_isPoint 6 = .ok (.iconst 1, 1) := by decide +kernel
theorem dX12_isPoint_7 : decode cX12_isPoint 7 = .ok (.isub, 1) := by decide +kernel
theorem dX12_isPoint_8 : decode cX12_isPoint 8 = .ok (.invokestatic 69, 3) := by decide +kernel
theorem dX12_isPoint_11 : decode cX12_isPoint 11 = .ok (.ireturn, 1) := by decide +kernel
theorem dX12_place_0 : decode cX12_place 0 = .ok (.aload_n 0, 1) := by decide +kernel
theorem dX12_place_1 : decode cX12_place 1 = .ok (.iload_n 1, 1) := by decide +kernel
theorem dX12_place_2 : decode cX12_place 2 = .ok (.invokevirtual 73, 3) := by decide +kernel
theorem dX12_place_5 : decode cX12_place 5 = .ok (.ifCond .eq 14, 3) := by decide +kernel
theorem dX12_place_8 : decode cX12_place 8 = .ok (.iload_n 2, 1) := by decide +kernel
theorem dX12_place_9 : decode cX12_place 9 = .ok (.iconst 0, 1) := by decide +kernel
theorem dX12_place_10 : decode cX12_place 10 = .ok (.sipush 1000, 3) := by decide +kernel
theorem dX12_place_13 : decode cX12_place 13 = .ok (.invokestatic 69, 3) := by decide +kernel
theorem dX12_place_16 : decode cX12_place 16 = .ok (.ifCond .ne 6, 3) := by decide +kernel
theorem dX12_place_19 : decode cX12_place 19 = .ok (.bipush (-2), 2) := by decide +kernel
theorem dX12_place_21 : decode cX12_place 21 = .ok (.ireturn, 1) := by decide +kernel
theorem dX12_place_22 : decode cX12_place 22 = .ok (.aload_n 0, 1) := by decide +kernel
theorem dX12_place_23 : decode cX12_place 23 = .ok (.getfield 13, 3) := by decide +kernel
theorem dX12_place_26 : decode cX12_place 26 = .ok (.iload_n 1, 1) := by decide +kernel
theorem dX12_place_27 : decode cX12_place 27 = .ok (.iaload, 1) := by decide +kernel
theorem dX12_place_28 : decode cX12_place 28 = .ok (.istore_n 3, 1) := by decide +kernel
theorem dX12_place_29 : decode cX12_place 29 = .ok (.aload_n 0, 1) := by decide +kernel
theorem dX12_place_30 : decode cX12_place 30 = .ok (.getfield 13, 3) := by decide +kernel
theorem dX12_place_33 : decode cX12_place 33 = .ok (.iload_n 1, 1) := by decide +kernel
theorem dX12_place_34 : decode cX12_place 34 = .ok (.iload_n 2, 1) := by decide +kernel
theorem dX12_place_35 : decode cX12_place 35 = .ok (.iastore, 1) := by decide +kernel
theorem dX12_place_36 : decode cX12_place 36 = .ok (.iload_n 3, 1) := by decide +kernel
theorem dX12_place_37 : decode cX12_place 37 = .ok (.ireturn, 1) := by decide +kernel
theorem dX12_servers_0 : decode cX12_servers 0 = .ok (.iload_n 1, 1) := by decide +kernel
theorem dX12_servers_1 : decode cX12_servers 1 = .ok (.iconst 1, 1) := by decide +kernel
theorem dX12_servers_2 : decode cX12_servers 2 = .ok (.iconst 3, 1) := by decide +kernel
theorem dX12_servers_3 : decode cX12_servers 3 = .ok (.invokestatic 69, 3) := by decide +kernel
theorem dX12_servers_6 : decode cX12_servers 6 = .ok (.ifCond .ne 6, 3) := by decide +kernel
theorem dX12_servers_9 : decode cX12_servers 9 = .ok (.bipush (-2), 2) := by decide +kernel
theorem dX12_servers_11 : decode cX12_servers 11 = .ok (.ireturn, 1) := by decide +kernel
theorem dX12_servers_12 : decode cX12_servers 12 = .ok (.aload_n 0, 1) := by decide +kernel
theorem dX12_servers_13 : decode cX12_servers 13 = .ok (.getfield 17, 3) := by decide +kernel
theorem dX12_servers_16 : decode cX12_servers 16 = .ok (.istore_n 2, 1) := by decide +kernel
theorem dX12_servers_17 : decode cX12_servers 17 = .ok (.aload_n 0, 1) := by decide +kernel
theorem dX12_servers_18 : decode cX12_servers 18 = .ok (.iload_n 1, 1) := by decide +kernel
theorem dX12_servers_19 : decode cX12_servers 19 = .ok (.putfield 17, 3) := by decide +kernel
theorem dX12_servers_22 : decode cX12_servers 22 = .ok (.iload_n 2, 1) := by decide +kernel
theorem dX12_servers_23 : decode cX12_servers 23 = .ok (.istore_n 3, 1) := by decide +kernel
theorem dX12_servers_24 : decode cX12_servers 24 = .ok (.iload_n 3, 1) := by decide +kernel
theorem dX12_servers_25 : decode cX12_servers 25 = .ok (.iload_n 1, 1) := by decide +kernel
theorem dX12_servers_26 : decode cX12_servers 26 = .ok (.if_icmp .ge 16, 3) := by decide +kernel
theorem dX12_servers_29 : decode cX12_servers 29 = .ok (.aload_n 0, 1) := by decide +kernel
theorem dX12_servers_30 : decode cX12_servers 30 = .ok (.getfield 20, 3) := by decide +kernel
theorem dX12_servers_33 : decode cX12_servers 33 = .ok (.iload_n 3, 1) := by decide +kernel
theorem dX12_servers_34 : decode cX12_servers 34 = .ok (.iconst 0, 1) := by decide +kernel
theorem dX12_servers_35 : decode cX12_servers 35 = .ok (.iastore, 1) := by decide +kernel
theorem dX12_servers_36 : decode cX12_servers 36 = .ok (.iinc 3 1, 3) := by decide +kernel
theorem dX12_servers_39 : decode cX12_servers 39 = .ok (.goto (-15), 3) := by decide +kernel
theorem dX12_servers_42 : decode cX12_servers 42 = .ok (.iload_n 2, 1) := by decide +kernel
theorem dX12_servers_43 : decode cX12_servers 43 = .ok (.ireturn, 1) := by decide +kernel
theorem dX12_start_0 : decode cX12_start 0 = .ok (.iload_n 1, 1) := by decide +kernel
theorem dX12_start_1 : decode cX12_start 1 = .ok (.iconst 0, 1) := by decide +kernel
theorem dX12_start_2 : decode cX12_start 2 = .ok (.aload_n 0, 1) := by decide +kernel
theorem dX12_start_3 : decode cX12_start 3 = .ok (.getfield 17, 3) := by decide +kernel
theorem dX12_start_6 : decode cX12_start 6 = .ok (.iconst 1, 1) := by decide +kernel
theorem dX12_start_7 : decode cX12_start 7 = .ok (.isub, 1) := by decide +kernel
theorem dX12_start_8 : decode cX12_start 8 = .ok (.invokestatic 69, 3) := by decide +kernel
theorem dX12_start_11 : decode cX12_start 11 = .ok (.ifCond .eq 11, 3) := by decide +kernel
theorem dX12_start_14 : decode cX12_start 14 = .ok (.aload_n 0, 1) := by decide +kernel
theorem dX12_start_15 : decode cX12_start 15 = .ok (.iload_n 2, 1) := by decide +kernel
theorem dX12_start_16 : decode cX12_start 16 = .ok (.invokevirtual 73, 3) := by decide +kernel
theorem dX12_start_19 : decode cX12_start 19 = .ok (.ifCond .ne 6, 3) := by decide +kernel
theorem dX12_start_22 : decode cX12_start 22 = .ok (.bipush (-2), 2) := by decide +kernel
theorem dX12_start_24 : decode cX12_start 24 = .ok (.ireturn, 1) := by decide +kernel
theorem dX12_start_25 : decode cX12_start 25 = .ok (.aload_n 0, 1) := by decide +kernel
theorem dX12_start_26 : decode cX12_start 26 = .ok (.getfield 20, 3) := by decide +kernel
theorem dX12_start_29 : decode cX12_start 29 = .ok (.iload_n 1, 1) := by decide +kernel
theorem dX12_start_30 : decode cX12_start 30 = .ok (.iaload, 1) := by decide +kernel
theorem dX12_start_31 : decode cX12_start 31 = .ok (.istore_n 3, 1) := by decide +kernel
theorem dX12_start_32 : decode cX12_start 32 = .ok (.aload_n 0, 1) := by decide +kernel
theorem dX12_start_33 : decode cX12_start 33 = .ok (.getfield 20, 3) := by decide +kernel
theorem dX12_start_36 : decode cX12_start 36 = .ok (.iload_n 1, 1) := by decide +kernel
theorem dX12_start_37 : decode cX12_start 37 = .ok (.iload_n 2, 1) := by decide +kernel
theorem dX12_start_38 : decode cX12_start 38 = .ok (.iastore, 1) := by decide +kernel
theorem dX12_start_39 : decode cX12_start 39 = .ok (.iload_n 3, 1) := by decide +kernel
theorem dX12_start_40 : decode cX12_start 40 = .ok (.ireturn, 1) := by decide +kernel
theorem dX12_factor_0 : decode cX12_factor 0 = .ok (.iload_n 1, 1) := by decide +kernel
theorem dX12_factor_1 : decode cX12_factor 1 = .ok (.iconst 1, 1) := by decide +kernel
theorem dX12_factor_2 : decode cX12_factor 2 = .ok (.bipush 9, 2) := by decide +kernel
theorem dX12_factor_4 : decode cX12_factor 4 = .ok (.invokestatic 69, 3) := by decide +kernel
theorem dX12_factor_7 : decode cX12_factor 7 = .ok (.ifCond .ne 6, 3) := by decide +kernel
theorem dX12_factor_10 : decode cX12_factor 10 = .ok (.bipush (-2), 2) := by decide +kernel
theorem dX12_factor_12 : decode cX12_factor 12 = .ok (.ireturn, 1) := by decide +kernel
theorem dX12_factor_13 : decode cX12_factor 13 = .ok (.aload_n 0, 1) := by decide +kernel
theorem dX12_factor_14 : decode cX12_factor 14 = .ok (.getfield 23, 3) := by decide +kernel
theorem dX12_factor_17 : decode cX12_factor 17 = .ok (.istore_n 2, 1) := by decide +kernel
theorem dX12_factor_18 : decode cX12_factor 18 = .ok (.aload_n 0, 1) := by decide +kernel
theorem dX12_factor_19 : decode cX12_factor 19 = .ok (.iload_n 1, 1) := by decide +kernel
theorem dX12_factor_20 : decode cX12_factor 20 = .ok (.putfield 23, 3) := by decide +kernel
theorem dX12_factor_23 : decode cX12_factor 23 = .ok (.iload_n 2, 1) := by decide +kernel
theorem dX12_factor_24 : decode cX12_factor 24 = .ok (.ireturn, 1) := by decide +kernel
theorem dX12_reads_0 : decode cX12_reads 0 = .ok (.aload_n 0, 1) := by decide +kernel
theorem dX12_reads_1 : decode cX12_reads 1 = .ok (.iconst 0, 1) := by decide +kernel
theorem dX12_reads_2 : decode cX12_reads 2 = .ok (.putfield 77, 3) := by decide +kernel
theorem dX12_reads_5 : decode cX12_reads 5 = .ok (.aload_n 0, 1) := by decide +kernel
theorem dX12_reads_6 : decode cX12_reads 6 = .ok (.getfield 53, 3) := by decide +kernel
theorem dX12_reads_9 : decode cX12_reads 9 = .ok (.iconst 0, 1) := by decide +kernel
theorem dX12_reads_10 : decode cX12_reads 10 = .ok (.baload, 1) := by decide +kernel
theorem dX12_reads_11 : decode cX12_reads 11 = .ok (.ifCond .ne 10, 3) := by decide +kernel
theorem dX12_reads_14 : decode cX12_reads 14 = .ok (.aload_n 0, 1) := by decide +kernel
theorem dX12_reads_15 : decode cX12_reads 15 = .ok (.iconst 1, 1) := by decide +kernel
theorem dX12_reads_16 : decode cX12_reads 16 = .ok (.putfield 80, 3) := by decide +kernel
theorem dX12_reads_19 : decode cX12_reads 19 = .ok (.iconst 0, 1) := by decide +kernel
theorem dX12_reads_20 : decode cX12_reads 20 = .ok (.ireturn, 1) := by decide +kernel
theorem dX12_reads_21 : decode cX12_reads 21 = .ok (.iconst 0, 1) := by decide +kernel
theorem dX12_reads_22 : decode cX12_reads 22 = .ok (.istore_n 1, 1) := by decide +kernel
theorem dX12_reads_23 : decode cX12_reads 23 = .ok (.iload_n 1, 1) := by decide +kernel
theorem dX12_reads_24 : decode cX12_reads 24 = .ok (.aload_n 0, 1) := by decide +kernel
theorem dX12_reads_25 : decode cX12_reads 25 = .ok (.getfield 60, 3) := by decide +kernel
theorem dX12_reads_28 : decode cX12_reads 28 = .ok (.iconst 0, 1) := by decide +kernel
theorem dX12_reads_29 : decode cX12_reads 29 = .ok (.iaload, 1) := by decide +kernel
theorem dX12_reads_30 : decode cX12_reads 30 = .ok (.if_icmp .ge 47, 3) := by decide +kernel
theorem dX12_reads_33 : decode cX12_reads 33 = .ok (.aload_n 0, 1) := by decide +kernel
theorem dX12_reads_34 : decode cX12_reads 34 = .ok (.aload_n 0, 1) := by decide +kernel
theorem dX12_reads_35 : decode cX12_reads 35 = .ok (.getfield 63, 3) := by decide +kernel
theorem dX12_reads_38 : decode cX12_reads 38 = .ok (.iload_n 1, 1) := by decide +kernel
theorem dX12_reads_39 : decode cX12_reads 39 = .ok (.iaload, 1) := by decide +kernel
theorem dX12_reads_40 : decode cX12_reads 40 = .ok (.invokevirtual 73, 3) := by decide +kernel
theorem dX12_reads_43 : decode cX12_reads 43 = .ok (.ifCond .eq 28, 3) := by decide +kernel
theorem dX12_reads_46 : decode cX12_reads 46 = .ok (.aload_n 0, 1) := by decide +kernel
theorem dX12_reads_47 : decode cX12_reads 47 = .ok (.getfield 26, 3) := by decide +kernel
theorem dX12_reads_50 : decode cX12_reads 50 = .ok (.aload_n 0, 1) := by decide +kernel
theorem dX12_reads_51 : decode cX12_reads 51 = .ok (.getfield 77, 3) := by decide +kernel
theorem dX12_reads_54 : decode cX12_reads 54 = .ok (.aload_n 0, 1) := by decide +kernel
theorem dX12_reads_55 : decode cX12_reads 55 = .ok (.getfield 63, 3) := by decide +kernel
theorem dX12_reads_58 : decode cX12_reads 58 = .ok (.iload_n 1, 1) := by decide +kernel
theorem dX12_reads_59 : decode cX12_reads 59 = .ok (.iaload, 1) := by decide +kernel
theorem dX12_reads_60 : decode cX12_reads 60 = .ok (.iastore, 1) := by decide +kernel
theorem dX12_reads_61 : decode cX12_reads 61 = .ok (.aload_n 0, 1) := by decide +kernel
theorem dX12_reads_62 : decode cX12_reads 62 = .ok (.dup, 1) := by decide +kernel
theorem dX12_reads_63 : decode cX12_reads 63 = .ok (.getfield 77, 3) := by decide +kernel
theorem dX12_reads_66 : decode cX12_reads 66 = .ok (.iconst 1, 1) := by decide +kernel
theorem dX12_reads_67 : decode cX12_reads 67 = .ok (.iadd, 1) := by decide +kernel
theorem dX12_reads_68 : decode cX12_reads 68 = .ok (.putfield 77, 3) := by decide +kernel
theorem dX12_reads_71 : decode cX12_reads 71 = .ok (.iinc 1 1, 3) := by decide +kernel
theorem dX12_reads_74 : decode cX12_reads 74 = .ok (.goto (-51), 3) := by decide +kernel
theorem dX12_reads_77 : decode cX12_reads 77 = .ok (.iconst 1, 1) := by decide +kernel
theorem dX12_reads_78 : decode cX12_reads 78 = .ok (.ireturn, 1) := by decide +kernel
theorem dX12_hintAt_0 : decode cX12_hintAt 0 = .ok (.aload_n 0, 1) := by decide +kernel
theorem dX12_hintAt_1 : decode cX12_hintAt 1 = .ok (.getfield 53, 3) := by decide +kernel
theorem dX12_hintAt_4 : decode cX12_hintAt 4 = .ok (.iconst 1, 1) := by decide +kernel
theorem dX12_hintAt_5 : decode cX12_hintAt 5 = .ok (.baload, 1) := by decide +kernel
theorem dX12_hintAt_6 : decode cX12_hintAt 6 = .ok (.ifCond .eq 25, 3) := by decide +kernel
theorem dX12_hintAt_9 : decode cX12_hintAt 9 = .ok (.iload_n 1, 1) := by decide +kernel
theorem dX12_hintAt_10 : decode cX12_hintAt 10 = .ok (.aload_n 0, 1) := by decide +kernel
theorem dX12_hintAt_11 : decode cX12_hintAt 11 = .ok (.getfield 60, 3) := by decide +kernel
theorem dX12_hintAt_14 : decode cX12_hintAt 14 = .ok (.iconst 1, 1) := by decide +kernel
theorem dX12_hintAt_15 : decode cX12_hintAt 15 = .ok (.iaload, 1) := by decide +kernel
theorem dX12_hintAt_16 : decode cX12_hintAt 16 = .ok (.if_icmp .ge 15, 3) := by decide +kernel
theorem dX12_hintAt_19 : decode cX12_hintAt 19 = .ok (.aload_n 0, 1) := by decide +kernel
theorem dX12_hintAt_20 : decode cX12_hintAt 20 = .ok (.getfield 63, 3) := by decide +kernel
theorem dX12_hintAt_23 : decode cX12_hintAt 23 = .ok (.bipush 40, 2) := by decide +kernel
theorem dX12_hintAt_25 : decode cX12_hintAt 25 = .ok (.iload_n 1, 1) := by decide +kernel
theorem dX12_hintAt_26 : decode cX12_hintAt 26 = .ok (.iadd, 1) := by decide +kernel
theorem dX12_hintAt_27 : decode cX12_hintAt 27 = .ok (.iaload, 1) := by decide +kernel
theorem dX12_hintAt_28 : decode cX12_hintAt 28 = .ok (.goto 4, 3) := by decide +kernel
theorem dX12_hintAt_31 : decode cX12_hintAt 31 = .ok (.iconst (-1), 1) := by decide +kernel
theorem dX12_hintAt_32 : decode cX12_hintAt 32 = .ok (.istore_n 2, 1) := by decide +kernel
theorem dX12_hintAt_33 : decode cX12_hintAt 33 = .ok (.iload_n 2, 1) := by decide +kernel
theorem dX12_hintAt_34 : decode cX12_hintAt 34 = .ok (.iconst 0, 1) := by decide +kernel
theorem dX12_hintAt_35 : decode cX12_hintAt 35 = .ok (.aload_n 0, 1) := by decide +kernel
theorem dX12_hintAt_36 : decode cX12_hintAt 36 = .ok (.getfield 17, 3) := by decide +kernel
theorem dX12_hintAt_39 : decode cX12_hintAt 39 = .ok (.iconst 1, 1) := by decide +kernel
theorem dX12_hintAt_40 : decode cX12_hintAt 40 = .ok (.isub, 1) := by decide +kernel
theorem dX12_hintAt_41 : decode cX12_hintAt 41 = .ok (.invokestatic 69, 3) := by decide +kernel
theorem dX12_hintAt_44 : decode cX12_hintAt 44 = .ok (.ifCond .eq 7, 3) := by decide +kernel
theorem dX12_hintAt_47 : decode cX12_hintAt 47 = .ok (.iload_n 2, 1) := by decide +kernel
theorem dX12_hintAt_48 : decode cX12_hintAt 48 = .ok (.goto 4, 3) := by decide +kernel
theorem dX12_hintAt_51 : decode cX12_hintAt 51 = .ok (.iconst (-1), 1) := by decide +kernel
theorem dX12_hintAt_52 : decode cX12_hintAt 52 = .ok (.ireturn, 1) := by decide +kernel
theorem dX12_asked_0 : decode cX12_asked 0 = .ok (.aload_n 0, 1) := by decide +kernel
theorem dX12_asked_1 : decode cX12_asked 1 = .ok (.invokevirtual 83, 3) := by decide +kernel
theorem dX12_asked_4 : decode cX12_asked 4 = .ok (.ifCond .eq 10, 3) := by decide +kernel
theorem dX12_asked_7 : decode cX12_asked 7 = .ok (.aload_n 0, 1) := by decide +kernel
theorem dX12_asked_8 : decode cX12_asked 8 = .ok (.getfield 77, 3) := by decide +kernel
theorem dX12_asked_11 : decode cX12_asked 11 = .ok (.goto 5, 3) := by decide +kernel
theorem dX12_asked_14 : decode cX12_asked 14 = .ok (.bipush (-11), 2) := by decide +kernel
theorem dX12_asked_16 : decode cX12_asked 16 = .ok (.ireturn, 1) := by decide +kernel
theorem dX12_pointOf_0 : decode cX12_pointOf 0 = .ok (.iload_n 2, 1) := by decide +kernel
theorem dX12_pointOf_1 : decode cX12_pointOf 1 = .ok (.ifCond .ne 10, 3) := by decide +kernel
theorem dX12_pointOf_4 : decode cX12_pointOf 4 = .ok (.iload_n 1, 1) := by decide +kernel
theorem dX12_pointOf_5 : decode cX12_pointOf 5 = .ok (.bipush 6, 2) := by decide +kernel
theorem dX12_pointOf_7 : decode cX12_pointOf 7 = .ok (.irem, 1) := by decide +kernel
theorem dX12_pointOf_8 : decode cX12_pointOf 8 = .ok (.goto 22, 3) := by decide +kernel
theorem dX12_pointOf_11 : decode cX12_pointOf 11 = .ok (.iload_n 2, 1) := by decide +kernel
theorem dX12_pointOf_12 : decode cX12_pointOf 12 = .ok (.iconst 1, 1) := by decide +kernel
theorem dX12_pointOf_13 : decode cX12_pointOf 13 = .ok (.if_icmp .ne 13, 3) := by decide +kernel
theorem dX12_pointOf_16 : decode cX12_pointOf 16 = .ok (.iload_n 1, 1) := by decide +kernel
theorem dX12_pointOf_17 : decode cX12_pointOf 17 = .ok (.bipush 6, 2) := by decide +kernel
theorem dX12_pointOf_19 : decode cX12_pointOf 19 = .ok (.idiv, 1) := by decide +kernel
theorem dX12_pointOf_20 : decode cX12_pointOf 20 = .ok (.bipush 6, 2) := by decide +kernel
theorem dX12_pointOf_22 : decode cX12_pointOf 22 = .ok (.irem, 1) := by decide +kernel
theorem dX12_pointOf_23 : decode cX12_pointOf 23 = .ok (.goto 7, 3) := by decide +kernel
theorem dX12_pointOf_26 : decode cX12_pointOf 26 = .ok (.iload_n 1, 1) := by decide +kernel
theorem dX12_pointOf_27 : decode cX12_pointOf 27 = .ok (.bipush 36, 2) := by decide +kernel
theorem dX12_pointOf_29 : decode cX12_pointOf 29 = .ok (.idiv, 1) := by decide +kernel
theorem dX12_pointOf_30 : decode cX12_pointOf 30 = .ok (.ireturn, 1) := by decide +kernel
theorem dX12_with_0 : decode cX12_with 0 = .ok (.iload_n 2, 1) := by decide +kernel
theorem dX12_with_1 : decode cX12_with 1 = .ok (.ifCond .ne 7, 3) := by decide +kernel
theorem dX12_with_4 : decode cX12_with 4 = .ok (.iconst 1, 1) := by decide +kernel
theorem dX12_with_5 : decode cX12_with 5 = .ok (.goto 15, 3) := by decide +kernel
theorem dX12_with_8 : decode cX12_with 8 = .ok (.iload_n 2, 1) := by decide +kernel
theorem dX12_with_9 : decode cX12_with 9 = .ok (.iconst 1, 1) := by decide +kernel
theorem dX12_with_10 : decode cX12_with 10 = .ok (.if_icmp .ne 8, 3) := by decide +kernel
theorem dX12_with_13 : decode cX12_with 13 = .ok (.bipush 6, 2) := by decide +kernel
theorem dX12_with_15 : decode cX12_with 15 = .ok (.goto 5, 3) := by decide +kernel
theorem dX12_with_18 : decode cX12_with 18 = .ok (.bipush 36, 2) := by decide +kernel
theorem dX12_with_20 : decode cX12_with 20 = .ok (.istore 4, 2) := by decide +kernel
theorem dX12_with_22 : decode cX12_with 22 = .ok (.iload_n 1, 1) := by decide +kernel
theorem dX12_with_23 : decode cX12_with 23 = .ok (.iload 4, 2) := by decide +kernel
theorem dX12_with_25 : decode cX12_with 25 = .ok (.iload_n 3, 1) := by decide +kernel
theorem dX12_with_26 : decode cX12_with 26 = .ok (.aload_n 0, 1) := by decide +kernel
theorem dX12_with_27 : decode cX12_with 27 = .ok (.iload_n 1, 1) := by decide +kernel
theorem dX12_with_28 : decode cX12_with 28 = .ok (.iload_n 2, 1) := by decide +kernel
theorem dX12_with_29 : decode cX12_with 29 = .ok (.invokevirtual 87, 3) := by decide +kernel
theorem dX12_with_32 : decode cX12_with 32 = .ok (.isub, 1) := by decide +kernel
theorem dX12_with_33 : decode cX12_with 33 = .ok (.imul, 1) := by decide +kernel
theorem dX12_with_34 : decode cX12_with 34 = .ok (.iadd, 1) := by decide +kernel
theorem dX12_with_35 : decode cX12_with 35 = .ok (.ireturn, 1) := by decide +kernel
theorem dX12_isStanding_0 : decode cX12_isStanding 0 = .ok (.iconst 0, 1) := by decide +kernel
theorem dX12_isStanding_1 : decode cX12_isStanding 1 = .ok (.istore_n 2, 1) := by decide +kernel
theorem dX12_isStanding_2 : decode cX12_isStanding 2 = .ok (.iload_n 2, 1) := by decide +kernel
theorem dX12_isStanding_3 : decode cX12_isStanding 3 = .ok (.iconst 3, 1) := by decide +kernel
theorem dX12_isStanding_4 : decode cX12_isStanding 4 = .ok (.if_icmp .ge 41, 3) := by decide +kernel
theorem dX12_isStanding_7 : decode cX12_isStanding 7 = .ok (.aload_n 0, 1) := by decide +kernel
theorem dX12_isStanding_8 : decode cX12_isStanding 8 = .ok (.iload_n 1, 1) := by decide +kernel
theorem dX12_isStanding_9 : decode cX12_isStanding 9 = .ok (.iload_n 2, 1) := by decide +kernel
theorem dX12_isStanding_10 : decode cX12_isStanding 10 = .ok (.invokevirtual 87, 3) := by decide +kernel
theorem dX12_isStanding_13 : decode cX12_isStanding 13 = .ok (.istore_n 3, 1) := by decide +kernel
theorem dX12_isStanding_14 : decode cX12_isStanding 14 = .ok (.iload_n 2, 1) := by decide +kernel
theorem dX12_isStanding_15 : decode cX12_isStanding 15 = .ok (.aload_n 0, 1) := by decide +kernel
theorem dX12_isStanding_16 : decode cX12_isStanding 16 = .ok (.getfield 17, 3) := by decide +kernel
theorem dX12_isStanding_19 : decode cX12_isStanding 19 = .ok (.if_icmp .ge 14, 3) := by decide +kernel
theorem dX12_isStanding_22 : decode cX12_isStanding 22 = .ok (.iload_n 3, 1) := by decide +kernel
theorem dX12_isStanding_23 : decode cX12_isStanding 23 = .ok (.aload_n 0, 1) := by decide +kernel
theorem dX12_isStanding_24 : decode cX12_isStanding 24 = .ok (.getfield 7, 3) := by decide +kernel
theorem dX12_isStanding_27 : decode cX12_isStanding 27 = .ok (.if_icmp .lt 12, 3) := by decide +kernel
theorem dX12_isStanding_30 : decode cX12_isStanding 30 = .ok (.goto 7, 3) := by decide +kernel
theorem dX12_isStanding_33 : decode cX12_isStanding 33 = .ok (.iload_n 3, 1) := by decide +kernel
theorem dX12_isStanding_34 : decode cX12_isStanding 34 = .ok (.ifCond .le 5, 3) := by decide +kernel
theorem dX12_isStanding_37 : decode cX12_isStanding 37 = .ok (.iconst 0, 1) := by decide +kernel
theorem dX12_isStanding_38 : decode cX12_isStanding 38 = .ok (.ireturn, 1) := by decide +kernel
theorem dX12_isStanding_39 : decode cX12_isStanding 39 = .ok (.iinc 2 1, 3) := by decide +kernel
theorem dX12_isStanding_42 : decode cX12_isStanding 42 = .ok (.goto (-40), 3) := by decide +kernel
theorem dX12_isStanding_45 : decode cX12_isStanding 45 = .ok (.iconst 1, 1) := by decide +kernel
theorem dX12_isStanding_46 : decode cX12_isStanding 46 = .ok (.ireturn, 1) := by decide +kernel
theorem dX12_begin_0 : decode cX12_begin 0 = .ok (.iconst 0, 1) := by decide +kernel
theorem dX12_begin_1 : decode cX12_begin 1 = .ok (.istore_n 1, 1) := by decide +kernel
theorem dX12_begin_2 : decode cX12_begin 2 = .ok (.iconst 0, 1) := by decide +kernel
theorem dX12_begin_3 : decode cX12_begin 3 = .ok (.istore_n 2, 1) := by decide +kernel
theorem dX12_begin_4 : decode cX12_begin 4 = .ok (.iload_n 2, 1) := by decide +kernel
theorem dX12_begin_5 : decode cX12_begin 5 = .ok (.aload_n 0, 1) := by decide +kernel
theorem dX12_begin_6 : decode cX12_begin 6 = .ok (.getfield 17, 3) := by decide +kernel
theorem dX12_begin_9 : decode cX12_begin 9 = .ok (.if_icmp .ge 22, 3) := by decide +kernel
theorem dX12_begin_12 : decode cX12_begin 12 = .ok (.aload_n 0, 1) := by decide +kernel
theorem dX12_begin_13 : decode cX12_begin 13 = .ok (.iload_n 1, 1) := by decide +kernel
theorem dX12_begin_14 : decode cX12_begin 14 = .ok (.iload_n 2, 1) := by decide +kernel
theorem dX12_begin_15 : decode cX12_begin 15 = .ok (.aload_n 0, 1) := by decide +kernel
theorem dX12_begin_16 : decode cX12_begin 16 = .ok (.getfield 20, 3) := by decide +kernel
theorem dX12_begin_19 : decode cX12_begin 19 = .ok (.iload_n 2, 1) := by decide +kernel
theorem dX12_begin_20 : decode cX12_begin 20 = .ok (.iaload, 1) := by decide +kernel
theorem dX12_begin_21 : decode cX12_begin 21 = .ok (.invokevirtual 91, 3) := by decide +kernel
theorem dX12_begin_24 : decode cX12_begin 24 = .ok (.istore_n 1, 1) := by decide +kernel
theorem dX12_begin_25 : decode cX12_begin 25 = .ok (.iinc 2 1, 3) := by decide +kernel
theorem dX12_begin_28 : decode cX12_begin 28 = .ok (.goto (-24), 3) := by decide +kernel
theorem dX12_begin_31 : decode cX12_begin 31 = .ok (.iload_n 1, 1) := by decide +kernel
theorem dX12_begin_32 : decode cX12_begin 32 = .ok (.ireturn, 1) := by decide +kernel
theorem dX12_least_0 : decode cX12_least 0 = .ok (.aload_n 0, 1) := by decide +kernel
theorem dX12_least_1 : decode cX12_least 1 = .ok (.getfield 17, 3) := by decide +kernel
theorem dX12_least_4 : decode cX12_least 4 = .ok (.iconst 1, 1) := by decide +kernel
theorem dX12_least_5 : decode cX12_least 5 = .ok (.if_icmp .ne 10, 3) := by decide +kernel
theorem dX12_least_8 : decode cX12_least 8 = .ok (.iload_n 1, 1) := by decide +kernel
theorem dX12_least_9 : decode cX12_least 9 = .ok (.iload 4, 2) := by decide +kernel
theorem dX12_least_11 : decode cX12_least 11 = .ok (.invokestatic 95, 3) := by decide +kernel
theorem dX12_least_14 : decode cX12_least 14 = .ok (.ireturn, 1) := by decide +kernel
theorem dX12_least_15 : decode cX12_least 15 = .ok (.aload_n 0, 1) := by decide +kernel
theorem dX12_least_16 : decode cX12_least 16 = .ok (.getfield 17, 3) := by decide +kernel
theorem dX12_least_19 : decode cX12_least 19 = .ok (.iconst 2, 1) := by decide +kernel
theorem dX12_least_20 : decode cX12_least 20 = .ok (.if_icmp .ne 48, 3) := by decide +kernel
theorem dX12_least_23 : decode cX12_least 23 = .ok (.iload_n 1, 1) := by decide +kernel
theorem dX12_least_24 : decode cX12_least 24 = .ok (.iload 4, 2) := by decide +kernel
theorem dX12_least_26 : decode cX12_least 26 = .ok (.invokestatic 95, 3) := by decide +kernel
theorem dX12_least_29 : decode cX12_least 29 = .ok (.iload_n 2, 1) := by decide +kernel
theorem dX12_least_30 : decode cX12_least 30 = .ok (.iload 5, 2) := by decide +kernel
theorem dX12_least_32 : decode cX12_least 32 = .ok (.invokestatic 95, 3) := by decide +kernel
theorem dX12_least_35 : decode cX12_least 35 = .ok (.iadd, 1) := by decide +kernel
theorem dX12_least_36 : decode cX12_least 36 = .ok (.istore 7, 2) := by decide +kernel
theorem dX12_least_38 : decode cX12_least 38 = .ok (.iload_n 1, 1) := by decide +kernel
theorem dX12_least_39 : decode cX12_least 39 = .ok (.iload 5, 2) := by decide +kernel
theorem dX12_least_41 : decode cX12_least 41 = .ok (.invokestatic 95, 3) := by decide +kernel
theorem dX12_least_44 : decode cX12_least 44 = .ok (.iload_n 2, 1) := by decide +kernel
theorem dX12_least_45 : decode cX12_least 45 = .ok (.iload 4, 2) := by decide +kernel
theorem dX12_least_47 : decode cX12_least 47 = .ok (.invokestatic 95, 3) := by decide +kernel
theorem dX12_least_50 : decode cX12_least 50 = .ok (.iadd, 1) := by decide +kernel
theorem dX12_least_51 : decode cX12_least 51 = .ok (.istore 8, 2) := by decide +kernel
theorem dX12_least_53 : decode cX12_least 53 = .ok (.iload 7, 2) := by decide +kernel
theorem dX12_least_55 : decode cX12_least 55 = .ok (.iload 8, 2) := by decide +kernel
theorem dX12_least_57 : decode cX12_least 57 = .ok (.if_icmp .ge 8, 3) := by decide +kernel
theorem dX12_least_60 : decode cX12_least 60 = .ok (.iload 7, 2) := by decide +kernel
theorem dX12_least_62 : decode cX12_least 62 = .ok (.goto 5, 3) := by decide +kernel
theorem dX12_least_65 : decode cX12_least 65 = .ok (.iload 8, 2) := by decide +kernel
theorem dX12_least_67 : decode cX12_least 67 = .ok (.ireturn, 1) := by decide +kernel
theorem dX12_least_68 : decode cX12_least 68 = .ok (.iload_n 1, 1) := by decide +kernel
theorem dX12_least_69 : decode cX12_least 69 = .ok (.iload 4, 2) := by decide +kernel
theorem dX12_least_71 : decode cX12_least 71 = .ok (.invokestatic 95, 3) := by decide +kernel
theorem dX12_least_74 : decode cX12_least 74 = .ok (.iload_n 2, 1) := by decide +kernel
theorem dX12_least_75 : decode cX12_least 75 = .ok (.iload 5, 2) := by decide +kernel
theorem dX12_least_77 : decode cX12_least 77 = .ok (.invokestatic 95, 3) := by decide +kernel
theorem dX12_least_80 : decode cX12_least 80 = .ok (.iadd, 1) := by decide +kernel
theorem dX12_least_81 : decode cX12_least 81 = .ok (.iload_n 3, 1) := by decide +kernel
theorem dX12_least_82 : decode cX12_least 82 = .ok (.iload 6, 2) := by decide +kernel
theorem dX12_least_84 : decode cX12_least 84 = .ok (.invokestatic 95, 3) := by decide +kernel
theorem dX12_least_87 : decode cX12_least 87 = .ok (.iadd, 1) := by decide +kernel
theorem dX12_least_88 : decode cX12_least 88 = .ok (.istore 7, 2) := by decide +kernel
theorem dX12_least_90 : decode cX12_least 90 = .ok (.iload_n 1, 1) := by decide +kernel
theorem dX12_least_91 : decode cX12_least 91 = .ok (.iload 4, 2) := by decide +kernel
theorem dX12_least_93 : decode cX12_least 93 = .ok (.invokestatic 95, 3) := by decide +kernel
theorem dX12_least_96 : decode cX12_least 96 = .ok (.iload_n 2, 1) := by decide +kernel
theorem dX12_least_97 : decode cX12_least 97 = .ok (.iload 6, 2) := by decide +kernel
theorem dX12_least_99 : decode cX12_least 99 = .ok (.invokestatic 95, 3) := by decide +kernel
theorem dX12_least_102 : decode cX12_least 102 = .ok (.iadd, 1) := by decide +kernel
theorem dX12_least_103 : decode cX12_least 103 = .ok (.iload_n 3, 1) := by decide +kernel
theorem dX12_least_104 : decode cX12_least 104 = .ok (.iload 5, 2) := by decide +kernel
theorem dX12_least_106 : decode cX12_least 106 = .ok (.invokestatic 95, 3) := by decide +kernel
theorem dX12_least_109 : decode cX12_least 109 = .ok (.iadd, 1) := by decide +kernel
theorem dX12_least_110 : decode cX12_least 110 = .ok (.istore 8, 2) := by decide +kernel
theorem dX12_least_112 : decode cX12_least 112 = .ok (.iload 8, 2) := by decide +kernel
theorem dX12_least_114 : decode cX12_least 114 = .ok (.iload 7, 2) := by decide +kernel
theorem dX12_least_116 : decode cX12_least 116 = .ok (.if_icmp .ge 8, 3) := by decide +kernel
theorem dX12_least_119 : decode cX12_least 119 = .ok (.iload 8, 2) := by decide +kernel
theorem dX12_least_121 : decode cX12_least 121 = .ok (.goto 5, 3) := by decide +kernel
theorem dX12_least_124 : decode cX12_least 124 = .ok (.iload 7, 2) := by decide +kernel
theorem dX12_least_126 : decode cX12_least 126 = .ok (.istore 7, 2) := by decide +kernel
theorem dX12_least_128 : decode cX12_least 128 = .ok (.iload_n 1, 1) := by decide +kernel
theorem dX12_least_129 : decode cX12_least 129 = .ok (.iload 5, 2) := by decide +kernel
theorem dX12_least_131 : decode cX12_least 131 = .ok (.invokestatic 95, 3) := by decide +kernel
theorem dX12_least_134 : decode cX12_least 134 = .ok (.iload_n 2, 1) := by decide +kernel
theorem dX12_least_135 : decode cX12_least 135 = .ok (.iload 4, 2) := by decide +kernel
theorem dX12_least_137 : decode cX12_least 137 = .ok (.invokestatic 95, 3) := by decide +kernel
theorem dX12_least_140 : decode cX12_least 140 = .ok (.iadd, 1) := by decide +kernel
theorem dX12_least_141 : decode cX12_least 141 = .ok (.iload_n 3, 1) := by decide +kernel
theorem dX12_least_142 : decode cX12_least 142 = .ok (.iload 6, 2) := by decide +kernel
theorem dX12_least_144 : decode cX12_least 144 = .ok (.invokestatic 95, 3) := by decide +kernel
theorem dX12_least_147 : decode cX12_least 147 = .ok (.iadd, 1) := by decide +kernel
theorem dX12_least_148 : decode cX12_least 148 = .ok (.istore 8, 2) := by decide +kernel
theorem dX12_least_150 : decode cX12_least 150 = .ok (.iload 8, 2) := by decide +kernel
theorem dX12_least_152 : decode cX12_least 152 = .ok (.iload 7, 2) := by decide +kernel
theorem dX12_least_154 : decode cX12_least 154 = .ok (.if_icmp .ge 8, 3) := by decide +kernel
theorem dX12_least_157 : decode cX12_least 157 = .ok (.iload 8, 2) := by decide +kernel
theorem dX12_least_159 : decode cX12_least 159 = .ok (.goto 5, 3) := by decide +kernel
theorem dX12_least_162 : decode cX12_least 162 = .ok (.iload 7, 2) := by decide +kernel
theorem dX12_least_164 : decode cX12_least 164 = .ok (.istore 7, 2) := by decide +kernel
theorem dX12_least_166 : decode cX12_least 166 = .ok (.iload_n 1, 1) := by decide +kernel
theorem dX12_least_167 : decode cX12_least 167 = .ok (.iload 5, 2) := by decide +kernel
theorem dX12_least_169 : decode cX12_least 169 = .ok (.invokestatic 95, 3) := by decide +kernel
theorem dX12_least_172 : decode cX12_least 172 = .ok (.iload_n 2, 1) := by decide +kernel
theorem dX12_least_173 : decode cX12_least 173 = .ok (.iload 6, 2) := by decide +kernel
theorem dX12_least_175 : decode cX12_least 175 = .ok (.invokestatic 95, 3) := by decide +kernel
theorem dX12_least_178 : decode cX12_least 178 = .ok (.iadd, 1) := by decide +kernel
theorem dX12_least_179 : decode cX12_least 179 = .ok (.iload_n 3, 1) := by decide +kernel
theorem dX12_least_180 : decode cX12_least 180 = .ok (.iload 4, 2) := by decide +kernel
theorem dX12_least_182 : decode cX12_least 182 = .ok (.invokestatic 95, 3) := by decide +kernel
theorem dX12_least_185 : decode cX12_least 185 = .ok (.iadd, 1) := by decide +kernel
theorem dX12_least_186 : decode cX12_least 186 = .ok (.istore 8, 2) := by decide +kernel
theorem dX12_least_188 : decode cX12_least 188 = .ok (.iload 8, 2) := by decide +kernel
theorem dX12_least_190 : decode cX12_least 190 = .ok (.iload 7, 2) := by decide +kernel
theorem dX12_least_192 : decode cX12_least 192 = .ok (.if_icmp .ge 8, 3) := by decide +kernel
theorem dX12_least_195 : decode cX12_least 195 = .ok (.iload 8, 2) := by decide +kernel
theorem dX12_least_197 : decode cX12_least 197 = .ok (.goto 5, 3) := by decide +kernel
theorem dX12_least_200 : decode cX12_least 200 = .ok (.iload 7, 2) := by decide +kernel
theorem dX12_least_202 : decode cX12_least 202 = .ok (.istore 7, 2) := by decide +kernel
theorem dX12_least_204 : decode cX12_least 204 = .ok (.iload_n 1, 1) := by decide +kernel
theorem dX12_least_205 : decode cX12_least 205 = .ok (.iload 6, 2) := by decide +kernel
theorem dX12_least_207 : decode cX12_least 207 = .ok (.invokestatic 95, 3) := by decide +kernel
theorem dX12_least_210 : decode cX12_least 210 = .ok (.iload_n 2, 1) := by decide +kernel
theorem dX12_least_211 : decode cX12_least 211 = .ok (.iload 4, 2) := by decide +kernel
theorem dX12_least_213 : decode cX12_least 213 = .ok (.invokestatic 95, 3) := by decide +kernel
theorem dX12_least_216 : decode cX12_least 216 = .ok (.iadd, 1) := by decide +kernel
theorem dX12_least_217 : decode cX12_least 217 = .ok (.iload_n 3, 1) := by decide +kernel
theorem dX12_least_218 : decode cX12_least 218 = .ok (.iload 5, 2) := by decide +kernel
theorem dX12_least_220 : decode cX12_least 220 = .ok (.invokestatic 95, 3) := by decide +kernel
theorem dX12_least_223 : decode cX12_least 223 = .ok (.iadd, 1) := by decide +kernel
theorem dX12_least_224 : decode cX12_least 224 = .ok (.istore 8, 2) := by decide +kernel
theorem dX12_least_226 : decode cX12_least 226 = .ok (.iload 8, 2) := by decide +kernel
theorem dX12_least_228 : decode cX12_least 228 = .ok (.iload 7, 2) := by decide +kernel
theorem dX12_least_230 : decode cX12_least 230 = .ok (.if_icmp .ge 8, 3) := by decide +kernel
theorem dX12_least_233 : decode cX12_least 233 = .ok (.iload 8, 2) := by decide +kernel
theorem dX12_least_235 : decode cX12_least 235 = .ok (.goto 5, 3) := by decide +kernel
