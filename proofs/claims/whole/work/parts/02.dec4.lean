theorem dX12_least_238 : decode cX12_least 238 = .ok (.iload 7, 2) := by decide +kernel
theorem dX12_least_240 : decode cX12_least 240 = .ok (.istore 7, 2) := by decide +kernel
theorem dX12_least_242 : decode cX12_least 242 = .ok (.iload_n 1, 1) := by decide +kernel
theorem dX12_least_243 : decode cX12_least 243 = .ok (.iload 6, 2) := by decide +kernel
theorem dX12_least_245 : decode cX12_least 245 = .ok (.invokestatic 95, 3) := by decide +kernel
theorem dX12_least_248 : decode cX12_least 248 = .ok (.iload_n 2, 1) := by decide +kernel
theorem dX12_least_249 : decode cX12_least 249 = .ok (.iload 5, 2) := by decide +kernel
theorem dX12_least_251 : decode cX12_least 251 = .ok (.invokestatic 95, 3) := by decide +kernel
theorem dX12_least_254 : decode cX12_least 254 = .ok (.iadd, 1) := by decide +kernel
theorem dX12_least_255 : decode cX12_least 255 = .ok (.iload_n 3, 1) := by decide +kernel
theorem dX12_least_256 : decode cX12_least 256 = .ok (.iload 4, 2) := by decide +kernel
theorem dX12_least_258 : decode cX12_least 258 = .ok (.invokestatic 95, 3) := by decide +kernel
theorem dX12_least_261 : decode cX12_least 261 = .ok (.iadd, 1) := by decide +kernel
theorem dX12_least_262 : decode cX12_least 262 = .ok (.istore 8, 2) := by decide +kernel
theorem dX12_least_264 : decode cX12_least 264 = .ok (.iload 8, 2) := by decide +kernel
theorem dX12_least_266 : decode cX12_least 266 = .ok (.iload 7, 2) := by decide +kernel
theorem dX12_least_268 : decode cX12_least 268 = .ok (.if_icmp .ge 8, 3) := by decide +kernel
theorem dX12_least_271 : decode cX12_least 271 = .ok (.iload 8, 2) := by decide +kernel
theorem dX12_least_273 : decode cX12_least 273 = .ok (.goto 5, 3) := by decide +kernel
theorem dX12_least_276 : decode cX12_least 276 = .ok (.iload 7, 2) := by decide +kernel
theorem dX12_least_278 : decode cX12_least 278 = .ok (.ireturn, 1) := by decide +kernel
theorem dX12_plans_0 : decode cX12_plans 0 = .ok (.iconst 0, 1) := by decide +kernel
theorem dX12_plans_1 : decode cX12_plans 1 = .ok (.istore_n 1, 1) := by decide +kernel
theorem dX12_plans_2 : decode cX12_plans 2 = .ok (.iload_n 1, 1) := by decide +kernel
theorem dX12_plans_3 : decode cX12_plans 3 = .ok (.sipush 216, 3) := by decide +kernel
theorem dX12_plans_6 : decode cX12_plans 6 = .ok (.if_icmp .ge 25, 3) := by decide +kernel
theorem dX12_plans_9 : decode cX12_plans 9 = .ok (.aload_n 0, 1) := by decide +kernel
theorem dX12_plans_10 : decode cX12_plans 10 = .ok (.getfield 29, 3) := by decide +kernel
theorem dX12_plans_13 : decode cX12_plans 13 = .ok (.sipush 216, 3) := by decide +kernel
theorem dX12_plans_16 : decode cX12_plans 16 = .ok (.aload_n 0, 1) := by decide +kernel
theorem dX12_plans_17 : decode cX12_plans 17 = .ok (.getfield 77, 3) := by decide +kernel
theorem dX12_plans_20 : decode cX12_plans 20 = .ok (.imul, 1) := by decide +kernel
theorem dX12_plans_21 : decode cX12_plans 21 = .ok (.iload_n 1, 1) := by decide +kernel
theorem dX12_plans_22 : decode cX12_plans 22 = .ok (.iadd, 1) := by decide +kernel
theorem dX12_plans_23 : decode cX12_plans 23 = .ok (.iconst 0, 1) := by decide +kernel
theorem dX12_plans_24 : decode cX12_plans 24 = .ok (.iastore, 1) := by decide +kernel
theorem dX12_plans_25 : decode cX12_plans 25 = .ok (.iinc 1 1, 3) := by decide +kernel
theorem dX12_plans_28 : decode cX12_plans 28 = .ok (.goto (-26), 3) := by decide +kernel
theorem dX12_plans_31 : decode cX12_plans 31 = .ok (.aload_n 0, 1) := by decide +kernel
theorem dX12_plans_32 : decode cX12_plans 32 = .ok (.getfield 77, 3) := by decide +kernel
theorem dX12_plans_35 : decode cX12_plans 35 = .ok (.iconst 1, 1) := by decide +kernel
theorem dX12_plans_36 : decode cX12_plans 36 = .ok (.isub, 1) := by decide +kernel
theorem dX12_plans_37 : decode cX12_plans 37 = .ok (.istore_n 1, 1) := by decide +kernel
theorem dX12_plans_38 : decode cX12_plans 38 = .ok (.iload_n 1, 1) := by decide +kernel
theorem dX12_plans_39 : decode cX12_plans 39 = .ok (.ifCond .lt 121, 3) := by decide +kernel
theorem dX12_plans_42 : decode cX12_plans 42 = .ok (.iconst 0, 1) := by decide +kernel
theorem dX12_plans_43 : decode cX12_plans 43 = .ok (.istore_n 2, 1) := by decide +kernel
theorem dX12_plans_44 : decode cX12_plans 44 = .ok (.iload_n 2, 1) := by decide +kernel
theorem dX12_plans_45 : decode cX12_plans 45 = .ok (.sipush 216, 3) := by decide +kernel
theorem dX12_plans_48 : decode cX12_plans 48 = .ok (.if_icmp .ge 106, 3) := by decide +kernel
theorem dX12_plans_51 : decode cX12_plans 51 = .ok (.ldc 98, 2) := by decide +kernel
theorem dX12_plans_53 : decode cX12_plans 53 = .ok (.istore_n 3, 1) := by decide +kernel
theorem dX12_plans_54 : decode cX12_plans 54 = .ok (.iconst 0, 1) := by decide +kernel
theorem dX12_plans_55 : decode cX12_plans 55 = .ok (.istore 4, 2) := by decide +kernel
theorem dX12_plans_57 : decode cX12_plans 57 = .ok (.iload 4, 2) := by decide +kernel
theorem dX12_plans_59 : decode cX12_plans 59 = .ok (.aload_n 0, 1) := by decide +kernel
theorem dX12_plans_60 : decode cX12_plans 60 = .ok (.getfield 17, 3) := by decide +kernel
theorem dX12_plans_63 : decode cX12_plans 63 = .ok (.if_icmp .ge 72, 3) := by decide +kernel
theorem dX12_plans_66 : decode cX12_plans 66 = .ok (.aload_n 0, 1) := by decide +kernel
theorem dX12_plans_67 : decode cX12_plans 67 = .ok (.iload_n 2, 1) := by decide +kernel
theorem dX12_plans_68 : decode cX12_plans 68 = .ok (.invokevirtual 99, 3) := by decide +kernel
theorem dX12_plans_71 : decode cX12_plans 71 = .ok (.ifCond .eq 64, 3) := by decide +kernel
theorem dX12_plans_74 : decode cX12_plans 74 = .ok (.aload_n 0, 1) := by decide +kernel
theorem dX12_plans_75 : decode cX12_plans 75 = .ok (.iload_n 2, 1) := by decide +kernel
theorem dX12_plans_76 : decode cX12_plans 76 = .ok (.iload 4, 2) := by decide +kernel
theorem dX12_plans_78 : decode cX12_plans 78 = .ok (.aload_n 0, 1) := by decide +kernel
theorem dX12_plans_79 : decode cX12_plans 79 = .ok (.getfield 26, 3) := by decide +kernel
theorem dX12_plans_82 : decode cX12_plans 82 = .ok (.iload_n 1, 1) := by decide +kernel
theorem dX12_plans_83 : decode cX12_plans 83 = .ok (.iaload, 1) := by decide +kernel
theorem dX12_plans_84 : decode cX12_plans 84 = .ok (.invokevirtual 102, 3) := by decide +kernel
theorem dX12_plans_87 : decode cX12_plans 87 = .ok (.aload_n 0, 1) := by decide +kernel
theorem dX12_plans_88 : decode cX12_plans 88 = .ok (.getfield 29, 3) := by decide +kernel
theorem dX12_plans_91 : decode cX12_plans 91 = .ok (.sipush 216, 3) := by decide +kernel
theorem dX12_plans_94 : decode cX12_plans 94 = .ok (.iload_n 1, 1) := by decide +kernel
theorem dX12_plans_95 : decode cX12_plans 95 = .ok (.iconst 1, 1) := by decide +kernel
theorem dX12_plans_96 : decode cX12_plans 96 = .ok (.iadd, 1) := by decide +kernel
theorem dX12_plans_97 : decode cX12_plans 97 = .ok (.imul, 1) := by decide +kernel
theorem dX12_plans_98 : decode cX12_plans 98 = .ok (.aload_n 0, 1) := by decide +kernel
theorem dX12_plans_99 : decode cX12_plans 99 = .ok (.iload_n 2, 1) := by decide +kernel
theorem dX12_plans_100 : decode cX12_plans 100 = .ok (.iload 4, 2) := by decide +kernel
theorem dX12_plans_102 : decode cX12_plans 102 = .ok (.aload_n 0, 1) := by decide +kernel
theorem dX12_plans_103 : decode cX12_plans 103 = .ok (.getfield 26, 3) := by decide +kernel
theorem dX12_plans_106 : decode cX12_plans 106 = .ok (.iload_n 1, 1) := by decide +kernel
theorem dX12_plans_107 : decode cX12_plans 107 = .ok (.iaload, 1) := by decide +kernel
theorem dX12_plans_108 : decode cX12_plans 108 = .ok (.invokevirtual 91, 3) := by decide +kernel
theorem dX12_plans_111 : decode cX12_plans 111 = .ok (.iadd, 1) := by decide +kernel
theorem dX12_plans_112 : decode cX12_plans 112 = .ok (.iaload, 1) := by decide +kernel
theorem dX12_plans_113 : decode cX12_plans 113 = .ok (.iadd, 1) := by decide +kernel
theorem dX12_plans_114 : decode cX12_plans 114 = .ok (.istore 5, 2) := by decide +kernel
theorem dX12_plans_116 : decode cX12_plans 116 = .ok (.iload 5, 2) := by decide +kernel
theorem dX12_plans_118 : decode cX12_plans 118 = .ok (.iload_n 3, 1) := by decide +kernel
theorem dX12_plans_119 : decode cX12_plans 119 = .ok (.if_icmp .ge 8, 3) := by decide +kernel
theorem dX12_plans_122 : decode cX12_plans 122 = .ok (.iload 5, 2) := by decide +kernel
theorem dX12_plans_124 : decode cX12_plans 124 = .ok (.goto 4, 3) := by decide +kernel
theorem dX12_plans_127 : decode cX12_plans 127 = .ok (.iload_n 3, 1) := by decide +kernel
theorem dX12_plans_128 : decode cX12_plans 128 = .ok (.istore_n 3, 1) := by decide +kernel
theorem dX12_plans_129 : decode cX12_plans 129 = .ok (.iinc 4 1, 3) := by decide +kernel
theorem dX12_plans_132 : decode cX12_plans 132 = .ok (.goto (-75), 3) := by decide +kernel
theorem dX12_plans_135 : decode cX12_plans 135 = .ok (.aload_n 0, 1) := by decide +kernel
theorem dX12_plans_136 : decode cX12_plans 136 = .ok (.getfield 29, 3) := by decide +kernel
theorem dX12_plans_139 : decode cX12_plans 139 = .ok (.sipush 216, 3) := by decide +kernel
theorem dX12_plans_142 : decode cX12_plans 142 = .ok (.iload_n 1, 1) := by decide +kernel
theorem dX12_plans_143 : decode cX12_plans 143 = .ok (.imul, 1) := by decide +kernel
theorem dX12_plans_144 : decode cX12_plans 144 = .ok (.iload_n 2, 1) := by decide +kernel
theorem dX12_plans_145 : decode cX12_plans 145 = .ok (.iadd, 1) := by decide +kernel
theorem dX12_plans_146 : decode cX12_plans 146 = .ok (.iload_n 3, 1) := by decide +kernel
theorem dX12_plans_147 : decode cX12_plans 147 = .ok (.iastore, 1) := by decide +kernel
theorem dX12_plans_148 : decode cX12_plans 148 = .ok (.iinc 2 1, 3) := by decide +kernel
theorem dX12_plans_151 : decode cX12_plans 151 = .ok (.goto (-107), 3) := by decide +kernel
theorem dX12_plans_154 : decode cX12_plans 154 = .ok (.iinc 1 (-1), 3) := by decide +kernel
theorem dX12_plans_157 : decode cX12_plans 157 = .ok (.goto (-119), 3) := by decide +kernel
theorem dX12_plans_160 : decode cX12_plans 160 = .ok (.aload_n 0, 1) := by decide +kernel
theorem dX12_plans_161 : decode cX12_plans 161 = .ok (.invokevirtual 105, 3) := by decide +kernel
theorem dX12_plans_164 : decode cX12_plans 164 = .ok (.istore_n 1, 1) := by decide +kernel
theorem dX12_plans_165 : decode cX12_plans 165 = .ok (.iconst 0, 1) := by decide +kernel
theorem dX12_plans_166 : decode cX12_plans 166 = .ok (.istore_n 2, 1) := by decide +kernel
theorem dX12_plans_167 : decode cX12_plans 167 = .ok (.iload_n 2, 1) := by decide +kernel
theorem dX12_plans_168 : decode cX12_plans 168 = .ok (.aload_n 0, 1) := by decide +kernel
theorem dX12_plans_169 : decode cX12_plans 169 = .ok (.getfield 77, 3) := by decide +kernel
theorem dX12_plans_172 : decode cX12_plans 172 = .ok (.if_icmp .ge 90, 3) := by decide +kernel
theorem dX12_plans_175 : decode cX12_plans 175 = .ok (.iconst 0, 1) := by decide +kernel
theorem dX12_plans_176 : decode cX12_plans 176 = .ok (.istore_n 3, 1) := by decide +kernel
theorem dX12_plans_177 : decode cX12_plans 177 = .ok (.aload_n 0, 1) := by decide +kernel
theorem dX12_plans_178 : decode cX12_plans 178 = .ok (.iload_n 1, 1) := by decide +kernel
theorem dX12_plans_179 : decode cX12_plans 179 = .ok (.iload_n 3, 1) := by decide +kernel
theorem dX12_plans_180 : decode cX12_plans 180 = .ok (.aload_n 0, 1) := by decide +kernel
theorem dX12_plans_181 : decode cX12_plans 181 = .ok (.getfield 26, 3) := by decide +kernel
theorem dX12_plans_184 : decode cX12_plans 184 = .ok (.iload_n 2, 1) := by decide +kernel
theorem dX12_plans_185 : decode cX12_plans 185 = .ok (.iaload, 1) := by decide +kernel
theorem dX12_plans_186 : decode cX12_plans 186 = .ok (.invokevirtual 102, 3) := by decide +kernel
theorem dX12_plans_189 : decode cX12_plans 189 = .ok (.aload_n 0, 1) := by decide +kernel
theorem dX12_plans_190 : decode cX12_plans 190 = .ok (.getfield 29, 3) := by decide +kernel
theorem dX12_plans_193 : decode cX12_plans 193 = .ok (.sipush 216, 3) := by decide +kernel
theorem dX12_plans_196 : decode cX12_plans 196 = .ok (.iload_n 2, 1) := by decide +kernel
theorem dX12_plans_197 : decode cX12_plans 197 = .ok (.iconst 1, 1) := by decide +kernel
theorem dX12_plans_198 : decode cX12_plans 198 = .ok (.iadd, 1) := by decide +kernel
theorem dX12_plans_199 : decode cX12_plans 199 = .ok (.imul, 1) := by decide +kernel
theorem dX12_plans_200 : decode cX12_plans 200 = .ok (.aload_n 0, 1) := by decide +kernel
theorem dX12_plans_201 : decode cX12_plans 201 = .ok (.iload_n 1, 1) := by decide +kernel
theorem dX12_plans_202 : decode cX12_plans 202 = .ok (.iload_n 3, 1) := by decide +kernel
theorem dX12_plans_203 : decode cX12_plans 203 = .ok (.aload_n 0, 1) := by decide +kernel
theorem dX12_plans_204 : decode cX12_plans 204 = .ok (.getfield 26, 3) := by decide +kernel
theorem dX12_plans_207 : decode cX12_plans 207 = .ok (.iload_n 2, 1) := by decide +kernel
theorem dX12_plans_208 : decode cX12_plans 208 = .ok (.iaload, 1) := by decide +kernel
theorem dX12_plans_209 : decode cX12_plans 209 = .ok (.invokevirtual 91, 3) := by decide +kernel
theorem dX12_plans_212 : decode cX12_plans 212 = .ok (.iadd, 1) := by decide +kernel
theorem dX12_plans_213 : decode cX12_plans 213 = .ok (.iaload, 1) := by decide +kernel
theorem dX12_plans_214 : decode cX12_plans 214 = .ok (.iadd, 1) := by decide +kernel
theorem dX12_plans_215 : decode cX12_plans 215 = .ok (.aload_n 0, 1) := by decide +kernel
theorem dX12_plans_216 : decode cX12_plans 216 = .ok (.getfield 29, 3) := by decide +kernel
theorem dX12_plans_219 : decode cX12_plans 219 = .ok (.sipush 216, 3) := by decide +kernel
theorem dX12_plans_222 : decode cX12_plans 222 = .ok (.iload_n 2, 1) := by decide +kernel
theorem dX12_plans_223 : decode cX12_plans 223 = .ok (.imul, 1) := by decide +kernel
theorem dX12_plans_224 : decode cX12_plans 224 = .ok (.iload_n 1, 1) := by decide +kernel
theorem dX12_plans_225 : decode cX12_plans 225 = .ok (.iadd, 1) := by decide +kernel
theorem dX12_plans_226 : decode cX12_plans 226 = .ok (.iaload, 1) := by decide +kernel
theorem dX12_plans_227 : decode cX12_plans 227 = .ok (.if_icmp .eq 9, 3) := by decide +kernel
theorem dX12_plans_230 : decode cX12_plans 230 = .ok (.iinc 3 1, 3) := by decide +kernel
theorem dX12_plans_233 : decode cX12_plans 233 = .ok (.goto (-56), 3) := by decide +kernel
theorem dX12_plans_236 : decode cX12_plans 236 = .ok (.aload_n 0, 1) := by decide +kernel
theorem dX12_plans_237 : decode cX12_plans 237 = .ok (.getfield 32, 3) := by decide +kernel
theorem dX12_plans_240 : decode cX12_plans 240 = .ok (.iload_n 2, 1) := by decide +kernel
theorem dX12_plans_241 : decode cX12_plans 241 = .ok (.iload_n 3, 1) := by decide +kernel
theorem dX12_plans_242 : decode cX12_plans 242 = .ok (.iastore, 1) := by decide +kernel
theorem dX12_plans_243 : decode cX12_plans 243 = .ok (.aload_n 0, 1) := by decide +kernel
theorem dX12_plans_244 : decode cX12_plans 244 = .ok (.iload_n 1, 1) := by decide +kernel
theorem dX12_plans_245 : decode cX12_plans 245 = .ok (.iload_n 3, 1) := by decide +kernel
theorem dX12_plans_246 : decode cX12_plans 246 = .ok (.aload_n 0, 1) := by decide +kernel
theorem dX12_plans_247 : decode cX12_plans 247 = .ok (.getfield 26, 3) := by decide +kernel
theorem dX12_plans_250 : decode cX12_plans 250 = .ok (.iload_n 2, 1) := by decide +kernel
theorem dX12_plans_251 : decode cX12_plans 251 = .ok (.iaload, 1) := by decide +kernel
theorem dX12_plans_252 : decode cX12_plans 252 = .ok (.invokevirtual 91, 3) := by decide +kernel
theorem dX12_plans_255 : decode cX12_plans 255 = .ok (.istore_n 1, 1) := by decide +kernel
theorem dX12_plans_256 : decode cX12_plans 256 = .ok (.iinc 2 1, 3) := by decide +kernel
theorem dX12_plans_259 : decode cX12_plans 259 = .ok (.goto (-92), 3) := by decide +kernel
theorem dX12_plans_262 : decode cX12_plans 262 = .ok (.return_, 1) := by decide +kernel
theorem dX12_wayTo_0 : decode cX12_wayTo 0 = .ok (.aload_n 0, 1) := by decide +kernel
theorem dX12_wayTo_1 : decode cX12_wayTo 1 = .ok (.getfield 13, 3) := by decide +kernel
theorem dX12_wayTo_4 : decode cX12_wayTo 4 = .ok (.aload_n 0, 1) := by decide +kernel
theorem dX12_wayTo_5 : decode cX12_wayTo 5 = .ok (.iload_n 1, 1) := by decide +kernel
theorem dX12_wayTo_6 : decode cX12_wayTo 6 = .ok (.iload_n 2, 1) := by decide +kernel
theorem dX12_wayTo_7 : decode cX12_wayTo 7 = .ok (.invokevirtual 87, 3) := by decide +kernel
theorem dX12_wayTo_10 : decode cX12_wayTo 10 = .ok (.iaload, 1) := by decide +kernel
theorem dX12_wayTo_11 : decode cX12_wayTo 11 = .ok (.aload_n 0, 1) := by decide +kernel
theorem dX12_wayTo_12 : decode cX12_wayTo 12 = .ok (.getfield 13, 3) := by decide +kernel
theorem dX12_wayTo_15 : decode cX12_wayTo 15 = .ok (.iload_n 3, 1) := by decide +kernel
theorem dX12_wayTo_16 : decode cX12_wayTo 16 = .ok (.iaload, 1) := by decide +kernel
theorem dX12_wayTo_17 : decode cX12_wayTo 17 = .ok (.invokestatic 95, 3) := by decide +kernel
theorem dX12_wayTo_20 : decode cX12_wayTo 20 = .ok (.ireturn, 1) := by decide +kernel
theorem dX12_bestCost_0 : decode cX12_bestCost 0 = .ok (.aload_n 0, 1) := by decide +kernel
theorem dX12_bestCost_1 : decode cX12_bestCost 1 = .ok (.invokevirtual 109, 3) := by decide +kernel
theorem dX12_bestCost_4 : decode cX12_bestCost 4 = .ok (.aload_n 0, 1) := by decide +kernel
theorem dX12_bestCost_5 : decode cX12_bestCost 5 = .ok (.getfield 29, 3) := by decide +kernel
theorem dX12_bestCost_8 : decode cX12_bestCost 8 = .ok (.aload_n 0, 1) := by decide +kernel
theorem dX12_bestCost_9 : decode cX12_bestCost 9 = .ok (.invokevirtual 105, 3) := by decide +kernel
theorem dX12_bestCost_12 : decode cX12_bestCost 12 = .ok (.iaload, 1) := by decide +kernel
theorem dX12_bestCost_13 : decode cX12_bestCost 13 = .ok (.ireturn, 1) := by decide +kernel
theorem dX12_best_0 : decode cX12_best 0 = .ok (.aload_n 0, 1) := by decide +kernel
theorem dX12_best_1 : decode cX12_best 1 = .ok (.invokevirtual 83, 3) := by decide +kernel
theorem dX12_best_4 : decode cX12_best 4 = .ok (.ifCond .eq 10, 3) := by decide +kernel
theorem dX12_best_7 : decode cX12_best 7 = .ok (.aload_n 0, 1) := by decide +kernel
theorem dX12_best_8 : decode cX12_best 8 = .ok (.invokevirtual 112, 3) := by decide +kernel
theorem dX12_best_11 : decode cX12_best 11 = .ok (.goto 5, 3) := by decide +kernel
theorem dX12_best_14 : decode cX12_best 14 = .ok (.bipush (-11), 2) := by decide +kernel
theorem dX12_best_16 : decode cX12_best 16 = .ok (.ireturn, 1) := by decide +kernel
theorem dX12_way_0 : decode cX12_way 0 = .ok (.iload_n 1, 1) := by decide +kernel
theorem dX12_way_1 : decode cX12_way 1 = .ok (.iconst 0, 1) := by decide +kernel
theorem dX12_way_2 : decode cX12_way 2 = .ok (.bipush 39, 2) := by decide +kernel
theorem dX12_way_4 : decode cX12_way 4 = .ok (.invokestatic 69, 3) := by decide +kernel
theorem dX12_way_7 : decode cX12_way 7 = .ok (.ifCond .ne 6, 3) := by decide +kernel
theorem dX12_way_10 : decode cX12_way 10 = .ok (.bipush (-2), 2) := by decide +kernel
theorem dX12_way_12 : decode cX12_way 12 = .ok (.ireturn, 1) := by decide +kernel
theorem dX12_way_13 : decode cX12_way 13 = .ok (.aload_n 0, 1) := by decide +kernel
theorem dX12_way_14 : decode cX12_way 14 = .ok (.invokevirtual 83, 3) := by decide +kernel
theorem dX12_way_17 : decode cX12_way 17 = .ok (.ifCond .ne 6, 3) := by decide +kernel
theorem dX12_way_20 : decode cX12_way 20 = .ok (.bipush (-11), 2) := by decide +kernel
theorem dX12_way_22 : decode cX12_way 22 = .ok (.ireturn, 1) := by decide +kernel
theorem dX12_way_23 : decode cX12_way 23 = .ok (.aload_n 0, 1) := by decide +kernel
theorem dX12_way_24 : decode cX12_way 24 = .ok (.invokevirtual 109, 3) := by decide +kernel
theorem dX12_way_27 : decode cX12_way 27 = .ok (.iload_n 1, 1) := by decide +kernel
theorem dX12_way_28 : decode cX12_way 28 = .ok (.aload_n 0, 1) := by decide +kernel
theorem dX12_way_29 : decode cX12_way 29 = .ok (.getfield 77, 3) := by decide +kernel
theorem dX12_way_32 : decode cX12_way 32 = .ok (.if_icmp .ge 12, 3) := by decide +kernel
theorem dX12_way_35 : decode cX12_way 35 = .ok (.aload_n 0, 1) := by decide +kernel
theorem dX12_way_36 : decode cX12_way 36 = .ok (.getfield 32, 3) := by decide +kernel
theorem dX12_way_39 : decode cX12_way 39 = .ok (.iload_n 1, 1) := by decide +kernel
theorem dX12_way_40 : decode cX12_way 40 = .ok (.iaload, 1) := by decide +kernel
theorem dX12_way_41 : decode cX12_way 41 = .ok (.goto 4, 3) := by decide +kernel
theorem dX12_way_44 : decode cX12_way 44 = .ok (.iconst (-1), 1) := by decide +kernel
theorem dX12_way_45 : decode cX12_way 45 = .ok (.ireturn, 1) := by decide +kernel
theorem dX12_starts_0 : decode cX12_starts 0 = .ok (.iconst 0, 1) := by decide +kernel
theorem dX12_starts_1 : decode cX12_starts 1 = .ok (.istore_n 1, 1) := by decide +kernel
theorem dX12_starts_2 : decode cX12_starts 2 = .ok (.iload_n 1, 1) := by decide +kernel
theorem dX12_starts_3 : decode cX12_starts 3 = .ok (.iconst 3, 1) := by decide +kernel
theorem dX12_starts_4 : decode cX12_starts 4 = .ok (.if_icmp .ge 38, 3) := by decide +kernel
theorem dX12_starts_7 : decode cX12_starts 7 = .ok (.aload_n 0, 1) := by decide +kernel
theorem dX12_starts_8 : decode cX12_starts 8 = .ok (.getfield 35, 3) := by decide +kernel
theorem dX12_starts_11 : decode cX12_starts 11 = .ok (.iload_n 1, 1) := by decide +kernel
theorem dX12_starts_12 : decode cX12_starts 12 = .ok (.iload_n 1, 1) := by decide +kernel
theorem dX12_starts_13 : decode cX12_starts 13 = .ok (.aload_n 0, 1) := by decide +kernel
theorem dX12_starts_14 : decode cX12_starts 14 = .ok (.getfield 17, 3) := by decide +kernel
theorem dX12_starts_17 : decode cX12_starts 17 = .ok (.if_icmp .ge 17, 3) := by decide +kernel
theorem dX12_starts_20 : decode cX12_starts 20 = .ok (.aload_n 0, 1) := by decide +kernel
theorem dX12_starts_21 : decode cX12_starts 21 = .ok (.getfield 13, 3) := by decide +kernel
theorem dX12_starts_24 : decode cX12_starts 24 = .ok (.aload_n 0, 1) := by decide +kernel
theorem dX12_starts_25 : decode cX12_starts 25 = .ok (.getfield 20, 3) := by decide +kernel
theorem dX12_starts_28 : decode cX12_starts 28 = .ok (.iload_n 1, 1) := by decide +kernel
theorem dX12_starts_29 : decode cX12_starts 29 = .ok (.iaload, 1) := by decide +kernel
theorem dX12_starts_30 : decode cX12_starts 30 = .ok (.iaload, 1) := by decide +kernel
theorem dX12_starts_31 : decode cX12_starts 31 = .ok (.goto 4, 3) := by decide +kernel
theorem dX12_starts_34 : decode cX12_starts 34 = .ok (.iconst 0, 1) := by decide +kernel
theorem dX12_starts_35 : decode cX12_starts 35 = .ok (.iastore, 1) := by decide +kernel
theorem dX12_starts_36 : decode cX12_starts 36 = .ok (.iinc 1 1, 3) := by decide +kernel
theorem dX12_starts_39 : decode cX12_starts 39 = .ok (.goto (-37), 3) := by decide +kernel
theorem dX12_starts_42 : decode cX12_starts 42 = .ok (.aload_n 0, 1) := by decide +kernel
theorem dX12_starts_43 : decode cX12_starts 43 = .ok (.iconst 0, 1) := by decide +kernel
theorem dX12_starts_44 : decode cX12_starts 44 = .ok (.putfield 115, 3) := by decide +kernel
theorem dX12_starts_47 : decode cX12_starts 47 = .ok (.aload_n 0, 1) := by decide +kernel
theorem dX12_starts_48 : decode cX12_starts 48 = .ok (.iconst (-1), 1) := by decide +kernel
theorem dX12_starts_49 : decode cX12_starts 49 = .ok (.putfield 118, 3) := by decide +kernel
theorem dX12_starts_52 : decode cX12_starts 52 = .ok (.return_, 1) := by decide +kernel
theorem dX12_sends_0 : decode cX12_sends 0 = .ok (.aload_n 0, 1) := by decide +kernel
theorem dX12_sends_1 : decode cX12_sends 1 = .ok (.dup, 1) := by decide +kernel
theorem dX12_sends_2 : decode cX12_sends 2 = .ok (.getfield 115, 3) := by decide +kernel
theorem dX12_sends_5 : decode cX12_sends 5 = .ok (.aload_n 0, 1) := by decide +kernel
theorem dX12_sends_6 : decode cX12_sends 6 = .ok (.getfield 35, 3) := by decide +kernel
theorem dX12_sends_9 : decode cX12_sends 9 = .ok (.iload_n 1, 1) := by decide +kernel
theorem dX12_sends_10 : decode cX12_sends 10 = .ok (.iaload, 1) := by decide +kernel
theorem dX12_sends_11 : decode cX12_sends 11 = .ok (.iload_n 2, 1) := by decide +kernel
theorem dX12_sends_12 : decode cX12_sends 12 = .ok (.invokestatic 95, 3) := by decide +kernel
theorem dX12_sends_15 : decode cX12_sends 15 = .ok (.iadd, 1) := by decide +kernel
theorem dX12_sends_16 : decode cX12_sends 16 = .ok (.putfield 115, 3) := by decide +kernel
theorem dX12_sends_19 : decode cX12_sends 19 = .ok (.aload_n 0, 1) := by decide +kernel
theorem dX12_sends_20 : decode cX12_sends 20 = .ok (.getfield 35, 3) := by decide +kernel
theorem dX12_sends_23 : decode cX12_sends 23 = .ok (.iload_n 1, 1) := by decide +kernel
theorem dX12_sends_24 : decode cX12_sends 24 = .ok (.iload_n 2, 1) := by decide +kernel
theorem dX12_sends_25 : decode cX12_sends 25 = .ok (.iastore, 1) := by decide +kernel
theorem dX12_sends_26 : decode cX12_sends 26 = .ok (.aload_n 0, 1) := by decide +kernel
theorem dX12_sends_27 : decode cX12_sends 27 = .ok (.iload_n 1, 1) := by decide +kernel
theorem dX12_sends_28 : decode cX12_sends 28 = .ok (.putfield 118, 3) := by decide +kernel
theorem dX12_sends_31 : decode cX12_sends 31 = .ok (.return_, 1) := by decide +kernel
theorem dX12_nearest_0 : decode cX12_nearest 0 = .ok (.iconst 0, 1) := by decide +kernel
theorem dX12_nearest_1 : decode cX12_nearest 1 = .ok (.istore_n 2, 1) := by decide +kernel
theorem dX12_nearest_2 : decode cX12_nearest 2 = .ok (.iconst 1, 1) := by decide +kernel
theorem dX12_nearest_3 : decode cX12_nearest 3 = .ok (.istore_n 3, 1) := by decide +kernel
theorem dX12_nearest_4 : decode cX12_nearest 4 = .ok (.iload_n 3, 1) := by decide +kernel
theorem dX12_nearest_5 : decode cX12_nearest 5 = .ok (.aload_n 0, 1) := by decide +kernel
theorem dX12_nearest_6 : decode cX12_nearest 6 = .ok (.getfield 17, 3) := by decide +kernel
theorem dX12_nearest_9 : decode cX12_nearest 9 = .ok (.if_icmp .ge 38, 3) := by decide +kernel
theorem dX12_nearest_12 : decode cX12_nearest 12 = .ok (.aload_n 0, 1) := by decide +kernel
theorem dX12_nearest_13 : decode cX12_nearest 13 = .ok (.getfield 35, 3) := by decide +kernel
theorem dX12_nearest_16 : decode cX12_nearest 16 = .ok (.iload_n 3, 1) := by decide +kernel
theorem dX12_nearest_17 : decode cX12_nearest 17 = .ok (.iaload, 1) := by decide +kernel
theorem dX12_nearest_18 : decode cX12_nearest 18 = .ok (.iload_n 1, 1) := by decide +kernel
theorem dX12_nearest_19 : decode cX12_nearest 19 = .ok (.invokestatic 95, 3) := by decide +kernel
theorem dX12_nearest_22 : decode cX12_nearest 22 = .ok (.aload_n 0, 1) := by decide +kernel
theorem dX12_nearest_23 : decode cX12_nearest 23 = .ok (.getfield 35, 3) := by decide +kernel
theorem dX12_nearest_26 : decode cX12_nearest 26 = .ok (.iload_n 2, 1) := by decide +kernel
theorem dX12_nearest_27 : decode cX12_nearest 27 = .ok (.iaload, 1) := by decide +kernel
theorem dX12_nearest_28 : decode cX12_nearest 28 = .ok (.iload_n 1, 1) := by decide +kernel
theorem dX12_nearest_29 : decode cX12_nearest 29 = .ok (.invokestatic 95, 3) := by decide +kernel
theorem dX12_nearest_32 : decode cX12_nearest 32 = .ok (.if_icmp .ge 7, 3) := by decide +kernel
theorem dX12_nearest_35 : decode cX12_nearest 35 = .ok (.iload_n 3, 1) := by decide +kernel
theorem dX12_nearest_36 : decode cX12_nearest 36 = .ok (.goto 4, 3) := by decide +kernel
theorem dX12_nearest_39 : decode cX12_nearest 39 = .ok (.iload_n 2, 1) := by decide +kernel
theorem dX12_nearest_40 : decode cX12_nearest 40 = .ok (.istore_n 2, 1) := by decide +kernel
theorem dX12_nearest_41 : decode cX12_nearest 41 = .ok (.iinc 3 1, 3) := by decide +kernel
theorem dX12_nearest_44 : decode cX12_nearest 44 = .ok (.goto (-40), 3) := by decide +kernel
theorem dX12_nearest_47 : decode cX12_nearest 47 = .ok (.iload_n 2, 1) := by decide +kernel
theorem dX12_nearest_48 : decode cX12_nearest 48 = .ok (.ireturn, 1) := by decide +kernel
theorem dX12_nearestOn_0 : decode cX12_nearestOn 0 = .ok (.iconst (-1), 1) := by decide +kernel
theorem dX12_nearestOn_1 : decode cX12_nearestOn 1 = .ok (.istore_n 3, 1) := by decide +kernel
theorem dX12_nearestOn_2 : decode cX12_nearestOn 2 = .ok (.iconst 0, 1) := by decide +kernel
theorem dX12_nearestOn_3 : decode cX12_nearestOn 3 = .ok (.istore 4, 2) := by decide +kernel
theorem dX12_nearestOn_5 : decode cX12_nearestOn 5 = .ok (.iload 4, 2) := by decide +kernel
theorem dX12_nearestOn_7 : decode cX12_nearestOn 7 = .ok (.aload_n 0, 1) := by decide +kernel
theorem dX12_nearestOn_8 : decode cX12_nearestOn 8 = .ok (.getfield 17, 3) := by decide +kernel
theorem dX12_nearestOn_11 : decode cX12_nearestOn 11 = .ok (.if_icmp .ge 91, 3) := by decide +kernel
theorem dX12_nearestOn_14 : decode cX12_nearestOn 14 = .ok (.iload_n 2, 1) := by decide +kernel
theorem dX12_nearestOn_15 : decode cX12_nearestOn 15 = .ok (.ifCond .eq 22, 3) := by decide +kernel
theorem dX12_nearestOn_18 : decode cX12_nearestOn 18 = .ok (.aload_n 0, 1) := by decide +kernel
theorem dX12_nearestOn_19 : decode cX12_nearestOn 19 = .ok (.getfield 35, 3) := by decide +kernel
theorem dX12_nearestOn_22 : decode cX12_nearestOn 22 = .ok (.iload 4, 2) := by decide +kernel
theorem dX12_nearestOn_24 : decode cX12_nearestOn 24 = .ok (.iaload, 1) := by decide +kernel
theorem dX12_nearestOn_25 : decode cX12_nearestOn 25 = .ok (.iload_n 1, 1) := by decide +kernel
theorem dX12_nearestOn_26 : decode cX12_nearestOn 26 = .ok (.if_icmp .ge 7, 3) := by decide +kernel
theorem dX12_nearestOn_29 : decode cX12_nearestOn 29 = .ok (.iconst 1, 1) := by decide +kernel
theorem dX12_nearestOn_30 : decode cX12_nearestOn 30 = .ok (.goto 23, 3) := by decide +kernel
theorem dX12_nearestOn_33 : decode cX12_nearestOn 33 = .ok (.iconst 0, 1) := by decide +kernel
theorem dX12_nearestOn_34 : decode cX12_nearestOn 34 = .ok (.goto 19, 3) := by decide +kernel
theorem dX12_nearestOn_37 : decode cX12_nearestOn 37 = .ok (.aload_n 0, 1) := by decide +kernel
theorem dX12_nearestOn_38 : decode cX12_nearestOn 38 = .ok (.getfield 35, 3) := by decide +kernel
theorem dX12_nearestOn_41 : decode cX12_nearestOn 41 = .ok (.iload 4, 2) := by decide +kernel
theorem dX12_nearestOn_43 : decode cX12_nearestOn 43 = .ok (.iaload, 1) := by decide +kernel
theorem dX12_nearestOn_44 : decode cX12_nearestOn 44 = .ok (.iload_n 1, 1) := by decide +kernel
theorem dX12_nearestOn_45 : decode cX12_nearestOn 45 = .ok (.if_icmp .le 7, 3) := by decide +kernel
theorem dX12_nearestOn_48 : decode cX12_nearestOn 48 = .ok (.iconst 1, 1) := by decide +kernel
theorem dX12_nearestOn_49 : decode cX12_nearestOn 49 = .ok (.goto 4, 3) := by decide +kernel
theorem dX12_nearestOn_52 : decode cX12_nearestOn 52 = .ok (.iconst 0, 1) := by decide +kernel
theorem dX12_nearestOn_53 : decode cX12_nearestOn 53 = .ok (.istore 5, 2) := by decide +kernel
theorem dX12_nearestOn_55 : decode cX12_nearestOn 55 = .ok (.iload 5, 2) := by decide +kernel
theorem dX12_nearestOn_57 : decode cX12_nearestOn 57 = .ok (.ifCond .eq 37, 3) := by decide +kernel
theorem dX12_nearestOn_60 : decode cX12_nearestOn 60 = .ok (.iload_n 3, 1) := by decide +kernel
theorem dX12_nearestOn_61 : decode cX12_nearestOn 61 = .ok (.iconst (-1), 1) := by decide +kernel
theorem dX12_nearestOn_62 : decode cX12_nearestOn 62 = .ok (.if_icmp .eq 27, 3) := by decide +kernel
theorem dX12_nearestOn_65 : decode cX12_nearestOn 65 = .ok (.aload_n 0, 1) := by decide +kernel
theorem dX12_nearestOn_66 : decode cX12_nearestOn 66 = .ok (.getfield 35, 3) := by decide +kernel
theorem dX12_nearestOn_69 : decode cX12_nearestOn 69 = .ok (.iload 4, 2) := by decide +kernel
theorem dX12_nearestOn_71 : decode cX12_nearestOn 71 = .ok (.iaload, 1) := by decide +kernel
theorem dX12_nearestOn_72 : decode cX12_nearestOn 72 = .ok (.iload_n 1, 1) := by decide +kernel
theorem dX12_nearestOn_73 : decode cX12_nearestOn 73 = .ok (.invokestatic 95, 3) := by decide +kernel
theorem dX12_nearestOn_76 : decode cX12_nearestOn 76 = .ok (.aload_n 0, 1) := by decide +kernel
theorem dX12_nearestOn_77 : decode cX12_nearestOn 77 = .ok (.getfield 35, 3) := by decide +kernel
theorem dX12_nearestOn_80 : decode cX12_nearestOn 80 = .ok (.iload_n 3, 1) := by decide +kernel
theorem dX12_nearestOn_81 : decode cX12_nearestOn 81 = .ok (.iaload, 1) := by decide +kernel
theorem dX12_nearestOn_82 : decode cX12_nearestOn 82 = .ok (.iload_n 1, 1) := by decide +kernel
theorem dX12_nearestOn_83 : decode cX12_nearestOn 83 = .ok (.invokestatic 95, 3) := by decide +kernel
theorem dX12_nearestOn_86 : decode cX12_nearestOn 86 = .ok (.if_icmp .ge 8, 3) := by decide +kernel
theorem dX12_nearestOn_89 : decode cX12_nearestOn 89 = .ok (.iload 4, 2) := by decide +kernel
theorem dX12_nearestOn_91 : decode cX12_nearestOn 91 = .ok (.goto 4, 3) := by decide +kernel
theorem dX12_nearestOn_94 : decode cX12_nearestOn 94 = .ok (.iload_n 3, 1) := by decide +kernel
theorem dX12_nearestOn_95 : decode cX12_nearestOn 95 = .ok (.istore_n 3, 1) := by decide +kernel
theorem dX12_nearestOn_96 : decode cX12_nearestOn 96 = .ok (.iinc 4 1, 3) := by decide +kernel
theorem dX12_nearestOn_99 : decode cX12_nearestOn 99 = .ok (.goto (-94), 3) := by decide +kernel
theorem dX12_nearestOn_102 : decode cX12_nearestOn 102 = .ok (.iload_n 3, 1) := by decide +kernel
theorem dX12_nearestOn_103 : decode cX12_nearestOn 103 = .ok (.ireturn, 1) := by decide +kernel
theorem dX12_both_0 : decode cX12_both 0 = .ok (.iconst 0, 1) := by decide +kernel
theorem dX12_both_1 : decode cX12_both 1 = .ok (.istore_n 2, 1) := by decide +kernel
theorem dX12_both_2 : decode cX12_both 2 = .ok (.iload_n 2, 1) := by decide +kernel
theorem dX12_both_3 : decode cX12_both 3 = .ok (.aload_n 0, 1) := by decide +kernel
theorem dX12_both_4 : decode cX12_both 4 = .ok (.getfield 17, 3) := by decide +kernel
theorem dX12_both_7 : decode cX12_both 7 = .ok (.if_icmp .ge 20, 3) := by decide +kernel
theorem dX12_both_10 : decode cX12_both 10 = .ok (.aload_n 0, 1) := by decide +kernel
theorem dX12_both_11 : decode cX12_both 11 = .ok (.getfield 35, 3) := by decide +kernel
theorem dX12_both_14 : decode cX12_both 14 = .ok (.iload_n 2, 1) := by decide +kernel
theorem dX12_both_15 : decode cX12_both 15 = .ok (.iaload, 1) := by decide +kernel
theorem dX12_both_16 : decode cX12_both 16 = .ok (.iload_n 1, 1) := by decide +kernel
theorem dX12_both_17 : decode cX12_both 17 = .ok (.if_icmp .ne 4, 3) := by decide +kernel
theorem dX12_both_20 : decode cX12_both 20 = .ok (.return_, 1) := by decide +kernel
theorem dX12_both_21 : decode cX12_both 21 = .ok (.iinc 2 1, 3) := by decide +kernel
theorem dX12_both_24 : decode cX12_both 24 = .ok (.goto (-22), 3) := by decide +kernel
theorem dX12_both_27 : decode cX12_both 27 = .ok (.aload_n 0, 1) := by decide +kernel
theorem dX12_both_28 : decode cX12_both 28 = .ok (.iload_n 1, 1) := by decide +kernel
theorem dX12_both_29 : decode cX12_both 29 = .ok (.iconst 1, 1) := by decide +kernel
theorem dX12_both_30 : decode cX12_both 30 = .ok (.invokevirtual 121, 3) := by decide +kernel
theorem dX12_both_33 : decode cX12_both 33 = .ok (.istore_n 2, 1) := by decide +kernel
theorem dX12_both_34 : decode cX12_both 34 = .ok (.aload_n 0, 1) := by decide +kernel
theorem dX12_both_35 : decode cX12_both 35 = .ok (.iload_n 1, 1) := by decide +kernel
theorem dX12_both_36 : decode cX12_both 36 = .ok (.iconst 0, 1) := by decide +kernel
theorem dX12_both_37 : decode cX12_both 37 = .ok (.invokevirtual 121, 3) := by decide +kernel
theorem dX12_both_40 : decode cX12_both 40 = .ok (.istore_n 3, 1) := by decide +kernel
theorem dX12_both_41 : decode cX12_both 41 = .ok (.iload_n 2, 1) := by decide +kernel
theorem dX12_both_42 : decode cX12_both 42 = .ok (.iconst (-1), 1) := by decide +kernel
theorem dX12_both_43 : decode cX12_both 43 = .ok (.if_icmp .eq 8, 3) := by decide +kernel
theorem dX12_both_46 : decode cX12_both 46 = .ok (.iload_n 3, 1) := by decide +kernel
theorem dX12_both_47 : decode cX12_both 47 = .ok (.iconst (-1), 1) := by decide +kernel
theorem dX12_both_48 : decode cX12_both 48 = .ok (.if_icmp .ne 19, 3) := by decide +kernel
theorem dX12_both_51 : decode cX12_both 51 = .ok (.aload_n 0, 1) := by decide +kernel
theorem dX12_both_52 : decode cX12_both 52 = .ok (.iload_n 2, 1) := by decide +kernel
theorem dX12_both_53 : decode cX12_both 53 = .ok (.iconst (-1), 1) := by decide +kernel
theorem dX12_both_54 : decode cX12_both 54 = .ok (.if_icmp .ne 7, 3) := by decide +kernel
theorem dX12_both_57 : decode cX12_both 57 = .ok (.iload_n 3, 1) := by decide +kernel
theorem dX12_both_58 : decode cX12_both 58 = .ok (.goto 4, 3) := by decide +kernel
theorem dX12_both_61 : decode cX12_both 61 = .ok (.iload_n 2, 1) := by decide +kernel
theorem dX12_both_62 : decode cX12_both 62 = .ok (.iload_n 1, 1) := by decide +kernel
theorem dX12_both_63 : decode cX12_both 63 = .ok (.invokevirtual 125, 3) := by decide +kernel
theorem dX12_both_66 : decode cX12_both 66 = .ok (.return_, 1) := by decide +kernel
theorem dX12_both_67 : decode cX12_both 67 = .ok (.iload_n 1, 1) := by decide +kernel
theorem dX12_both_68 : decode cX12_both 68 = .ok (.aload_n 0, 1) := by decide +kernel
theorem dX12_both_69 : decode cX12_both 69 = .ok (.getfield 35, 3) := by decide +kernel
theorem dX12_both_72 : decode cX12_both 72 = .ok (.iload_n 2, 1) := by decide +kernel
theorem dX12_both_73 : decode cX12_both 73 = .ok (.iaload, 1) := by decide +kernel
theorem dX12_both_74 : decode cX12_both 74 = .ok (.isub, 1) := by decide +kernel
theorem dX12_both_75 : decode cX12_both 75 = .ok (.aload_n 0, 1) := by decide +kernel
theorem dX12_both_76 : decode cX12_both 76 = .ok (.getfield 35, 3) := by decide +kernel
theorem dX12_both_79 : decode cX12_both 79 = .ok (.iload_n 3, 1) := by decide +kernel
theorem dX12_both_80 : decode cX12_both 80 = .ok (.iaload, 1) := by decide +kernel
theorem dX12_both_81 : decode cX12_both 81 = .ok (.iload_n 1, 1) := by decide +kernel
theorem dX12_both_82 : decode cX12_both 82 = .ok (.isub, 1) := by decide +kernel
theorem dX12_both_83 : decode cX12_both 83 = .ok (.if_icmp .ge 14, 3) := by decide +kernel
theorem dX12_both_86 : decode cX12_both 86 = .ok (.iload_n 1, 1) := by decide +kernel
theorem dX12_both_87 : decode cX12_both 87 = .ok (.aload_n 0, 1) := by decide +kernel
theorem dX12_both_88 : decode cX12_both 88 = .ok (.getfield 35, 3) := by decide +kernel
theorem dX12_both_91 : decode cX12_both 91 = .ok (.iload_n 2, 1) := by decide +kernel
theorem dX12_both_92 : decode cX12_both 92 = .ok (.iaload, 1) := by decide +kernel
theorem dX12_both_93 : decode cX12_both 93 = .ok (.isub, 1) := by decide +kernel
theorem dX12_both_94 : decode cX12_both 94 = .ok (.goto 11, 3) := by decide +kernel
theorem dX12_both_97 : decode cX12_both 97 = .ok (.aload_n 0, 1) := by decide +kernel
theorem dX12_both_98 : decode cX12_both 98 = .ok (.getfield 35, 3) := by decide +kernel
theorem dX12_both_101 : decode cX12_both 101 = .ok (.iload_n 3, 1) := by decide +kernel
theorem dX12_both_102 : decode cX12_both 102 = .ok (.iaload, 1) := by decide +kernel
theorem dX12_both_103 : decode cX12_both 103 = .ok (.iload_n 1, 1) := by decide +kernel
theorem dX12_both_104 : decode cX12_both 104 = .ok (.isub, 1) := by decide +kernel
theorem dX12_both_105 : decode cX12_both 105 = .ok (.istore 4, 2) := by decide +kernel
theorem dX12_both_107 : decode cX12_both 107 = .ok (.aload_n 0, 1) := by decide +kernel
theorem dX12_both_108 : decode cX12_both 108 = .ok (.iload_n 2, 1) := by decide +kernel
theorem dX12_both_109 : decode cX12_both 109 = .ok (.aload_n 0, 1) := by decide +kernel
theorem dX12_both_110 : decode cX12_both 110 = .ok (.getfield 35, 3) := by decide +kernel
theorem dX12_both_113 : decode cX12_both 113 = .ok (.iload_n 2, 1) := by decide +kernel
theorem dX12_both_114 : decode cX12_both 114 = .ok (.iaload, 1) := by decide +kernel
theorem dX12_both_115 : decode cX12_both 115 = .ok (.iload 4, 2) := by decide +kernel
theorem dX12_both_117 : decode cX12_both 117 = .ok (.iadd, 1) := by decide +kernel
theorem dX12_both_118 : decode cX12_both 118 = .ok (.invokevirtual 125, 3) := by decide +kernel
theorem dX12_both_121 : decode cX12_both 121 = .ok (.aload_n 0, 1) := by decide +kernel
theorem dX12_both_122 : decode cX12_both 122 = .ok (.iload_n 3, 1) := by decide +kernel
theorem dX12_both_123 : decode cX12_both 123 = .ok (.aload_n 0, 1) := by decide +kernel
theorem dX12_both_124 : decode cX12_both 124 = .ok (.getfield 35, 3) := by decide +kernel
theorem dX12_both_127 : decode cX12_both 127 = .ok (.iload_n 3, 1) := by decide +kernel
theorem dX12_both_128 : decode cX12_both 128 = .ok (.iaload, 1) := by decide +kernel
theorem dX12_both_129 : decode cX12_both 129 = .ok (.iload 4, 2) := by decide +kernel
theorem dX12_both_131 : decode cX12_both 131 = .ok (.isub, 1) := by decide +kernel
theorem dX12_both_132 : decode cX12_both 132 = .ok (.invokevirtual 125, 3) := by decide +kernel
theorem dX12_both_135 : decode cX12_both 135 = .ok (.return_, 1) := by decide +kernel
theorem dX12_worksFirst_0 : decode cX12_worksFirst 0 = .ok (.aload_n 0, 1) := by decide +kernel
theorem dX12_worksFirst_1 : decode cX12_worksFirst 1 = .ok (.aload_n 0, 1) := by decide +kernel
theorem dX12_worksFirst_2 : decode cX12_worksFirst 2 = .ok (.invokevirtual 105, 3) := by decide +kernel
theorem dX12_worksFirst_5 : decode cX12_worksFirst 5 = .ok (.putfield 129, 3) := by decide +kernel
theorem dX12_worksFirst_8 : decode cX12_worksFirst 8 = .ok (.iconst 0, 1) := by decide +kernel
theorem dX12_worksFirst_9 : decode cX12_worksFirst 9 = .ok (.istore_n 1, 1) := by decide +kernel
theorem dX12_worksFirst_10 : decode cX12_worksFirst 10 = .ok (.iload_n 1, 1) := by decide +kernel
theorem dX12_worksFirst_11 : decode cX12_worksFirst 11 = .ok (.sipush 216, 3) := by decide +kernel
theorem dX12_worksFirst_14 : decode cX12_worksFirst 14 = .ok (.if_icmp .ge 106, 3) := by decide +kernel
theorem dX12_worksFirst_17 : decode cX12_worksFirst 17 = .ok (.aload_n 0, 1) := by decide +kernel
theorem dX12_worksFirst_18 : decode cX12_worksFirst 18 = .ok (.getfield 13, 3) := by decide +kernel
theorem dX12_worksFirst_21 : decode cX12_worksFirst 21 = .ok (.aload_n 0, 1) := by decide +kernel
theorem dX12_worksFirst_22 : decode cX12_worksFirst 22 = .ok (.getfield 20, 3) := by decide +kernel
theorem dX12_worksFirst_25 : decode cX12_worksFirst 25 = .ok (.iconst 0, 1) := by decide +kernel
theorem dX12_worksFirst_26 : decode cX12_worksFirst 26 = .ok (.iaload, 1) := by decide +kernel
theorem dX12_worksFirst_27 : decode cX12_worksFirst 27 = .ok (.iaload, 1) := by decide +kernel
theorem dX12_worksFirst_28 : decode cX12_worksFirst 28 = .ok (.istore_n 2, 1) := by decide +kernel
theorem dX12_worksFirst_29 : decode cX12_worksFirst 29 = .ok (.aload_n 0, 1) := by decide +kernel
theorem dX12_worksFirst_30 : decode cX12_worksFirst 30 = .ok (.getfield 13, 3) := by decide +kernel
theorem dX12_worksFirst_33 : decode cX12_worksFirst 33 = .ok (.aload_n 0, 1) := by decide +kernel
theorem dX12_worksFirst_34 : decode cX12_worksFirst 34 = .ok (.getfield 20, 3) := by decide +kernel
theorem dX12_worksFirst_37 : decode cX12_worksFirst 37 = .ok (.iconst 1, 1) := by decide +kernel
theorem dX12_worksFirst_38 : decode cX12_worksFirst 38 = .ok (.iaload, 1) := by decide +kernel
theorem dX12_worksFirst_39 : decode cX12_worksFirst 39 = .ok (.iaload, 1) := by decide +kernel
theorem dX12_worksFirst_40 : decode cX12_worksFirst 40 = .ok (.istore_n 3, 1) := by decide +kernel
theorem dX12_worksFirst_41 : decode cX12_worksFirst 41 = .ok (.aload_n 0, 1) := by decide +kernel
theorem dX12_worksFirst_42 : decode cX12_worksFirst 42 = .ok (.getfield 13, 3) := by decide +kernel
theorem dX12_worksFirst_45 : decode cX12_worksFirst 45 = .ok (.aload_n 0, 1) := by decide +kernel
theorem dX12_worksFirst_46 : decode cX12_worksFirst 46 = .ok (.getfield 20, 3) := by decide +kernel
theorem dX12_worksFirst_49 : decode cX12_worksFirst 49 = .ok (.iconst 2, 1) := by decide +kernel
theorem dX12_worksFirst_50 : decode cX12_worksFirst 50 = .ok (.iaload, 1) := by decide +kernel
theorem dX12_worksFirst_51 : decode cX12_worksFirst 51 = .ok (.iaload, 1) := by decide +kernel
theorem dX12_worksFirst_52 : decode cX12_worksFirst 52 = .ok (.istore 4, 2) := by decide +kernel
theorem dX12_worksFirst_54 : decode cX12_worksFirst 54 = .ok (.aload_n 0, 1) := by decide +kernel
theorem dX12_worksFirst_55 : decode cX12_worksFirst 55 = .ok (.getfield 38, 3) := by decide +kernel
theorem dX12_worksFirst_58 : decode cX12_worksFirst 58 = .ok (.iload_n 1, 1) := by decide +kernel
theorem dX12_worksFirst_59 : decode cX12_worksFirst 59 = .ok (.aload_n 0, 1) := by decide +kernel
theorem dX12_worksFirst_60 : decode cX12_worksFirst 60 = .ok (.iload_n 1, 1) := by decide +kernel
theorem dX12_worksFirst_61 : decode cX12_worksFirst 61 = .ok (.invokevirtual 99, 3) := by decide +kernel
theorem dX12_worksFirst_64 : decode cX12_worksFirst 64 = .ok (.ifCond .eq 47, 3) := by decide +kernel
theorem dX12_worksFirst_67 : decode cX12_worksFirst 67 = .ok (.aload_n 0, 1) := by decide +kernel
theorem dX12_worksFirst_68 : decode cX12_worksFirst 68 = .ok (.iload_n 2, 1) := by decide +kernel
theorem dX12_worksFirst_69 : decode cX12_worksFirst 69 = .ok (.iload_n 3, 1) := by decide +kernel
theorem dX12_worksFirst_70 : decode cX12_worksFirst 70 = .ok (.iload 4, 2) := by decide +kernel
theorem dX12_worksFirst_72 : decode cX12_worksFirst 72 = .ok (.aload_n 0, 1) := by decide +kernel
theorem dX12_worksFirst_73 : decode cX12_worksFirst 73 = .ok (.getfield 13, 3) := by decide +kernel
theorem dX12_worksFirst_76 : decode cX12_worksFirst 76 = .ok (.aload_n 0, 1) := by decide +kernel
theorem dX12_worksFirst_77 : decode cX12_worksFirst 77 = .ok (.iload_n 1, 1) := by decide +kernel
theorem dX12_worksFirst_78 : decode cX12_worksFirst 78 = .ok (.iconst 0, 1) := by decide +kernel
theorem dX12_worksFirst_79 : decode cX12_worksFirst 79 = .ok (.invokevirtual 87, 3) := by decide +kernel
theorem dX12_worksFirst_82 : decode cX12_worksFirst 82 = .ok (.iaload, 1) := by decide +kernel
theorem dX12_worksFirst_83 : decode cX12_worksFirst 83 = .ok (.aload_n 0, 1) := by decide +kernel
theorem dX12_worksFirst_84 : decode cX12_worksFirst 84 = .ok (.getfield 13, 3) := by decide +kernel
theorem dX12_worksFirst_87 : decode cX12_worksFirst 87 = .ok (.aload_n 0, 1) := by decide +kernel
theorem dX12_worksFirst_88 : decode cX12_worksFirst 88 = .ok (.iload_n 1, 1) := by decide +kernel
theorem dX12_worksFirst_89 : decode cX12_worksFirst 89 = .ok (.iconst 1, 1) := by decide +kernel
theorem dX12_worksFirst_90 : decode cX12_worksFirst 90 = .ok (.invokevirtual 87, 3) := by decide +kernel
theorem dX12_worksFirst_93 : decode cX12_worksFirst 93 = .ok (.iaload, 1) := by decide +kernel
theorem dX12_worksFirst_94 : decode cX12_worksFirst 94 = .ok (.aload_n 0, 1) := by decide +kernel
theorem dX12_worksFirst_95 : decode cX12_worksFirst 95 = .ok (.getfield 13, 3) := by decide +kernel
theorem dX12_worksFirst_98 : decode cX12_worksFirst 98 = .ok (.aload_n 0, 1) := by decide +kernel
theorem dX12_worksFirst_99 : decode cX12_worksFirst 99 = .ok (.iload_n 1, 1) := by decide +kernel
theorem dX12_worksFirst_100 : decode cX12_worksFirst 100 = .ok (.iconst 2, 1) := by decide +kernel
theorem dX12_worksFirst_101 : decode cX12_worksFirst 101 = .ok (.invokevirtual 87, 3) := by decide +kernel
theorem dX12_worksFirst_104 : decode cX12_worksFirst 104 = .ok (.iaload, 1) := by decide +kernel
theorem dX12_worksFirst_105 : decode cX12_worksFirst 105 = .ok (.invokevirtual 132, 3) := by decide +kernel
theorem dX12_worksFirst_108 : decode cX12_worksFirst 108 = .ok (.goto 5, 3) := by decide +kernel
theorem dX12_worksFirst_111 : decode cX12_worksFirst 111 = .ok (.ldc 98, 2) := by decide +kernel
theorem dX12_worksFirst_113 : decode cX12_worksFirst 113 = .ok (.iastore, 1) := by decide +kernel
theorem dX12_worksFirst_114 : decode cX12_worksFirst 114 = .ok (.iinc 1 1, 3) := by decide +kernel
theorem dX12_worksFirst_117 : decode cX12_worksFirst 117 = .ok (.goto (-107), 3) := by decide +kernel
theorem dX12_worksFirst_120 : decode cX12_worksFirst 120 = .ok (.return_, 1) := by decide +kernel
theorem dX12_worksOn_0 : decode cX12_worksOn 0 = .ok (.iconst 0, 1) := by decide +kernel
theorem dX12_worksOn_1 : decode cX12_worksOn 1 = .ok (.istore_n 2, 1) := by decide +kernel
theorem dX12_worksOn_2 : decode cX12_worksOn 2 = .ok (.iload_n 2, 1) := by decide +kernel
theorem dX12_worksOn_3 : decode cX12_worksOn 3 = .ok (.sipush 216, 3) := by decide +kernel
theorem dX12_worksOn_6 : decode cX12_worksOn 6 = .ok (.if_icmp .ge 82, 3) := by decide +kernel
theorem dX12_worksOn_9 : decode cX12_worksOn 9 = .ok (.ldc 98, 2) := by decide +kernel
theorem dX12_worksOn_11 : decode cX12_worksOn 11 = .ok (.istore_n 3, 1) := by decide +kernel
theorem dX12_worksOn_12 : decode cX12_worksOn 12 = .ok (.iconst 0, 1) := by decide +kernel
theorem dX12_worksOn_13 : decode cX12_worksOn 13 = .ok (.istore 4, 2) := by decide +kernel
theorem dX12_worksOn_15 : decode cX12_worksOn 15 = .ok (.iload 4, 2) := by decide +kernel
theorem dX12_worksOn_17 : decode cX12_worksOn 17 = .ok (.aload_n 0, 1) := by decide +kernel
theorem dX12_worksOn_18 : decode cX12_worksOn 18 = .ok (.getfield 17, 3) := by decide +kernel
theorem dX12_worksOn_21 : decode cX12_worksOn 21 = .ok (.if_icmp .ge 54, 3) := by decide +kernel
theorem dX12_worksOn_24 : decode cX12_worksOn 24 = .ok (.aload_n 0, 1) := by decide +kernel
theorem dX12_worksOn_25 : decode cX12_worksOn 25 = .ok (.iload_n 2, 1) := by decide +kernel
theorem dX12_worksOn_26 : decode cX12_worksOn 26 = .ok (.invokevirtual 99, 3) := by decide +kernel
theorem dX12_worksOn_29 : decode cX12_worksOn 29 = .ok (.ifCond .eq 46, 3) := by decide +kernel
theorem dX12_worksOn_32 : decode cX12_worksOn 32 = .ok (.aload_n 0, 1) := by decide +kernel
theorem dX12_worksOn_33 : decode cX12_worksOn 33 = .ok (.getfield 38, 3) := by decide +kernel
theorem dX12_worksOn_36 : decode cX12_worksOn 36 = .ok (.aload_n 0, 1) := by decide +kernel
theorem dX12_worksOn_37 : decode cX12_worksOn 37 = .ok (.iload_n 2, 1) := by decide +kernel
theorem dX12_worksOn_38 : decode cX12_worksOn 38 = .ok (.iload 4, 2) := by decide +kernel
theorem dX12_worksOn_40 : decode cX12_worksOn 40 = .ok (.iload_n 1, 1) := by decide +kernel
theorem dX12_worksOn_41 : decode cX12_worksOn 41 = .ok (.invokevirtual 91, 3) := by decide +kernel
theorem dX12_worksOn_44 : decode cX12_worksOn 44 = .ok (.iaload, 1) := by decide +kernel
theorem dX12_worksOn_45 : decode cX12_worksOn 45 = .ok (.aload_n 0, 1) := by decide +kernel
theorem dX12_worksOn_46 : decode cX12_worksOn 46 = .ok (.iload_n 2, 1) := by decide +kernel
theorem dX12_worksOn_47 : decode cX12_worksOn 47 = .ok (.iload 4, 2) := by decide +kernel
theorem dX12_worksOn_49 : decode cX12_worksOn 49 = .ok (.iload_n 1, 1) := by decide +kernel
theorem dX12_worksOn_50 : decode cX12_worksOn 50 = .ok (.invokevirtual 102, 3) := by decide +kernel
theorem dX12_worksOn_53 : decode cX12_worksOn 53 = .ok (.iadd, 1) := by decide +kernel
theorem dX12_worksOn_54 : decode cX12_worksOn 54 = .ok (.istore 5, 2) := by decide +kernel
theorem dX12_worksOn_56 : decode cX12_worksOn 56 = .ok (.iload 5, 2) := by decide +kernel
theorem dX12_worksOn_58 : decode cX12_worksOn 58 = .ok (.iload_n 3, 1) := by decide +kernel
theorem dX12_worksOn_59 : decode cX12_worksOn 59 = .ok (.if_icmp .ge 8, 3) := by decide +kernel
theorem dX12_worksOn_62 : decode cX12_worksOn 62 = .ok (.iload 5, 2) := by decide +kernel
theorem dX12_worksOn_64 : decode cX12_worksOn 64 = .ok (.goto 4, 3) := by decide +kernel
theorem dX12_worksOn_67 : decode cX12_worksOn 67 = .ok (.iload_n 3, 1) := by decide +kernel
theorem dX12_worksOn_68 : decode cX12_worksOn 68 = .ok (.istore_n 3, 1) := by decide +kernel
theorem dX12_worksOn_69 : decode cX12_worksOn 69 = .ok (.iinc 4 1, 3) := by decide +kernel
theorem dX12_worksOn_72 : decode cX12_worksOn 72 = .ok (.goto (-57), 3) := by decide +kernel
theorem dX12_worksOn_75 : decode cX12_worksOn 75 = .ok (.aload_n 0, 1) := by decide +kernel
theorem dX12_worksOn_76 : decode cX12_worksOn 76 = .ok (.getfield 41, 3) := by decide +kernel
theorem dX12_worksOn_79 : decode cX12_worksOn 79 = .ok (.iload_n 2, 1) := by decide +kernel
theorem dX12_worksOn_80 : decode cX12_worksOn 80 = .ok (.iload_n 3, 1) := by decide +kernel
theorem dX12_worksOn_81 : decode cX12_worksOn 81 = .ok (.iastore, 1) := by decide +kernel
theorem dX12_worksOn_82 : decode cX12_worksOn 82 = .ok (.iinc 2 1, 3) := by decide +kernel
theorem dX12_worksOn_85 : decode cX12_worksOn 85 = .ok (.goto (-83), 3) := by decide +kernel
theorem dX12_worksOn_88 : decode cX12_worksOn 88 = .ok (.iconst 0, 1) := by decide +kernel
theorem dX12_worksOn_89 : decode cX12_worksOn 89 = .ok (.istore_n 2, 1) := by decide +kernel
theorem dX12_worksOn_90 : decode cX12_worksOn 90 = .ok (.iload_n 2, 1) := by decide +kernel
theorem dX12_worksOn_91 : decode cX12_worksOn 91 = .ok (.sipush 216, 3) := by decide +kernel
theorem dX12_worksOn_94 : decode cX12_worksOn 94 = .ok (.if_icmp .ge 21, 3) := by decide +kernel
theorem dX12_worksOn_97 : decode cX12_worksOn 97 = .ok (.aload_n 0, 1) := by decide +kernel
theorem dX12_worksOn_98 : decode cX12_worksOn 98 = .ok (.getfield 38, 3) := by decide +kernel
theorem dX12_worksOn_101 : decode cX12_worksOn 101 = .ok (.iload_n 2, 1) := by decide +kernel
theorem dX12_worksOn_102 : decode cX12_worksOn 102 = .ok (.aload_n 0, 1) := by decide +kernel
theorem dX12_worksOn_103 : decode cX12_worksOn 103 = .ok (.getfield 41, 3) := by decide +kernel
theorem dX12_worksOn_106 : decode cX12_worksOn 106 = .ok (.iload_n 2, 1) := by decide +kernel
theorem dX12_worksOn_107 : decode cX12_worksOn 107 = .ok (.iaload, 1) := by decide +kernel
theorem dX12_worksOn_108 : decode cX12_worksOn 108 = .ok (.iastore, 1) := by decide +kernel
theorem dX12_worksOn_109 : decode cX12_worksOn 109 = .ok (.iinc 2 1, 3) := by decide +kernel
theorem dX12_worksOn_112 : decode cX12_worksOn 112 = .ok (.goto (-22), 3) := by decide +kernel
theorem dX12_worksOn_115 : decode cX12_worksOn 115 = .ok (.return_, 1) := by decide +kernel
theorem dX12_goesByWork_0 : decode cX12_goesByWork 0 = .ok (.aload_n 0, 1) := by decide +kernel
theorem dX12_goesByWork_1 : decode cX12_goesByWork 1 = .ok (.iload_n 1, 1) := by decide +kernel
theorem dX12_goesByWork_2 : decode cX12_goesByWork 2 = .ok (.invokevirtual 136, 3) := by decide +kernel
theorem dX12_goesByWork_5 : decode cX12_goesByWork 5 = .ok (.iconst 0, 1) := by decide +kernel
theorem dX12_goesByWork_6 : decode cX12_goesByWork 6 = .ok (.istore_n 2, 1) := by decide +kernel
theorem dX12_goesByWork_7 : decode cX12_goesByWork 7 = .ok (.iconst 1, 1) := by decide +kernel
theorem dX12_goesByWork_8 : decode cX12_goesByWork 8 = .ok (.istore_n 3, 1) := by decide +kernel
theorem dX12_goesByWork_9 : decode cX12_goesByWork 9 = .ok (.iload_n 3, 1) := by decide +kernel
theorem dX12_goesByWork_10 : decode cX12_goesByWork 10 = .ok (.aload_n 0, 1) := by decide +kernel
theorem dX12_goesByWork_11 : decode cX12_goesByWork 11 = .ok (.getfield 17, 3) := by decide +kernel
theorem dX12_goesByWork_14 : decode cX12_goesByWork 14 = .ok (.if_icmp .ge 74, 3) := by decide +kernel
theorem dX12_goesByWork_17 : decode cX12_goesByWork 17 = .ok (.aload_n 0, 1) := by decide +kernel
theorem dX12_goesByWork_18 : decode cX12_goesByWork 18 = .ok (.getfield 38, 3) := by decide +kernel
theorem dX12_goesByWork_21 : decode cX12_goesByWork 21 = .ok (.aload_n 0, 1) := by decide +kernel
theorem dX12_goesByWork_22 : decode cX12_goesByWork 22 = .ok (.aload_n 0, 1) := by decide +kernel
theorem dX12_goesByWork_23 : decode cX12_goesByWork 23 = .ok (.getfield 129, 3) := by decide +kernel
theorem dX12_goesByWork_26 : decode cX12_goesByWork 26 = .ok (.iload_n 3, 1) := by decide +kernel
theorem dX12_goesByWork_27 : decode cX12_goesByWork 27 = .ok (.iload_n 1, 1) := by decide +kernel
theorem dX12_goesByWork_28 : decode cX12_goesByWork 28 = .ok (.invokevirtual 91, 3) := by decide +kernel
theorem dX12_goesByWork_31 : decode cX12_goesByWork 31 = .ok (.iaload, 1) := by decide +kernel
theorem dX12_goesByWork_32 : decode cX12_goesByWork 32 = .ok (.aload_n 0, 1) := by decide +kernel
theorem dX12_goesByWork_33 : decode cX12_goesByWork 33 = .ok (.aload_n 0, 1) := by decide +kernel
theorem dX12_goesByWork_34 : decode cX12_goesByWork 34 = .ok (.getfield 129, 3) := by decide +kernel
theorem dX12_goesByWork_37 : decode cX12_goesByWork 37 = .ok (.iload_n 3, 1) := by decide +kernel
theorem dX12_goesByWork_38 : decode cX12_goesByWork 38 = .ok (.iload_n 1, 1) := by decide +kernel
theorem dX12_goesByWork_39 : decode cX12_goesByWork 39 = .ok (.invokevirtual 102, 3) := by decide +kernel
theorem dX12_goesByWork_42 : decode cX12_goesByWork 42 = .ok (.iadd, 1) := by decide +kernel
theorem dX12_goesByWork_43 : decode cX12_goesByWork 43 = .ok (.istore 4, 2) := by decide +kernel
theorem dX12_goesByWork_45 : decode cX12_goesByWork 45 = .ok (.iload 4, 2) := by decide +kernel
theorem dX12_goesByWork_47 : decode cX12_goesByWork 47 = .ok (.aload_n 0, 1) := by decide +kernel
theorem dX12_goesByWork_48 : decode cX12_goesByWork 48 = .ok (.getfield 38, 3) := by decide +kernel
theorem dX12_goesByWork_51 : decode cX12_goesByWork 51 = .ok (.aload_n 0, 1) := by decide +kernel
theorem dX12_goesByWork_52 : decode cX12_goesByWork 52 = .ok (.aload_n 0, 1) := by decide +kernel
theorem dX12_goesByWork_53 : decode cX12_goesByWork 53 = .ok (.getfield 129, 3) := by decide +kernel
theorem dX12_goesByWork_56 : decode cX12_goesByWork 56 = .ok (.iload_n 2, 1) := by decide +kernel
theorem dX12_goesByWork_57 : decode cX12_goesByWork 57 = .ok (.iload_n 1, 1) := by decide +kernel
theorem dX12_goesByWork_58 : decode cX12_goesByWork 58 = .ok (.invokevirtual 91, 3) := by decide +kernel
theorem dX12_goesByWork_61 : decode cX12_goesByWork 61 = .ok (.iaload, 1) := by decide +kernel
theorem dX12_goesByWork_62 : decode cX12_goesByWork 62 = .ok (.aload_n 0, 1) := by decide +kernel
theorem dX12_goesByWork_63 : decode cX12_goesByWork 63 = .ok (.aload_n 0, 1) := by decide +kernel
theorem dX12_goesByWork_64 : decode cX12_goesByWork 64 = .ok (.getfield 129, 3) := by decide +kernel
theorem dX12_goesByWork_67 : decode cX12_goesByWork 67 = .ok (.iload_n 2, 1) := by decide +kernel
theorem dX12_goesByWork_68 : decode cX12_goesByWork 68 = .ok (.iload_n 1, 1) := by decide +kernel
theorem dX12_goesByWork_69 : decode cX12_goesByWork 69 = .ok (.invokevirtual 102, 3) := by decide +kernel
theorem dX12_goesByWork_72 : decode cX12_goesByWork 72 = .ok (.iadd, 1) := by decide +kernel
theorem dX12_goesByWork_73 : decode cX12_goesByWork 73 = .ok (.if_icmp .ge 7, 3) := by decide +kernel
theorem dX12_goesByWork_76 : decode cX12_goesByWork 76 = .ok (.iload_n 3, 1) := by decide +kernel
theorem dX12_goesByWork_77 : decode cX12_goesByWork 77 = .ok (.goto 4, 3) := by decide +kernel
theorem dX12_goesByWork_80 : decode cX12_goesByWork 80 = .ok (.iload_n 2, 1) := by decide +kernel
theorem dX12_goesByWork_81 : decode cX12_goesByWork 81 = .ok (.istore_n 2, 1) := by decide +kernel
theorem dX12_goesByWork_82 : decode cX12_goesByWork 82 = .ok (.iinc 3 1, 3) := by decide +kernel
theorem dX12_goesByWork_85 : decode cX12_goesByWork 85 = .ok (.goto (-76), 3) := by decide +kernel
theorem dX12_goesByWork_88 : decode cX12_goesByWork 88 = .ok (.aload_n 0, 1) := by decide +kernel
theorem dX12_goesByWork_89 : decode cX12_goesByWork 89 = .ok (.iload_n 2, 1) := by decide +kernel
theorem dX12_goesByWork_90 : decode cX12_goesByWork 90 = .ok (.aload_n 0, 1) := by decide +kernel
theorem dX12_goesByWork_91 : decode cX12_goesByWork 91 = .ok (.getfield 13, 3) := by decide +kernel
theorem dX12_goesByWork_94 : decode cX12_goesByWork 94 = .ok (.iload_n 1, 1) := by decide +kernel
theorem dX12_goesByWork_95 : decode cX12_goesByWork 95 = .ok (.iaload, 1) := by decide +kernel
theorem dX12_goesByWork_96 : decode cX12_goesByWork 96 = .ok (.invokevirtual 125, 3) := by decide +kernel
theorem dX12_goesByWork_99 : decode cX12_goesByWork 99 = .ok (.aload_n 0, 1) := by decide +kernel
theorem dX12_goesByWork_100 : decode cX12_goesByWork 100 = .ok (.aload_n 0, 1) := by decide +kernel
theorem dX12_goesByWork_101 : decode cX12_goesByWork 101 = .ok (.aload_n 0, 1) := by decide +kernel
theorem dX12_goesByWork_102 : decode cX12_goesByWork 102 = .ok (.getfield 129, 3) := by decide +kernel
theorem dX12_goesByWork_105 : decode cX12_goesByWork 105 = .ok (.iload_n 2, 1) := by decide +kernel
theorem dX12_goesByWork_106 : decode cX12_goesByWork 106 = .ok (.iload_n 1, 1) := by decide +kernel
theorem dX12_goesByWork_107 : decode cX12_goesByWork 107 = .ok (.invokevirtual 91, 3) := by decide +kernel
theorem dX12_goesByWork_110 : decode cX12_goesByWork 110 = .ok (.putfield 129, 3) := by decide +kernel
theorem dX12_goesByWork_113 : decode cX12_goesByWork 113 = .ok (.return_, 1) := by decide +kernel
theorem dX12_goesOn_0 : decode cX12_goesOn 0 = .ok (.aload_n 0, 1) := by decide +kernel
theorem dX12_goesOn_1 : decode cX12_goesOn 1 = .ok (.getfield 13, 3) := by decide +kernel
theorem dX12_goesOn_4 : decode cX12_goesOn 4 = .ok (.aload_n 0, 1) := by decide +kernel
theorem dX12_goesOn_5 : decode cX12_goesOn 5 = .ok (.getfield 26, 3) := by decide +kernel
theorem dX12_goesOn_8 : decode cX12_goesOn 8 = .ok (.iload_n 2, 1) := by decide +kernel
theorem dX12_goesOn_9 : decode cX12_goesOn 9 = .ok (.iaload, 1) := by decide +kernel
theorem dX12_goesOn_10 : decode cX12_goesOn 10 = .ok (.iaload, 1) := by decide +kernel
theorem dX12_goesOn_11 : decode cX12_goesOn 11 = .ok (.istore_n 3, 1) := by decide +kernel
theorem dX12_goesOn_12 : decode cX12_goesOn 12 = .ok (.iload_n 1, 1) := by decide +kernel
theorem dX12_goesOn_13 : decode cX12_goesOn 13 = .ok (.ifCond .ne 16, 3) := by decide +kernel
theorem dX12_goesOn_16 : decode cX12_goesOn 16 = .ok (.aload_n 0, 1) := by decide +kernel
theorem dX12_goesOn_17 : decode cX12_goesOn 17 = .ok (.aload_n 0, 1) := by decide +kernel
theorem dX12_goesOn_18 : decode cX12_goesOn 18 = .ok (.iload_n 3, 1) := by decide +kernel
theorem dX12_goesOn_19 : decode cX12_goesOn 19 = .ok (.invokevirtual 140, 3) := by decide +kernel
theorem dX12_goesOn_22 : decode cX12_goesOn 22 = .ok (.iload_n 3, 1) := by decide +kernel
theorem dX12_goesOn_23 : decode cX12_goesOn 23 = .ok (.invokevirtual 125, 3) := by decide +kernel
theorem dX12_goesOn_26 : decode cX12_goesOn 26 = .ok (.goto 62, 3) := by decide +kernel
theorem dX12_goesOn_29 : decode cX12_goesOn 29 = .ok (.iload_n 1, 1) := by decide +kernel
theorem dX12_goesOn_30 : decode cX12_goesOn 30 = .ok (.iconst 1, 1) := by decide +kernel
theorem dX12_goesOn_31 : decode cX12_goesOn 31 = .ok (.if_icmp .ne 11, 3) := by decide +kernel
theorem dX12_goesOn_34 : decode cX12_goesOn 34 = .ok (.aload_n 0, 1) := by decide +kernel
theorem dX12_goesOn_35 : decode cX12_goesOn 35 = .ok (.iload_n 3, 1) := by decide +kernel
theorem dX12_goesOn_36 : decode cX12_goesOn 36 = .ok (.invokevirtual 144, 3) := by decide +kernel
theorem dX12_goesOn_39 : decode cX12_goesOn 39 = .ok (.goto 49, 3) := by decide +kernel
theorem dX12_goesOn_42 : decode cX12_goesOn 42 = .ok (.iload_n 1, 1) := by decide +kernel
theorem dX12_goesOn_43 : decode cX12_goesOn 43 = .ok (.iconst 2, 1) := by decide +kernel
theorem dX12_goesOn_44 : decode cX12_goesOn 44 = .ok (.if_icmp .ne 16, 3) := by decide +kernel
theorem dX12_goesOn_47 : decode cX12_goesOn 47 = .ok (.aload_n 0, 1) := by decide +kernel
theorem dX12_goesOn_48 : decode cX12_goesOn 48 = .ok (.aload_n 0, 1) := by decide +kernel
theorem dX12_goesOn_49 : decode cX12_goesOn 49 = .ok (.getfield 26, 3) := by decide +kernel
theorem dX12_goesOn_52 : decode cX12_goesOn 52 = .ok (.iload_n 2, 1) := by decide +kernel
theorem dX12_goesOn_53 : decode cX12_goesOn 53 = .ok (.iaload, 1) := by decide +kernel
theorem dX12_goesOn_54 : decode cX12_goesOn 54 = .ok (.invokevirtual 147, 3) := by decide +kernel
theorem dX12_goesOn_57 : decode cX12_goesOn 57 = .ok (.goto 31, 3) := by decide +kernel
theorem dX12_goesOn_60 : decode cX12_goesOn 60 = .ok (.aload_n 0, 1) := by decide +kernel
theorem dX12_goesOn_61 : decode cX12_goesOn 61 = .ok (.iload_n 2, 1) := by decide +kernel
theorem dX12_goesOn_62 : decode cX12_goesOn 62 = .ok (.invokevirtual 150, 3) := by decide +kernel
theorem dX12_goesOn_65 : decode cX12_goesOn 65 = .ok (.istore 4, 2) := by decide +kernel
theorem dX12_goesOn_67 : decode cX12_goesOn 67 = .ok (.aload_n 0, 1) := by decide +kernel
theorem dX12_goesOn_68 : decode cX12_goesOn 68 = .ok (.iload 4, 2) := by decide +kernel
theorem dX12_goesOn_70 : decode cX12_goesOn 70 = .ok (.iconst (-1), 1) := by decide +kernel
theorem dX12_goesOn_71 : decode cX12_goesOn 71 = .ok (.if_icmp .ne 11, 3) := by decide +kernel
theorem dX12_goesOn_74 : decode cX12_goesOn 74 = .ok (.aload_n 0, 1) := by decide +kernel
theorem dX12_goesOn_75 : decode cX12_goesOn 75 = .ok (.iload_n 3, 1) := by decide +kernel
theorem dX12_goesOn_76 : decode cX12_goesOn 76 = .ok (.invokevirtual 140, 3) := by decide +kernel
theorem dX12_goesOn_79 : decode cX12_goesOn 79 = .ok (.goto 5, 3) := by decide +kernel
theorem dX12_goesOn_82 : decode cX12_goesOn 82 = .ok (.iload 4, 2) := by decide +kernel
theorem dX12_goesOn_84 : decode cX12_goesOn 84 = .ok (.iload_n 3, 1) := by decide +kernel
theorem dX12_goesOn_85 : decode cX12_goesOn 85 = .ok (.invokevirtual 125, 3) := by decide +kernel
theorem dX12_goesOn_88 : decode cX12_goesOn 88 = .ok (.return_, 1) := by decide +kernel
theorem dX12_first_0 : decode cX12_first 0 = .ok (.iload_n 1, 1) := by decide +kernel
theorem dX12_first_1 : decode cX12_first 1 = .ok (.aload_n 0, 1) := by decide +kernel
theorem dX12_first_2 : decode cX12_first 2 = .ok (.getfield 77, 3) := by decide +kernel
theorem dX12_first_5 : decode cX12_first 5 = .ok (.if_icmp .ge 7, 3) := by decide +kernel
theorem dX12_first_8 : decode cX12_first 8 = .ok (.iload_n 1, 1) := by decide +kernel
theorem dX12_first_9 : decode cX12_first 9 = .ok (.goto 7, 3) := by decide +kernel
theorem dX12_first_12 : decode cX12_first 12 = .ok (.aload_n 0, 1) := by decide +kernel
theorem dX12_first_13 : decode cX12_first 13 = .ok (.getfield 77, 3) := by decide +kernel
theorem dX12_first_16 : decode cX12_first 16 = .ok (.ireturn, 1) := by decide +kernel
theorem dX12_runs_0 : decode cX12_runs 0 = .ok (.aload_n 0, 1) := by decide +kernel
theorem dX12_runs_1 : decode cX12_runs 1 = .ok (.invokevirtual 153, 3) := by decide +kernel
theorem dX12_runs_4 : decode cX12_runs 4 = .ok (.iload_n 1, 1) := by decide +kernel
theorem dX12_runs_5 : decode cX12_runs 5 = .ok (.iconst 2, 1) := by decide +kernel
theorem dX12_runs_6 : decode cX12_runs 6 = .ok (.if_icmp .ne 7, 3) := by decide +kernel
theorem dX12_runs_9 : decode cX12_runs 9 = .ok (.aload_n 0, 1) := by decide +kernel
theorem dX12_runs_10 : decode cX12_runs 10 = .ok (.invokevirtual 155, 3) := by decide +kernel
theorem dX12_runs_13 : decode cX12_runs 13 = .ok (.iconst 0, 1) := by decide +kernel
theorem dX12_runs_14 : decode cX12_runs 14 = .ok (.istore_n 3, 1) := by decide +kernel
theorem dX12_runs_15 : decode cX12_runs 15 = .ok (.iload_n 3, 1) := by decide +kernel
theorem dX12_runs_16 : decode cX12_runs 16 = .ok (.aload_n 0, 1) := by decide +kernel
theorem dX12_runs_17 : decode cX12_runs 17 = .ok (.iload_n 2, 1) := by decide +kernel
theorem dX12_runs_18 : decode cX12_runs 18 = .ok (.invokevirtual 158, 3) := by decide +kernel
theorem dX12_runs_21 : decode cX12_runs 21 = .ok (.if_icmp .ge 15, 3) := by decide +kernel
theorem dX12_runs_24 : decode cX12_runs 24 = .ok (.aload_n 0, 1) := by decide +kernel
theorem dX12_runs_25 : decode cX12_runs 25 = .ok (.iload_n 1, 1) := by decide +kernel
theorem dX12_runs_26 : decode cX12_runs 26 = .ok (.iload_n 3, 1) := by decide +kernel
theorem dX12_runs_27 : decode cX12_runs 27 = .ok (.invokevirtual 161, 3) := by decide +kernel
theorem dX12_runs_30 : decode cX12_runs 30 = .ok (.iinc 3 1, 3) := by decide +kernel
theorem dX12_runs_33 : decode cX12_runs 33 = .ok (.goto (-18), 3) := by decide +kernel
theorem dX12_runs_36 : decode cX12_runs 36 = .ok (.return_, 1) := by decide +kernel
theorem dX12_keep_0 : decode cX12_keep 0 = .ok (.iconst 0, 1) := by decide +kernel
theorem dX12_keep_1 : decode cX12_keep 1 = .ok (.istore_n 2, 1) := by decide +kernel
theorem dX12_keep_2 : decode cX12_keep 2 = .ok (.iload_n 2, 1) := by decide +kernel
theorem dX12_keep_3 : decode cX12_keep 3 = .ok (.iconst 3, 1) := by decide +kernel
theorem dX12_keep_4 : decode cX12_keep 4 = .ok (.if_icmp .ge 15, 3) := by decide +kernel
theorem dX12_keep_7 : decode cX12_keep 7 = .ok (.aload_n 1, 1) := by decide +kernel
theorem dX12_keep_8 : decode cX12_keep 8 = .ok (.iload_n 2, 1) := by decide +kernel
theorem dX12_keep_9 : decode cX12_keep 9 = .ok (.aload_n 0, 1) := by decide +kernel
theorem dX12_keep_10 : decode cX12_keep 10 = .ok (.iload_n 2, 1) := by decide +kernel
theorem dX12_keep_11 : decode cX12_keep 11 = .ok (.iaload, 1) := by decide +kernel
theorem dX12_keep_12 : decode cX12_keep 12 = .ok (.iastore, 1) := by decide +kernel
theorem dX12_keep_13 : decode cX12_keep 13 = .ok (.iinc 2 1, 3) := by decide +kernel
theorem dX12_keep_16 : decode cX12_keep 16 = .ok (.goto (-14), 3) := by decide +kernel
theorem dX12_keep_19 : decode cX12_keep 19 = .ok (.return_, 1) := by decide +kernel
theorem dX12_runsGuarded_0 : decode cX12_runsGuarded 0 = .ok (.aload_n 0, 1) := by decide +kernel
theorem dX12_runsGuarded_1 : decode cX12_runsGuarded 1 = .ok (.iconst 3, 1) := by decide +kernel
theorem dX12_runsGuarded_2 : decode cX12_runsGuarded 2 = .ok (.putfield 164, 3) := by decide +kernel
theorem dX12_runsGuarded_5 : decode cX12_runsGuarded 5 = .ok (.aload_n 0, 1) := by decide +kernel
theorem dX12_runsGuarded_6 : decode cX12_runsGuarded 6 = .ok (.iconst 0, 1) := by decide +kernel
theorem dX12_runsGuarded_7 : decode cX12_runsGuarded 7 = .ok (.putfield 167, 3) := by decide +kernel
theorem dX12_runsGuarded_10 : decode cX12_runsGuarded 10 = .ok (.aload_n 0, 1) := by decide +kernel
theorem dX12_runsGuarded_11 : decode cX12_runsGuarded 11 = .ok (.invokevirtual 153, 3) := by decide +kernel
theorem dX12_runsGuarded_14 : decode cX12_runsGuarded 14 = .ok (.aload_n 0, 1) := by decide +kernel
theorem dX12_runsGuarded_15 : decode cX12_runsGuarded 15 = .ok (.getfield 35, 3) := by decide +kernel
theorem dX12_runsGuarded_18 : decode cX12_runsGuarded 18 = .ok (.aload_n 0, 1) := by decide +kernel
theorem dX12_runsGuarded_19 : decode cX12_runsGuarded 19 = .ok (.getfield 44, 3) := by decide +kernel
theorem dX12_runsGuarded_22 : decode cX12_runsGuarded 22 = .ok (.invokestatic 170, 3) := by decide +kernel
theorem dX12_runsGuarded_25 : decode cX12_runsGuarded 25 = .ok (.aload_n 0, 1) := by decide +kernel
theorem dX12_runsGuarded_26 : decode cX12_runsGuarded 26 = .ok (.getfield 35, 3) := by decide +kernel
theorem dX12_runsGuarded_29 : decode cX12_runsGuarded 29 = .ok (.aload_n 0, 1) := by decide +kernel
theorem dX12_runsGuarded_30 : decode cX12_runsGuarded 30 = .ok (.getfield 47, 3) := by decide +kernel
theorem dX12_runsGuarded_33 : decode cX12_runsGuarded 33 = .ok (.invokestatic 170, 3) := by decide +kernel
theorem dX12_runsGuarded_36 : decode cX12_runsGuarded 36 = .ok (.aload_n 0, 1) := by decide +kernel
theorem dX12_runsGuarded_37 : decode cX12_runsGuarded 37 = .ok (.getfield 35, 3) := by decide +kernel
theorem dX12_runsGuarded_40 : decode cX12_runsGuarded 40 = .ok (.aload_n 0, 1) := by decide +kernel
theorem dX12_runsGuarded_41 : decode cX12_runsGuarded 41 = .ok (.getfield 50, 3) := by decide +kernel
theorem dX12_runsGuarded_44 : decode cX12_runsGuarded 44 = .ok (.invokestatic 170, 3) := by decide +kernel
theorem dX12_runsGuarded_47 : decode cX12_runsGuarded 47 = .ok (.iconst 0, 1) := by decide +kernel
theorem dX12_runsGuarded_48 : decode cX12_runsGuarded 48 = .ok (.istore_n 2, 1) := by decide +kernel
theorem dX12_runsGuarded_49 : decode cX12_runsGuarded 49 = .ok (.iconst 0, 1) := by decide +kernel
theorem dX12_runsGuarded_50 : decode cX12_runsGuarded 50 = .ok (.istore_n 3, 1) := by decide +kernel
theorem dX12_runsGuarded_51 : decode cX12_runsGuarded 51 = .ok (.iconst 0, 1) := by decide +kernel
theorem dX12_runsGuarded_52 : decode cX12_runsGuarded 52 = .ok (.istore 4, 2) := by decide +kernel
theorem dX12_runsGuarded_54 : decode cX12_runsGuarded 54 = .ok (.iload 4, 2) := by decide +kernel
theorem dX12_runsGuarded_56 : decode cX12_runsGuarded 56 = .ok (.aload_n 0, 1) := by decide +kernel
theorem dX12_runsGuarded_57 : decode cX12_runsGuarded 57 = .ok (.iload_n 1, 1) := by decide +kernel
theorem dX12_runsGuarded_58 : decode cX12_runsGuarded 58 = .ok (.invokevirtual 158, 3) := by decide +kernel
theorem dX12_runsGuarded_61 : decode cX12_runsGuarded 61 = .ok (.if_icmp .ge 226, 3) := by decide +kernel
theorem dX12_runsGuarded_64 : decode cX12_runsGuarded 64 = .ok (.aload_n 0, 1) := by decide +kernel
theorem dX12_runsGuarded_65 : decode cX12_runsGuarded 65 = .ok (.getfield 44, 3) := by decide +kernel
theorem dX12_runsGuarded_68 : decode cX12_runsGuarded 68 = .ok (.aload_n 0, 1) := by decide +kernel
theorem dX12_runsGuarded_69 : decode cX12_runsGuarded 69 = .ok (.getfield 35, 3) := by decide +kernel
theorem dX12_runsGuarded_72 : decode cX12_runsGuarded 72 = .ok (.invokestatic 170, 3) := by decide +kernel
theorem dX12_runsGuarded_75 : decode cX12_runsGuarded 75 = .ok (.aload_n 0, 1) := by decide +kernel
theorem dX12_runsGuarded_76 : decode cX12_runsGuarded 76 = .ok (.iconst 0, 1) := by decide +kernel
theorem dX12_runsGuarded_77 : decode cX12_runsGuarded 77 = .ok (.putfield 115, 3) := by decide +kernel
theorem dX12_runsGuarded_80 : decode cX12_runsGuarded 80 = .ok (.aload_n 0, 1) := by decide +kernel
theorem dX12_runsGuarded_81 : decode cX12_runsGuarded 81 = .ok (.iconst 1, 1) := by decide +kernel
theorem dX12_runsGuarded_82 : decode cX12_runsGuarded 82 = .ok (.iload 4, 2) := by decide +kernel
theorem dX12_runsGuarded_84 : decode cX12_runsGuarded 84 = .ok (.invokevirtual 161, 3) := by decide +kernel
theorem dX12_runsGuarded_87 : decode cX12_runsGuarded 87 = .ok (.iload_n 2, 1) := by decide +kernel
theorem dX12_runsGuarded_88 : decode cX12_runsGuarded 88 = .ok (.aload_n 0, 1) := by decide +kernel
theorem dX12_runsGuarded_89 : decode cX12_runsGuarded 89 = .ok (.getfield 115, 3) := by decide +kernel
theorem dX12_runsGuarded_92 : decode cX12_runsGuarded 92 = .ok (.iadd, 1) := by decide +kernel
theorem dX12_runsGuarded_93 : decode cX12_runsGuarded 93 = .ok (.istore_n 2, 1) := by decide +kernel
theorem dX12_runsGuarded_94 : decode cX12_runsGuarded 94 = .ok (.aload_n 0, 1) := by decide +kernel
theorem dX12_runsGuarded_95 : decode cX12_runsGuarded 95 = .ok (.getfield 35, 3) := by decide +kernel
theorem dX12_runsGuarded_98 : decode cX12_runsGuarded 98 = .ok (.aload_n 0, 1) := by decide +kernel
theorem dX12_runsGuarded_99 : decode cX12_runsGuarded 99 = .ok (.getfield 44, 3) := by decide +kernel
theorem dX12_runsGuarded_102 : decode cX12_runsGuarded 102 = .ok (.invokestatic 170, 3) := by decide +kernel
theorem dX12_runsGuarded_105 : decode cX12_runsGuarded 105 = .ok (.aload_n 0, 1) := by decide +kernel
theorem dX12_runsGuarded_106 : decode cX12_runsGuarded 106 = .ok (.getfield 47, 3) := by decide +kernel
theorem dX12_runsGuarded_109 : decode cX12_runsGuarded 109 = .ok (.aload_n 0, 1) := by decide +kernel
theorem dX12_runsGuarded_110 : decode cX12_runsGuarded 110 = .ok (.getfield 35, 3) := by decide +kernel
theorem dX12_runsGuarded_113 : decode cX12_runsGuarded 113 = .ok (.invokestatic 170, 3) := by decide +kernel
theorem dX12_runsGuarded_116 : decode cX12_runsGuarded 116 = .ok (.aload_n 0, 1) := by decide +kernel
theorem dX12_runsGuarded_117 : decode cX12_runsGuarded 117 = .ok (.iconst 0, 1) := by decide +kernel
theorem dX12_runsGuarded_118 : decode cX12_runsGuarded 118 = .ok (.putfield 115, 3) := by decide +kernel
theorem dX12_runsGuarded_121 : decode cX12_runsGuarded 121 = .ok (.aload_n 0, 1) := by decide +kernel
theorem dX12_runsGuarded_122 : decode cX12_runsGuarded 122 = .ok (.iconst 3, 1) := by decide +kernel
theorem dX12_runsGuarded_123 : decode cX12_runsGuarded 123 = .ok (.iload 4, 2) := by decide +kernel
theorem dX12_runsGuarded_125 : decode cX12_runsGuarded 125 = .ok (.invokevirtual 161, 3) := by decide +kernel
theorem dX12_runsGuarded_128 : decode cX12_runsGuarded 128 = .ok (.iload_n 3, 1) := by decide +kernel
theorem dX12_runsGuarded_129 : decode cX12_runsGuarded 129 = .ok (.aload_n 0, 1) := by decide +kernel
theorem dX12_runsGuarded_130 : decode cX12_runsGuarded 130 = .ok (.getfield 115, 3) := by decide +kernel
theorem dX12_runsGuarded_133 : decode cX12_runsGuarded 133 = .ok (.iadd, 1) := by decide +kernel
theorem dX12_runsGuarded_134 : decode cX12_runsGuarded 134 = .ok (.istore_n 3, 1) := by decide +kernel
theorem dX12_runsGuarded_135 : decode cX12_runsGuarded 135 = .ok (.aload_n 0, 1) := by decide +kernel
theorem dX12_runsGuarded_136 : decode cX12_runsGuarded 136 = .ok (.getfield 35, 3) := by decide +kernel
theorem dX12_runsGuarded_139 : decode cX12_runsGuarded 139 = .ok (.aload_n 0, 1) := by decide +kernel
theorem dX12_runsGuarded_140 : decode cX12_runsGuarded 140 = .ok (.getfield 47, 3) := by decide +kernel
theorem dX12_runsGuarded_143 : decode cX12_runsGuarded 143 = .ok (.invokestatic 170, 3) := by decide +kernel
theorem dX12_runsGuarded_146 : decode cX12_runsGuarded 146 = .ok (.aload_n 0, 1) := by decide +kernel
theorem dX12_runsGuarded_147 : decode cX12_runsGuarded 147 = .ok (.getfield 164, 3) := by decide +kernel
theorem dX12_runsGuarded_150 : decode cX12_runsGuarded 150 = .ok (.iconst 3, 1) := by decide +kernel
theorem dX12_runsGuarded_151 : decode cX12_runsGuarded 151 = .ok (.if_icmp .ne 21, 3) := by decide +kernel
theorem dX12_runsGuarded_154 : decode cX12_runsGuarded 154 = .ok (.iload_n 3, 1) := by decide +kernel
theorem dX12_runsGuarded_155 : decode cX12_runsGuarded 155 = .ok (.aload_n 0, 1) := by decide +kernel
theorem dX12_runsGuarded_156 : decode cX12_runsGuarded 156 = .ok (.getfield 23, 3) := by decide +kernel
theorem dX12_runsGuarded_159 : decode cX12_runsGuarded 159 = .ok (.iload_n 2, 1) := by decide +kernel
theorem dX12_runsGuarded_160 : decode cX12_runsGuarded 160 = .ok (.imul, 1) := by decide +kernel
theorem dX12_runsGuarded_161 : decode cX12_runsGuarded 161 = .ok (.if_icmp .le 11, 3) := by decide +kernel
theorem dX12_runsGuarded_164 : decode cX12_runsGuarded 164 = .ok (.aload_n 0, 1) := by decide +kernel
theorem dX12_runsGuarded_165 : decode cX12_runsGuarded 165 = .ok (.iconst 1, 1) := by decide +kernel
theorem dX12_runsGuarded_166 : decode cX12_runsGuarded 166 = .ok (.putfield 164, 3) := by decide +kernel
theorem dX12_runsGuarded_169 : decode cX12_runsGuarded 169 = .ok (.goto 26, 3) := by decide +kernel
theorem dX12_runsGuarded_172 : decode cX12_runsGuarded 172 = .ok (.aload_n 0, 1) := by decide +kernel
theorem dX12_runsGuarded_173 : decode cX12_runsGuarded 173 = .ok (.getfield 164, 3) := by decide +kernel
theorem dX12_runsGuarded_176 : decode cX12_runsGuarded 176 = .ok (.iconst 1, 1) := by decide +kernel
theorem dX12_runsGuarded_177 : decode cX12_runsGuarded 177 = .ok (.if_icmp .ne 18, 3) := by decide +kernel
theorem dX12_runsGuarded_180 : decode cX12_runsGuarded 180 = .ok (.iload_n 2, 1) := by decide +kernel
theorem dX12_runsGuarded_181 : decode cX12_runsGuarded 181 = .ok (.aload_n 0, 1) := by decide +kernel
theorem dX12_runsGuarded_182 : decode cX12_runsGuarded 182 = .ok (.getfield 23, 3) := by decide +kernel
theorem dX12_runsGuarded_185 : decode cX12_runsGuarded 185 = .ok (.iload_n 3, 1) := by decide +kernel
theorem dX12_runsGuarded_186 : decode cX12_runsGuarded 186 = .ok (.imul, 1) := by decide +kernel
theorem dX12_runsGuarded_187 : decode cX12_runsGuarded 187 = .ok (.if_icmp .le 8, 3) := by decide +kernel
theorem dX12_runsGuarded_190 : decode cX12_runsGuarded 190 = .ok (.aload_n 0, 1) := by decide +kernel
theorem dX12_runsGuarded_191 : decode cX12_runsGuarded 191 = .ok (.iconst 3, 1) := by decide +kernel
theorem dX12_runsGuarded_192 : decode cX12_runsGuarded 192 = .ok (.putfield 164, 3) := by decide +kernel
theorem dX12_runsGuarded_195 : decode cX12_runsGuarded 195 = .ok (.aload_n 0, 1) := by decide +kernel
theorem dX12_runsGuarded_196 : decode cX12_runsGuarded 196 = .ok (.getfield 164, 3) := by decide +kernel
theorem dX12_runsGuarded_199 : decode cX12_runsGuarded 199 = .ok (.iconst 1, 1) := by decide +kernel
theorem dX12_runsGuarded_200 : decode cX12_runsGuarded 200 = .ok (.if_icmp .ne 10, 3) := by decide +kernel
theorem dX12_runsGuarded_203 : decode cX12_runsGuarded 203 = .ok (.aload_n 0, 1) := by decide +kernel
theorem dX12_runsGuarded_204 : decode cX12_runsGuarded 204 = .ok (.getfield 44, 3) := by decide +kernel
theorem dX12_runsGuarded_207 : decode cX12_runsGuarded 207 = .ok (.goto 7, 3) := by decide +kernel
theorem dX12_runsGuarded_210 : decode cX12_runsGuarded 210 = .ok (.aload_n 0, 1) := by decide +kernel
theorem dX12_runsGuarded_211 : decode cX12_runsGuarded 211 = .ok (.getfield 47, 3) := by decide +kernel
theorem dX12_runsGuarded_214 : decode cX12_runsGuarded 214 = .ok (.aload_n 0, 1) := by decide +kernel
theorem dX12_runsGuarded_215 : decode cX12_runsGuarded 215 = .ok (.getfield 35, 3) := by decide +kernel
theorem dX12_runsGuarded_218 : decode cX12_runsGuarded 218 = .ok (.invokestatic 170, 3) := by decide +kernel
theorem dX12_runsGuarded_221 : decode cX12_runsGuarded 221 = .ok (.aload_n 0, 1) := by decide +kernel
theorem dX12_runsGuarded_222 : decode cX12_runsGuarded 222 = .ok (.dup, 1) := by decide +kernel
theorem dX12_runsGuarded_223 : decode cX12_runsGuarded 223 = .ok (.getfield 167, 3) := by decide +kernel
theorem dX12_runsGuarded_226 : decode cX12_runsGuarded 226 = .ok (.aload_n 0, 1) := by decide +kernel
theorem dX12_runsGuarded_227 : decode cX12_runsGuarded 227 = .ok (.aload_n 0, 1) := by decide +kernel
theorem dX12_runsGuarded_228 : decode cX12_runsGuarded 228 = .ok (.getfield 50, 3) := by decide +kernel
theorem dX12_runsGuarded_231 : decode cX12_runsGuarded 231 = .ok (.iconst 0, 1) := by decide +kernel
theorem dX12_runsGuarded_232 : decode cX12_runsGuarded 232 = .ok (.iaload, 1) := by decide +kernel
theorem dX12_runsGuarded_233 : decode cX12_runsGuarded 233 = .ok (.aload_n 0, 1) := by decide +kernel
theorem dX12_runsGuarded_234 : decode cX12_runsGuarded 234 = .ok (.getfield 50, 3) := by decide +kernel
theorem dX12_runsGuarded_237 : decode cX12_runsGuarded 237 = .ok (.iconst 1, 1) := by decide +kernel
theorem dX12_runsGuarded_238 : decode cX12_runsGuarded 238 = .ok (.iaload, 1) := by decide +kernel
theorem dX12_runsGuarded_239 : decode cX12_runsGuarded 239 = .ok (.aload_n 0, 1) := by decide +kernel
theorem dX12_runsGuarded_240 : decode cX12_runsGuarded 240 = .ok (.getfield 50, 3) := by decide +kernel
theorem dX12_runsGuarded_243 : decode cX12_runsGuarded 243 = .ok (.iconst 2, 1) := by decide +kernel
theorem dX12_runsGuarded_244 : decode cX12_runsGuarded 244 = .ok (.iaload, 1) := by decide +kernel
theorem dX12_runsGuarded_245 : decode cX12_runsGuarded 245 = .ok (.aload_n 0, 1) := by decide +kernel
theorem dX12_runsGuarded_246 : decode cX12_runsGuarded 246 = .ok (.getfield 35, 3) := by decide +kernel
theorem dX12_runsGuarded_249 : decode cX12_runsGuarded 249 = .ok (.iconst 0, 1) := by decide +kernel
theorem dX12_runsGuarded_250 : decode cX12_runsGuarded 250 = .ok (.iaload, 1) := by decide +kernel
theorem dX12_runsGuarded_251 : decode cX12_runsGuarded 251 = .ok (.aload_n 0, 1) := by decide +kernel
theorem dX12_runsGuarded_252 : decode cX12_runsGuarded 252 = .ok (.getfield 35, 3) := by decide +kernel
theorem dX12_runsGuarded_255 : decode cX12_runsGuarded 255 = .ok (.iconst 1, 1) := by decide +kernel
theorem dX12_runsGuarded_256 : decode cX12_runsGuarded 256 = .ok (.iaload, 1) := by decide +kernel
theorem dX12_runsGuarded_257 : decode cX12_runsGuarded 257 = .ok (.aload_n 0, 1) := by decide +kernel
theorem dX12_runsGuarded_258 : decode cX12_runsGuarded 258 = .ok (.getfield 35, 3) := by decide +kernel
theorem dX12_runsGuarded_261 : decode cX12_runsGuarded 261 = .ok (.iconst 2, 1) := by decide +kernel
theorem dX12_runsGuarded_262 : decode cX12_runsGuarded 262 = .ok (.iaload, 1) := by decide +kernel
theorem dX12_runsGuarded_263 : decode cX12_runsGuarded 263 = .ok (.invokevirtual 132, 3) := by decide +kernel
theorem dX12_runsGuarded_266 : decode cX12_runsGuarded 266 = .ok (.iadd, 1) := by decide +kernel
theorem dX12_runsGuarded_267 : decode cX12_runsGuarded 267 = .ok (.putfield 167, 3) := by decide +kernel
theorem dX12_runsGuarded_270 : decode cX12_runsGuarded 270 = .ok (.aload_n 0, 1) := by decide +kernel
