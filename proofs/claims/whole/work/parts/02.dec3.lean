theorem dX2_canMake_37 : decode cX2_canMake 37 = .ok (.iaload, 1) := by decide +kernel
theorem dX2_canMake_38 : decode cX2_canMake 38 = .ok (.invokevirtual 76, 3) := by decide +kernel
theorem dX2_canMake_41 : decode cX2_canMake 41 = .ok (.ifCond .eq 16, 3) := by decide +kernel
theorem dX2_canMake_44 : decode cX2_canMake 44 = .ok (.aload_n 0, 1) := by decide +kernel
theorem dX2_canMake_45 : decode cX2_canMake 45 = .ok (.aload_n 0, 1) := by decide +kernel
theorem dX2_canMake_46 : decode cX2_canMake 46 = .ok (.getfield 16, 3) := by decide +kernel
theorem dX2_canMake_49 : decode cX2_canMake 49 = .ok (.iload_n 1, 1) := by decide +kernel
theorem dX2_canMake_50 : decode cX2_canMake 50 = .ok (.iaload, 1) := by decide +kernel
theorem dX2_canMake_51 : decode cX2_canMake 51 = .ok (.invokevirtual 79, 3) := by decide +kernel
theorem dX2_canMake_54 : decode cX2_canMake 54 = .ok (.ifCond .ne 29, 3) := by decide +kernel
theorem dX2_canMake_57 : decode cX2_canMake 57 = .ok (.aload_n 0, 1) := by decide +kernel
theorem dX2_canMake_58 : decode cX2_canMake 58 = .ok (.aload_n 0, 1) := by decide +kernel
theorem dX2_canMake_59 : decode cX2_canMake 59 = .ok (.getfield 16, 3) := by decide +kernel
theorem dX2_canMake_62 : decode cX2_canMake 62 = .ok (.iload_n 1, 1) := by decide +kernel
theorem dX2_canMake_63 : decode cX2_canMake 63 = .ok (.iaload, 1) := by decide +kernel
theorem dX2_canMake_64 : decode cX2_canMake 64 = .ok (.invokevirtual 76, 3) := by decide +kernel
theorem dX2_canMake_67 : decode cX2_canMake 67 = .ok (.ifCond .eq 20, 3) := by decide +kernel
theorem dX2_canMake_70 : decode cX2_canMake 70 = .ok (.aload_n 0, 1) := by decide +kernel
theorem dX2_canMake_71 : decode cX2_canMake 71 = .ok (.aload_n 0, 1) := by decide +kernel
theorem dX2_canMake_72 : decode cX2_canMake 72 = .ok (.getfield 13, 3) := by decide +kernel
theorem dX2_canMake_75 : decode cX2_canMake 75 = .ok (.iload_n 1, 1) := by decide +kernel
theorem dX2_canMake_76 : decode cX2_canMake 76 = .ok (.iaload, 1) := by decide +kernel
theorem dX2_canMake_77 : decode cX2_canMake 77 = .ok (.invokevirtual 79, 3) := by decide +kernel
theorem dX2_canMake_80 : decode cX2_canMake 80 = .ok (.ifCond .eq 7, 3) := by decide +kernel
theorem dX2_canMake_83 : decode cX2_canMake 83 = .ok (.iconst 1, 1) := by decide +kernel
theorem dX2_canMake_84 : decode cX2_canMake 84 = .ok (.goto 4, 3) := by decide +kernel
theorem dX2_canMake_87 : decode cX2_canMake 87 = .ok (.iconst 0, 1) := by decide +kernel
theorem dX2_canMake_88 : decode cX2_canMake 88 = .ok (.ireturn, 1) := by decide +kernel
theorem dX2_canMake_89 : decode cX2_canMake 89 = .ok (.aload_n 0, 1) := by decide +kernel
theorem dX2_canMake_90 : decode cX2_canMake 90 = .ok (.getfield 9, 3) := by decide +kernel
theorem dX2_canMake_93 : decode cX2_canMake 93 = .ok (.iload_n 1, 1) := by decide +kernel
theorem dX2_canMake_94 : decode cX2_canMake 94 = .ok (.iaload, 1) := by decide +kernel
theorem dX2_canMake_95 : decode cX2_canMake 95 = .ok (.iconst 4, 1) := by decide +kernel
theorem dX2_canMake_96 : decode cX2_canMake 96 = .ok (.if_icmp .ne 35, 3) := by decide +kernel
theorem dX2_canMake_99 : decode cX2_canMake 99 = .ok (.aload_n 0, 1) := by decide +kernel
theorem dX2_canMake_100 : decode cX2_canMake 100 = .ok (.aload_n 0, 1) := by decide +kernel
theorem dX2_canMake_101 : decode cX2_canMake 101 = .ok (.getfield 16, 3) := by decide +kernel
theorem dX2_canMake_104 : decode cX2_canMake 104 = .ok (.iload_n 1, 1) := by decide +kernel
theorem dX2_canMake_105 : decode cX2_canMake 105 = .ok (.iaload, 1) := by decide +kernel
theorem dX2_canMake_106 : decode cX2_canMake 106 = .ok (.invokevirtual 76, 3) := by decide +kernel
theorem dX2_canMake_109 : decode cX2_canMake 109 = .ok (.ifCond .eq 20, 3) := by decide +kernel
theorem dX2_canMake_112 : decode cX2_canMake 112 = .ok (.aload_n 0, 1) := by decide +kernel
theorem dX2_canMake_113 : decode cX2_canMake 113 = .ok (.aload_n 0, 1) := by decide +kernel
theorem dX2_canMake_114 : decode cX2_canMake 114 = .ok (.getfield 19, 3) := by decide +kernel
theorem dX2_canMake_117 : decode cX2_canMake 117 = .ok (.iload_n 1, 1) := by decide +kernel
theorem dX2_canMake_118 : decode cX2_canMake 118 = .ok (.iaload, 1) := by decide +kernel
theorem dX2_canMake_119 : decode cX2_canMake 119 = .ok (.invokevirtual 76, 3) := by decide +kernel
theorem dX2_canMake_122 : decode cX2_canMake 122 = .ok (.ifCond .eq 7, 3) := by decide +kernel
theorem dX2_canMake_125 : decode cX2_canMake 125 = .ok (.iconst 1, 1) := by decide +kernel
theorem dX2_canMake_126 : decode cX2_canMake 126 = .ok (.goto 4, 3) := by decide +kernel
theorem dX2_canMake_129 : decode cX2_canMake 129 = .ok (.iconst 0, 1) := by decide +kernel
theorem dX2_canMake_130 : decode cX2_canMake 130 = .ok (.ireturn, 1) := by decide +kernel
theorem dX2_canMake_131 : decode cX2_canMake 131 = .ok (.aload_n 0, 1) := by decide +kernel
theorem dX2_canMake_132 : decode cX2_canMake 132 = .ok (.getfield 9, 3) := by decide +kernel
theorem dX2_canMake_135 : decode cX2_canMake 135 = .ok (.iload_n 1, 1) := by decide +kernel
theorem dX2_canMake_136 : decode cX2_canMake 136 = .ok (.iaload, 1) := by decide +kernel
theorem dX2_canMake_137 : decode cX2_canMake 137 = .ok (.iconst 5, 1) := by decide +kernel
theorem dX2_canMake_138 : decode cX2_canMake 138 = .ok (.if_icmp .ne 48, 3) := by decide +kernel
theorem dX2_canMake_141 : decode cX2_canMake 141 = .ok (.aload_n 0, 1) := by decide +kernel
theorem dX2_canMake_142 : decode cX2_canMake 142 = .ok (.aload_n 0, 1) := by decide +kernel
theorem dX2_canMake_143 : decode cX2_canMake 143 = .ok (.getfield 13, 3) := by decide +kernel
theorem dX2_canMake_146 : decode cX2_canMake 146 = .ok (.iload_n 1, 1) := by decide +kernel
theorem dX2_canMake_147 : decode cX2_canMake 147 = .ok (.iaload, 1) := by decide +kernel
theorem dX2_canMake_148 : decode cX2_canMake 148 = .ok (.invokevirtual 76, 3) := by decide +kernel
theorem dX2_canMake_151 : decode cX2_canMake 151 = .ok (.ifCond .eq 33, 3) := by decide +kernel
theorem dX2_canMake_154 : decode cX2_canMake 154 = .ok (.aload_n 0, 1) := by decide +kernel
theorem dX2_canMake_155 : decode cX2_canMake 155 = .ok (.aload_n 0, 1) := by decide +kernel
theorem dX2_canMake_156 : decode cX2_canMake 156 = .ok (.getfield 16, 3) := by decide +kernel
theorem dX2_canMake_159 : decode cX2_canMake 159 = .ok (.iload_n 1, 1) := by decide +kernel
theorem dX2_canMake_160 : decode cX2_canMake 160 = .ok (.iaload, 1) := by decide +kernel
theorem dX2_canMake_161 : decode cX2_canMake 161 = .ok (.invokevirtual 76, 3) := by decide +kernel
theorem dX2_canMake_164 : decode cX2_canMake 164 = .ok (.ifCond .eq 20, 3) := by decide +kernel
theorem dX2_canMake_167 : decode cX2_canMake 167 = .ok (.aload_n 0, 1) := by decide +kernel
theorem dX2_canMake_168 : decode cX2_canMake 168 = .ok (.aload_n 0, 1) := by decide +kernel
theorem dX2_canMake_169 : decode cX2_canMake 169 = .ok (.getfield 19, 3) := by decide +kernel
theorem dX2_canMake_172 : decode cX2_canMake 172 = .ok (.iload_n 1, 1) := by decide +kernel
theorem dX2_canMake_173 : decode cX2_canMake 173 = .ok (.iaload, 1) := by decide +kernel
theorem dX2_canMake_174 : decode cX2_canMake 174 = .ok (.invokevirtual 76, 3) := by decide +kernel
theorem dX2_canMake_177 : decode cX2_canMake 177 = .ok (.ifCond .eq 7, 3) := by decide +kernel
theorem dX2_canMake_180 : decode cX2_canMake 180 = .ok (.iconst 1, 1) := by decide +kernel
theorem dX2_canMake_181 : decode cX2_canMake 181 = .ok (.goto 4, 3) := by decide +kernel
theorem dX2_canMake_184 : decode cX2_canMake 184 = .ok (.iconst 0, 1) := by decide +kernel
theorem dX2_canMake_185 : decode cX2_canMake 185 = .ok (.ireturn, 1) := by decide +kernel
theorem dX2_canMake_186 : decode cX2_canMake 186 = .ok (.aload_n 0, 1) := by decide +kernel
theorem dX2_canMake_187 : decode cX2_canMake 187 = .ok (.getfield 9, 3) := by decide +kernel
theorem dX2_canMake_190 : decode cX2_canMake 190 = .ok (.iload_n 1, 1) := by decide +kernel
theorem dX2_canMake_191 : decode cX2_canMake 191 = .ok (.iaload, 1) := by decide +kernel
theorem dX2_canMake_192 : decode cX2_canMake 192 = .ok (.bipush 6, 2) := by decide +kernel
theorem dX2_canMake_194 : decode cX2_canMake 194 = .ok (.if_icmp .ne 35, 3) := by decide +kernel
theorem dX2_canMake_197 : decode cX2_canMake 197 = .ok (.aload_n 0, 1) := by decide +kernel
theorem dX2_canMake_198 : decode cX2_canMake 198 = .ok (.aload_n 0, 1) := by decide +kernel
theorem dX2_canMake_199 : decode cX2_canMake 199 = .ok (.getfield 13, 3) := by decide +kernel
theorem dX2_canMake_202 : decode cX2_canMake 202 = .ok (.iload_n 1, 1) := by decide +kernel
theorem dX2_canMake_203 : decode cX2_canMake 203 = .ok (.iaload, 1) := by decide +kernel
theorem dX2_canMake_204 : decode cX2_canMake 204 = .ok (.invokevirtual 76, 3) := by decide +kernel
theorem dX2_canMake_207 : decode cX2_canMake 207 = .ok (.ifCond .eq 20, 3) := by decide +kernel
theorem dX2_canMake_210 : decode cX2_canMake 210 = .ok (.aload_n 0, 1) := by decide +kernel
theorem dX2_canMake_211 : decode cX2_canMake 211 = .ok (.aload_n 0, 1) := by decide +kernel
theorem dX2_canMake_212 : decode cX2_canMake 212 = .ok (.getfield 16, 3) := by decide +kernel
theorem dX2_canMake_215 : decode cX2_canMake 215 = .ok (.iload_n 1, 1) := by decide +kernel
theorem dX2_canMake_216 : decode cX2_canMake 216 = .ok (.iaload, 1) := by decide +kernel
theorem dX2_canMake_217 : decode cX2_canMake 217 = .ok (.invokevirtual 76, 3) := by decide +kernel
theorem dX2_canMake_220 : decode cX2_canMake 220 = .ok (.ifCond .eq 7, 3) := by decide +kernel
theorem dX2_canMake_223 : decode cX2_canMake 223 = .ok (.iconst 1, 1) := by decide +kernel
theorem dX2_canMake_224 : decode cX2_canMake 224 = .ok (.goto 4, 3) := by decide +kernel
theorem dX2_canMake_227 : decode cX2_canMake 227 = .ok (.iconst 0, 1) := by decide +kernel
theorem dX2_canMake_228 : decode cX2_canMake 228 = .ok (.ireturn, 1) := by decide +kernel
theorem dX2_canMake_229 : decode cX2_canMake 229 = .ok (.aload_n 0, 1) := by decide +kernel
theorem dX2_canMake_230 : decode cX2_canMake 230 = .ok (.getfield 9, 3) := by decide +kernel
theorem dX2_canMake_233 : decode cX2_canMake 233 = .ok (.iload_n 1, 1) := by decide +kernel
theorem dX2_canMake_234 : decode cX2_canMake 234 = .ok (.iaload, 1) := by decide +kernel
theorem dX2_canMake_235 : decode cX2_canMake 235 = .ok (.bipush 7, 2) := by decide +kernel
theorem dX2_canMake_237 : decode cX2_canMake 237 = .ok (.if_icmp .ne 7, 3) := by decide +kernel
theorem dX2_canMake_240 : decode cX2_canMake 240 = .ok (.iconst 1, 1) := by decide +kernel
theorem dX2_canMake_241 : decode cX2_canMake 241 = .ok (.goto 4, 3) := by decide +kernel
theorem dX2_canMake_244 : decode cX2_canMake 244 = .ok (.iconst 0, 1) := by decide +kernel
theorem dX2_canMake_245 : decode cX2_canMake 245 = .ok (.istore_n 2, 1) := by decide +kernel
theorem dX2_canMake_246 : decode cX2_canMake 246 = .ok (.iconst 4, 1) := by decide +kernel
theorem dX2_canMake_247 : decode cX2_canMake 247 = .ok (.istore_n 3, 1) := by decide +kernel
theorem dX2_canMake_248 : decode cX2_canMake 248 = .ok (.iload_n 3, 1) := by decide +kernel
theorem dX2_canMake_249 : decode cX2_canMake 249 = .ok (.bipush 8, 2) := by decide +kernel
theorem dX2_canMake_251 : decode cX2_canMake 251 = .ok (.if_icmp .ge 37, 3) := by decide +kernel
theorem dX2_canMake_254 : decode cX2_canMake 254 = .ok (.iload_n 2, 1) := by decide +kernel
theorem dX2_canMake_255 : decode cX2_canMake 255 = .ok (.ifCond .eq 25, 3) := by decide +kernel
theorem dX2_canMake_258 : decode cX2_canMake 258 = .ok (.aload_n 0, 1) := by decide +kernel
theorem dX2_canMake_259 : decode cX2_canMake 259 = .ok (.aload_n 0, 1) := by decide +kernel
theorem dX2_canMake_260 : decode cX2_canMake 260 = .ok (.getfield 22, 3) := by decide +kernel
theorem dX2_canMake_263 : decode cX2_canMake 263 = .ok (.bipush 8, 2) := by decide +kernel
theorem dX2_canMake_265 : decode cX2_canMake 265 = .ok (.iload_n 1, 1) := by decide +kernel
theorem dX2_canMake_266 : decode cX2_canMake 266 = .ok (.imul, 1) := by decide +kernel
theorem dX2_canMake_267 : decode cX2_canMake 267 = .ok (.iload_n 3, 1) := by decide +kernel
theorem dX2_canMake_268 : decode cX2_canMake 268 = .ok (.iadd, 1) := by decide +kernel
theorem dX2_canMake_269 : decode cX2_canMake 269 = .ok (.iaload, 1) := by decide +kernel
theorem dX2_canMake_270 : decode cX2_canMake 270 = .ok (.invokevirtual 76, 3) := by decide +kernel
theorem dX2_canMake_273 : decode cX2_canMake 273 = .ok (.ifCond .eq 7, 3) := by decide +kernel
theorem dX2_canMake_276 : decode cX2_canMake 276 = .ok (.iconst 1, 1) := by decide +kernel
theorem dX2_canMake_277 : decode cX2_canMake 277 = .ok (.goto 4, 3) := by decide +kernel
theorem dX2_canMake_280 : decode cX2_canMake 280 = .ok (.iconst 0, 1) := by decide +kernel
theorem dX2_canMake_281 : decode cX2_canMake 281 = .ok (.istore_n 2, 1) := by decide +kernel
theorem dX2_canMake_282 : decode cX2_canMake 282 = .ok (.iinc 3 1, 3) := by decide +kernel
theorem dX2_canMake_285 : decode cX2_canMake 285 = .ok (.goto (-37), 3) := by decide +kernel
theorem dX2_canMake_288 : decode cX2_canMake 288 = .ok (.iload_n 2, 1) := by decide +kernel
theorem dX2_canMake_289 : decode cX2_canMake 289 = .ok (.ireturn, 1) := by decide +kernel
theorem dX2_learn_0 : decode cX2_learn 0 = .ok (.aload_n 0, 1) := by decide +kernel
theorem dX2_learn_1 : decode cX2_learn 1 = .ok (.iload_n 1, 1) := by decide +kernel
theorem dX2_learn_2 : decode cX2_learn 2 = .ok (.invokevirtual 76, 3) := by decide +kernel
theorem dX2_learn_5 : decode cX2_learn 5 = .ok (.ifCond .eq 5, 3) := by decide +kernel
theorem dX2_learn_8 : decode cX2_learn 8 = .ok (.iconst 0, 1) := by decide +kernel
theorem dX2_learn_9 : decode cX2_learn 9 = .ok (.ireturn, 1) := by decide +kernel
theorem dX2_learn_10 : decode cX2_learn 10 = .ok (.aload_n 0, 1) := by decide +kernel
theorem dX2_learn_11 : decode cX2_learn 11 = .ok (.getfield 29, 3) := by decide +kernel
theorem dX2_learn_14 : decode cX2_learn 14 = .ok (.iload_n 1, 1) := by decide +kernel
theorem dX2_learn_15 : decode cX2_learn 15 = .ok (.iconst 1, 1) := by decide +kernel
theorem dX2_learn_16 : decode cX2_learn 16 = .ok (.isub, 1) := by decide +kernel
theorem dX2_learn_17 : decode cX2_learn 17 = .ok (.iconst 1, 1) := by decide +kernel
theorem dX2_learn_18 : decode cX2_learn 18 = .ok (.bastore, 1) := by decide +kernel
theorem dX2_learn_19 : decode cX2_learn 19 = .ok (.iconst 1, 1) := by decide +kernel
theorem dX2_learn_20 : decode cX2_learn 20 = .ok (.ireturn, 1) := by decide +kernel
theorem dX2_open_0 : decode cX2_open 0 = .ok (.iconst 0, 1) := by decide +kernel
theorem dX2_open_1 : decode cX2_open 1 = .ok (.istore_n 2, 1) := by decide +kernel
theorem dX2_open_2 : decode cX2_open 2 = .ok (.iconst 4, 1) := by decide +kernel
theorem dX2_open_3 : decode cX2_open 3 = .ok (.istore_n 3, 1) := by decide +kernel
theorem dX2_open_4 : decode cX2_open 4 = .ok (.iload_n 3, 1) := by decide +kernel
theorem dX2_open_5 : decode cX2_open 5 = .ok (.bipush 8, 2) := by decide +kernel
theorem dX2_open_7 : decode cX2_open 7 = .ok (.if_icmp .ge 48, 3) := by decide +kernel
theorem dX2_open_10 : decode cX2_open 10 = .ok (.aload_n 0, 1) := by decide +kernel
theorem dX2_open_11 : decode cX2_open 11 = .ok (.getfield 9, 3) := by decide +kernel
theorem dX2_open_14 : decode cX2_open 14 = .ok (.iload_n 1, 1) := by decide +kernel
theorem dX2_open_15 : decode cX2_open 15 = .ok (.iaload, 1) := by decide +kernel
theorem dX2_open_16 : decode cX2_open 16 = .ok (.bipush 7, 2) := by decide +kernel
theorem dX2_open_18 : decode cX2_open 18 = .ok (.if_icmp .ne 37, 3) := by decide +kernel
theorem dX2_open_21 : decode cX2_open 21 = .ok (.aload_n 0, 1) := by decide +kernel
theorem dX2_open_22 : decode cX2_open 22 = .ok (.aload_n 0, 1) := by decide +kernel
theorem dX2_open_23 : decode cX2_open 23 = .ok (.getfield 22, 3) := by decide +kernel
theorem dX2_open_26 : decode cX2_open 26 = .ok (.bipush 8, 2) := by decide +kernel
theorem dX2_open_28 : decode cX2_open 28 = .ok (.iload_n 1, 1) := by decide +kernel
theorem dX2_open_29 : decode cX2_open 29 = .ok (.imul, 1) := by decide +kernel
theorem dX2_open_30 : decode cX2_open 30 = .ok (.iload_n 3, 1) := by decide +kernel
theorem dX2_open_31 : decode cX2_open 31 = .ok (.iadd, 1) := by decide +kernel
theorem dX2_open_32 : decode cX2_open 32 = .ok (.iaload, 1) := by decide +kernel
theorem dX2_open_33 : decode cX2_open 33 = .ok (.invokevirtual 82, 3) := by decide +kernel
theorem dX2_open_36 : decode cX2_open 36 = .ok (.ifCond .ne 7, 3) := by decide +kernel
theorem dX2_open_39 : decode cX2_open 39 = .ok (.iload_n 2, 1) := by decide +kernel
theorem dX2_open_40 : decode cX2_open 40 = .ok (.ifCond .eq 7, 3) := by decide +kernel
theorem dX2_open_43 : decode cX2_open 43 = .ok (.iconst 1, 1) := by decide +kernel
theorem dX2_open_44 : decode cX2_open 44 = .ok (.goto 4, 3) := by decide +kernel
theorem dX2_open_47 : decode cX2_open 47 = .ok (.iconst 0, 1) := by decide +kernel
theorem dX2_open_48 : decode cX2_open 48 = .ok (.istore_n 2, 1) := by decide +kernel
theorem dX2_open_49 : decode cX2_open 49 = .ok (.iinc 3 1, 3) := by decide +kernel
theorem dX2_open_52 : decode cX2_open 52 = .ok (.goto (-48), 3) := by decide +kernel
theorem dX2_open_55 : decode cX2_open 55 = .ok (.aload_n 0, 1) := by decide +kernel
theorem dX2_open_56 : decode cX2_open 56 = .ok (.getfield 9, 3) := by decide +kernel
theorem dX2_open_59 : decode cX2_open 59 = .ok (.iload_n 1, 1) := by decide +kernel
theorem dX2_open_60 : decode cX2_open 60 = .ok (.iaload, 1) := by decide +kernel
theorem dX2_open_61 : decode cX2_open 61 = .ok (.iconst 5, 1) := by decide +kernel
theorem dX2_open_62 : decode cX2_open 62 = .ok (.if_icmp .ne 50, 3) := by decide +kernel
theorem dX2_open_65 : decode cX2_open 65 = .ok (.aload_n 0, 1) := by decide +kernel
theorem dX2_open_66 : decode cX2_open 66 = .ok (.aload_n 0, 1) := by decide +kernel
theorem dX2_open_67 : decode cX2_open 67 = .ok (.getfield 16, 3) := by decide +kernel
theorem dX2_open_70 : decode cX2_open 70 = .ok (.iload_n 1, 1) := by decide +kernel
theorem dX2_open_71 : decode cX2_open 71 = .ok (.iaload, 1) := by decide +kernel
theorem dX2_open_72 : decode cX2_open 72 = .ok (.invokevirtual 82, 3) := by decide +kernel
theorem dX2_open_75 : decode cX2_open 75 = .ok (.istore_n 2, 1) := by decide +kernel
theorem dX2_open_76 : decode cX2_open 76 = .ok (.aload_n 0, 1) := by decide +kernel
theorem dX2_open_77 : decode cX2_open 77 = .ok (.aload_n 0, 1) := by decide +kernel
theorem dX2_open_78 : decode cX2_open 78 = .ok (.getfield 13, 3) := by decide +kernel
theorem dX2_open_81 : decode cX2_open 81 = .ok (.iload_n 1, 1) := by decide +kernel
theorem dX2_open_82 : decode cX2_open 82 = .ok (.iaload, 1) := by decide +kernel
theorem dX2_open_83 : decode cX2_open 83 = .ok (.invokevirtual 76, 3) := by decide +kernel
theorem dX2_open_86 : decode cX2_open 86 = .ok (.ifCond .eq 26, 3) := by decide +kernel
theorem dX2_open_89 : decode cX2_open 89 = .ok (.aload_n 0, 1) := by decide +kernel
theorem dX2_open_90 : decode cX2_open 90 = .ok (.aload_n 0, 1) := by decide +kernel
theorem dX2_open_91 : decode cX2_open 91 = .ok (.getfield 19, 3) := by decide +kernel
theorem dX2_open_94 : decode cX2_open 94 = .ok (.iload_n 1, 1) := by decide +kernel
theorem dX2_open_95 : decode cX2_open 95 = .ok (.iaload, 1) := by decide +kernel
theorem dX2_open_96 : decode cX2_open 96 = .ok (.invokevirtual 82, 3) := by decide +kernel
theorem dX2_open_99 : decode cX2_open 99 = .ok (.ifCond .ne 7, 3) := by decide +kernel
theorem dX2_open_102 : decode cX2_open 102 = .ok (.iload_n 2, 1) := by decide +kernel
theorem dX2_open_103 : decode cX2_open 103 = .ok (.ifCond .eq 7, 3) := by decide +kernel
theorem dX2_open_106 : decode cX2_open 106 = .ok (.iconst 1, 1) := by decide +kernel
theorem dX2_open_107 : decode cX2_open 107 = .ok (.goto 4, 3) := by decide +kernel
theorem dX2_open_110 : decode cX2_open 110 = .ok (.iconst 0, 1) := by decide +kernel
theorem dX2_open_111 : decode cX2_open 111 = .ok (.istore_n 2, 1) := by decide +kernel
theorem dX2_open_112 : decode cX2_open 112 = .ok (.aload_n 0, 1) := by decide +kernel
theorem dX2_open_113 : decode cX2_open 113 = .ok (.getfield 9, 3) := by decide +kernel
theorem dX2_open_116 : decode cX2_open 116 = .ok (.iload_n 1, 1) := by decide +kernel
theorem dX2_open_117 : decode cX2_open 117 = .ok (.iaload, 1) := by decide +kernel
theorem dX2_open_118 : decode cX2_open 118 = .ok (.bipush 6, 2) := by decide +kernel
theorem dX2_open_120 : decode cX2_open 120 = .ok (.if_icmp .ne 16, 3) := by decide +kernel
theorem dX2_open_123 : decode cX2_open 123 = .ok (.aload_n 0, 1) := by decide +kernel
theorem dX2_open_124 : decode cX2_open 124 = .ok (.aload_n 0, 1) := by decide +kernel
theorem dX2_open_125 : decode cX2_open 125 = .ok (.getfield 16, 3) := by decide +kernel
theorem dX2_open_128 : decode cX2_open 128 = .ok (.iload_n 1, 1) := by decide +kernel
theorem dX2_open_129 : decode cX2_open 129 = .ok (.iaload, 1) := by decide +kernel
theorem dX2_open_130 : decode cX2_open 130 = .ok (.invokevirtual 82, 3) := by decide +kernel
theorem dX2_open_133 : decode cX2_open 133 = .ok (.goto 4, 3) := by decide +kernel
theorem dX2_open_136 : decode cX2_open 136 = .ok (.iload_n 2, 1) := by decide +kernel
theorem dX2_open_137 : decode cX2_open 137 = .ok (.ireturn, 1) := by decide +kernel
theorem dX2_derive_0 : decode cX2_derive 0 = .ok (.iconst 0, 1) := by decide +kernel
theorem dX2_derive_1 : decode cX2_derive 1 = .ok (.istore_n 1, 1) := by decide +kernel
theorem dX2_derive_2 : decode cX2_derive 2 = .ok (.iload_n 1, 1) := by decide +kernel
theorem dX2_derive_3 : decode cX2_derive 3 = .ok (.aload_n 0, 1) := by decide +kernel
theorem dX2_derive_4 : decode cX2_derive 4 = .ok (.getfield 38, 3) := by decide +kernel
theorem dX2_derive_7 : decode cX2_derive 7 = .ok (.if_icmp .ge 21, 3) := by decide +kernel
theorem dX2_derive_10 : decode cX2_derive 10 = .ok (.aload_n 0, 1) := by decide +kernel
theorem dX2_derive_11 : decode cX2_derive 11 = .ok (.getfield 29, 3) := by decide +kernel
theorem dX2_derive_14 : decode cX2_derive 14 = .ok (.iload_n 1, 1) := by decide +kernel
theorem dX2_derive_15 : decode cX2_derive 15 = .ok (.aload_n 0, 1) := by decide +kernel
theorem dX2_derive_16 : decode cX2_derive 16 = .ok (.getfield 25, 3) := by decide +kernel
theorem dX2_derive_19 : decode cX2_derive 19 = .ok (.iload_n 1, 1) := by decide +kernel
theorem dX2_derive_20 : decode cX2_derive 20 = .ok (.baload, 1) := by decide +kernel
theorem dX2_derive_21 : decode cX2_derive 21 = .ok (.bastore, 1) := by decide +kernel
theorem dX2_derive_22 : decode cX2_derive 22 = .ok (.iinc 1 1, 3) := by decide +kernel
theorem dX2_derive_25 : decode cX2_derive 25 = .ok (.goto (-23), 3) := by decide +kernel
theorem dX2_derive_28 : decode cX2_derive 28 = .ok (.iconst 1, 1) := by decide +kernel
theorem dX2_derive_29 : decode cX2_derive 29 = .ok (.istore_n 1, 1) := by decide +kernel
theorem dX2_derive_30 : decode cX2_derive 30 = .ok (.iload_n 1, 1) := by decide +kernel
theorem dX2_derive_31 : decode cX2_derive 31 = .ok (.ifCond .eq 88, 3) := by decide +kernel
theorem dX2_derive_34 : decode cX2_derive 34 = .ok (.iconst 0, 1) := by decide +kernel
theorem dX2_derive_35 : decode cX2_derive 35 = .ok (.istore_n 1, 1) := by decide +kernel
theorem dX2_derive_36 : decode cX2_derive 36 = .ok (.iconst 0, 1) := by decide +kernel
theorem dX2_derive_37 : decode cX2_derive 37 = .ok (.istore_n 2, 1) := by decide +kernel
theorem dX2_derive_38 : decode cX2_derive 38 = .ok (.iload_n 2, 1) := by decide +kernel
theorem dX2_derive_39 : decode cX2_derive 39 = .ok (.aload_n 0, 1) := by decide +kernel
theorem dX2_derive_40 : decode cX2_derive 40 = .ok (.getfield 38, 3) := by decide +kernel
theorem dX2_derive_43 : decode cX2_derive 43 = .ok (.if_icmp .ge 73, 3) := by decide +kernel
theorem dX2_derive_46 : decode cX2_derive 46 = .ok (.aload_n 0, 1) := by decide +kernel
theorem dX2_derive_47 : decode cX2_derive 47 = .ok (.getfield 29, 3) := by decide +kernel
theorem dX2_derive_50 : decode cX2_derive 50 = .ok (.iload_n 2, 1) := by decide +kernel
theorem dX2_derive_51 : decode cX2_derive 51 = .ok (.baload, 1) := by decide +kernel
theorem dX2_derive_52 : decode cX2_derive 52 = .ok (.ifCond .ne 31, 3) := by decide +kernel
theorem dX2_derive_55 : decode cX2_derive 55 = .ok (.aload_n 0, 1) := by decide +kernel
theorem dX2_derive_56 : decode cX2_derive 56 = .ok (.iload_n 2, 1) := by decide +kernel
theorem dX2_derive_57 : decode cX2_derive 57 = .ok (.invokevirtual 85, 3) := by decide +kernel
theorem dX2_derive_60 : decode cX2_derive 60 = .ok (.ifCond .eq 23, 3) := by decide +kernel
theorem dX2_derive_63 : decode cX2_derive 63 = .ok (.aload_n 0, 1) := by decide +kernel
theorem dX2_derive_64 : decode cX2_derive 64 = .ok (.iload_n 2, 1) := by decide +kernel
theorem dX2_derive_65 : decode cX2_derive 65 = .ok (.iconst 1, 1) := by decide +kernel
theorem dX2_derive_66 : decode cX2_derive 66 = .ok (.iadd, 1) := by decide +kernel
theorem dX2_derive_67 : decode cX2_derive 67 = .ok (.invokevirtual 82, 3) := by decide +kernel
theorem dX2_derive_70 : decode cX2_derive 70 = .ok (.ifCond .ne 7, 3) := by decide +kernel
theorem dX2_derive_73 : decode cX2_derive 73 = .ok (.iload_n 1, 1) := by decide +kernel
theorem dX2_derive_74 : decode cX2_derive 74 = .ok (.ifCond .eq 7, 3) := by decide +kernel
theorem dX2_derive_77 : decode cX2_derive 77 = .ok (.iconst 1, 1) := by decide +kernel
theorem dX2_derive_78 : decode cX2_derive 78 = .ok (.goto 4, 3) := by decide +kernel
theorem dX2_derive_81 : decode cX2_derive 81 = .ok (.iconst 0, 1) := by decide +kernel
theorem dX2_derive_82 : decode cX2_derive 82 = .ok (.istore_n 1, 1) := by decide +kernel
theorem dX2_derive_83 : decode cX2_derive 83 = .ok (.aload_n 0, 1) := by decide +kernel
theorem dX2_derive_84 : decode cX2_derive 84 = .ok (.getfield 29, 3) := by decide +kernel
theorem dX2_derive_87 : decode cX2_derive 87 = .ok (.iload_n 2, 1) := by decide +kernel
theorem dX2_derive_88 : decode cX2_derive 88 = .ok (.baload, 1) := by decide +kernel
theorem dX2_derive_89 : decode cX2_derive 89 = .ok (.ifCond .eq 21, 3) := by decide +kernel
theorem dX2_derive_92 : decode cX2_derive 92 = .ok (.aload_n 0, 1) := by decide +kernel
theorem dX2_derive_93 : decode cX2_derive 93 = .ok (.iload_n 2, 1) := by decide +kernel
theorem dX2_derive_94 : decode cX2_derive 94 = .ok (.invokevirtual 88, 3) := by decide +kernel
theorem dX2_derive_97 : decode cX2_derive 97 = .ok (.ifCond .ne 7, 3) := by decide +kernel
theorem dX2_derive_100 : decode cX2_derive 100 = .ok (.iload_n 1, 1) := by decide +kernel
theorem dX2_derive_101 : decode cX2_derive 101 = .ok (.ifCond .eq 7, 3) := by decide +kernel
theorem dX2_derive_104 : decode cX2_derive 104 = .ok (.iconst 1, 1) := by decide +kernel
theorem dX2_derive_105 : decode cX2_derive 105 = .ok (.goto 4, 3) := by decide +kernel
theorem dX2_derive_108 : decode cX2_derive 108 = .ok (.iconst 0, 1) := by decide +kernel
theorem dX2_derive_109 : decode cX2_derive 109 = .ok (.istore_n 1, 1) := by decide +kernel
theorem dX2_derive_110 : decode cX2_derive 110 = .ok (.iinc 2 1, 3) := by decide +kernel
theorem dX2_derive_113 : decode cX2_derive 113 = .ok (.goto (-75), 3) := by decide +kernel
theorem dX2_derive_116 : decode cX2_derive 116 = .ok (.goto (-86), 3) := by decide +kernel
theorem dX2_derive_119 : decode cX2_derive 119 = .ok (.return_, 1) := by decide +kernel
theorem dX2_derivedNow_0 : decode cX2_derivedNow 0 = .ok (.aload_n 0, 1) := by decide +kernel
theorem dX2_derivedNow_1 : decode cX2_derivedNow 1 = .ok (.invokevirtual 91, 3) := by decide +kernel
theorem dX2_derivedNow_4 : decode cX2_derivedNow 4 = .ok (.iconst 0, 1) := by decide +kernel
theorem dX2_derivedNow_5 : decode cX2_derivedNow 5 = .ok (.istore_n 1, 1) := by decide +kernel
theorem dX2_derivedNow_6 : decode cX2_derivedNow 6 = .ok (.iconst 0, 1) := by decide +kernel
theorem dX2_derivedNow_7 : decode cX2_derivedNow 7 = .ok (.istore_n 2, 1) := by decide +kernel
theorem dX2_derivedNow_8 : decode cX2_derivedNow 8 = .ok (.iload_n 2, 1) := by decide +kernel
theorem dX2_derivedNow_9 : decode cX2_derivedNow 9 = .ok (.aload_n 0, 1) := by decide +kernel
theorem dX2_derivedNow_10 : decode cX2_derivedNow 10 = .ok (.getfield 38, 3) := by decide +kernel
theorem dX2_derivedNow_13 : decode cX2_derivedNow 13 = .ok (.if_icmp .ge 26, 3) := by decide +kernel
theorem dX2_derivedNow_16 : decode cX2_derivedNow 16 = .ok (.iload_n 1, 1) := by decide +kernel
theorem dX2_derivedNow_17 : decode cX2_derivedNow 17 = .ok (.aload_n 0, 1) := by decide +kernel
theorem dX2_derivedNow_18 : decode cX2_derivedNow 18 = .ok (.getfield 29, 3) := by decide +kernel
theorem dX2_derivedNow_21 : decode cX2_derivedNow 21 = .ok (.iload_n 2, 1) := by decide +kernel
theorem dX2_derivedNow_22 : decode cX2_derivedNow 22 = .ok (.baload, 1) := by decide +kernel
theorem dX2_derivedNow_23 : decode cX2_derivedNow 23 = .ok (.ifCond .eq 7, 3) := by decide +kernel
theorem dX2_derivedNow_26 : decode cX2_derivedNow 26 = .ok (.iconst 1, 1) := by decide +kernel
theorem dX2_derivedNow_27 : decode cX2_derivedNow 27 = .ok (.goto 4, 3) := by decide +kernel
theorem dX2_derivedNow_30 : decode cX2_derivedNow 30 = .ok (.iconst 0, 1) := by decide +kernel
theorem dX2_derivedNow_31 : decode cX2_derivedNow 31 = .ok (.iadd, 1) := by decide +kernel
theorem dX2_derivedNow_32 : decode cX2_derivedNow 32 = .ok (.istore_n 1, 1) := by decide +kernel
theorem dX2_derivedNow_33 : decode cX2_derivedNow 33 = .ok (.iinc 2 1, 3) := by decide +kernel
theorem dX2_derivedNow_36 : decode cX2_derivedNow 36 = .ok (.goto (-28), 3) := by decide +kernel
theorem dX2_derivedNow_39 : decode cX2_derivedNow 39 = .ok (.iload_n 1, 1) := by decide +kernel
theorem dX2_derivedNow_40 : decode cX2_derivedNow 40 = .ok (.ireturn, 1) := by decide +kernel
theorem dX2_give_0 : decode cX2_give 0 = .ok (.aload_n 0, 1) := by decide +kernel
theorem dX2_give_1 : decode cX2_give 1 = .ok (.iload_n 1, 1) := by decide +kernel
theorem dX2_give_2 : decode cX2_give 2 = .ok (.invokevirtual 50, 3) := by decide +kernel
theorem dX2_give_5 : decode cX2_give 5 = .ok (.ifCond .ne 5, 3) := by decide +kernel
theorem dX2_give_8 : decode cX2_give 8 = .ok (.iconst (-1), 1) := by decide +kernel
theorem dX2_give_9 : decode cX2_give 9 = .ok (.ireturn, 1) := by decide +kernel
theorem dX2_give_10 : decode cX2_give 10 = .ok (.aload_n 0, 1) := by decide +kernel
theorem dX2_give_11 : decode cX2_give 11 = .ok (.invokevirtual 94, 3) := by decide +kernel
theorem dX2_give_14 : decode cX2_give 14 = .ok (.istore_n 2, 1) := by decide +kernel
theorem dX2_give_15 : decode cX2_give 15 = .ok (.aload_n 0, 1) := by decide +kernel
theorem dX2_give_16 : decode cX2_give 16 = .ok (.getfield 25, 3) := by decide +kernel
theorem dX2_give_19 : decode cX2_give 19 = .ok (.aload_n 0, 1) := by decide +kernel
theorem dX2_give_20 : decode cX2_give 20 = .ok (.getfield 35, 3) := by decide +kernel
theorem dX2_give_23 : decode cX2_give 23 = .ok (.iload_n 1, 1) := by decide +kernel
theorem dX2_give_24 : decode cX2_give 24 = .ok (.iaload, 1) := by decide +kernel
theorem dX2_give_25 : decode cX2_give 25 = .ok (.iconst 1, 1) := by decide +kernel
theorem dX2_give_26 : decode cX2_give 26 = .ok (.isub, 1) := by decide +kernel
theorem dX2_give_27 : decode cX2_give 27 = .ok (.iconst 1, 1) := by decide +kernel
theorem dX2_give_28 : decode cX2_give 28 = .ok (.bastore, 1) := by decide +kernel
theorem dX2_give_29 : decode cX2_give 29 = .ok (.aload_n 0, 1) := by decide +kernel
theorem dX2_give_30 : decode cX2_give 30 = .ok (.invokevirtual 94, 3) := by decide +kernel
theorem dX2_give_33 : decode cX2_give 33 = .ok (.iload_n 2, 1) := by decide +kernel
theorem dX2_give_34 : decode cX2_give 34 = .ok (.isub, 1) := by decide +kernel
theorem dX2_give_35 : decode cX2_give 35 = .ok (.ireturn, 1) := by decide +kernel
theorem dX2_derived_0 : decode cX2_derived 0 = .ok (.aload_n 0, 1) := by decide +kernel
theorem dX2_derived_1 : decode cX2_derived 1 = .ok (.iload_n 1, 1) := by decide +kernel
theorem dX2_derived_2 : decode cX2_derived 2 = .ok (.invokevirtual 50, 3) := by decide +kernel
theorem dX2_derived_5 : decode cX2_derived 5 = .ok (.ifCond .ne 5, 3) := by decide +kernel
theorem dX2_derived_8 : decode cX2_derived 8 = .ok (.iconst (-1), 1) := by decide +kernel
theorem dX2_derived_9 : decode cX2_derived 9 = .ok (.ireturn, 1) := by decide +kernel
theorem dX2_derived_10 : decode cX2_derived 10 = .ok (.aload_n 0, 1) := by decide +kernel
theorem dX2_derived_11 : decode cX2_derived 11 = .ok (.invokevirtual 91, 3) := by decide +kernel
theorem dX2_derived_14 : decode cX2_derived 14 = .ok (.aload_n 0, 1) := by decide +kernel
theorem dX2_derived_15 : decode cX2_derived 15 = .ok (.getfield 29, 3) := by decide +kernel
theorem dX2_derived_18 : decode cX2_derived 18 = .ok (.aload_n 0, 1) := by decide +kernel
theorem dX2_derived_19 : decode cX2_derived 19 = .ok (.getfield 35, 3) := by decide +kernel
theorem dX2_derived_22 : decode cX2_derived 22 = .ok (.iload_n 1, 1) := by decide +kernel
theorem dX2_derived_23 : decode cX2_derived 23 = .ok (.iaload, 1) := by decide +kernel
theorem dX2_derived_24 : decode cX2_derived 24 = .ok (.iconst 1, 1) := by decide +kernel
theorem dX2_derived_25 : decode cX2_derived 25 = .ok (.isub, 1) := by decide +kernel
theorem dX2_derived_26 : decode cX2_derived 26 = .ok (.baload, 1) := by decide +kernel
theorem dX2_derived_27 : decode cX2_derived 27 = .ok (.ifCond .eq 7, 3) := by decide +kernel
theorem dX2_derived_30 : decode cX2_derived 30 = .ok (.iconst 1, 1) := by decide +kernel
theorem dX2_derived_31 : decode cX2_derived 31 = .ok (.goto 4, 3) := by decide +kernel
theorem dX2_derived_34 : decode cX2_derived 34 = .ok (.iconst 0, 1) := by decide +kernel
theorem dX2_derived_35 : decode cX2_derived 35 = .ok (.ireturn, 1) := by decide +kernel
theorem dX2_same_0 : decode cX2_same 0 = .ok (.aload_n 0, 1) := by decide +kernel
theorem dX2_same_1 : decode cX2_same 1 = .ok (.iload_n 1, 1) := by decide +kernel
theorem dX2_same_2 : decode cX2_same 2 = .ok (.invokevirtual 50, 3) := by decide +kernel
theorem dX2_same_5 : decode cX2_same 5 = .ok (.ifCond .eq 11, 3) := by decide +kernel
theorem dX2_same_8 : decode cX2_same 8 = .ok (.aload_n 0, 1) := by decide +kernel
theorem dX2_same_9 : decode cX2_same 9 = .ok (.iload_n 2, 1) := by decide +kernel
theorem dX2_same_10 : decode cX2_same 10 = .ok (.invokevirtual 50, 3) := by decide +kernel
theorem dX2_same_13 : decode cX2_same 13 = .ok (.ifCond .ne 7, 3) := by decide +kernel
theorem dX2_same_16 : decode cX2_same 16 = .ok (.iconst (-1), 1) := by decide +kernel
theorem dX2_same_17 : decode cX2_same 17 = .ok (.goto 23, 3) := by decide +kernel
theorem dX2_same_20 : decode cX2_same 20 = .ok (.aload_n 0, 1) := by decide +kernel
theorem dX2_same_21 : decode cX2_same 21 = .ok (.getfield 35, 3) := by decide +kernel
theorem dX2_same_24 : decode cX2_same 24 = .ok (.iload_n 1, 1) := by decide +kernel
theorem dX2_same_25 : decode cX2_same 25 = .ok (.iaload, 1) := by decide +kernel
theorem dX2_same_26 : decode cX2_same 26 = .ok (.aload_n 0, 1) := by decide +kernel
theorem dX2_same_27 : decode cX2_same 27 = .ok (.getfield 35, 3) := by decide +kernel
theorem dX2_same_30 : decode cX2_same 30 = .ok (.iload_n 2, 1) := by decide +kernel
theorem dX2_same_31 : decode cX2_same 31 = .ok (.iaload, 1) := by decide +kernel
theorem dX2_same_32 : decode cX2_same 32 = .ok (.if_icmp .ne 7, 3) := by decide +kernel
theorem dX2_same_35 : decode cX2_same 35 = .ok (.iconst 1, 1) := by decide +kernel
theorem dX2_same_36 : decode cX2_same 36 = .ok (.goto 4, 3) := by decide +kernel
theorem dX2_same_39 : decode cX2_same 39 = .ok (.iconst 0, 1) := by decide +kernel
theorem dX2_same_40 : decode cX2_same 40 = .ok (.ireturn, 1) := by decide +kernel
theorem dX2_in_0 : decode cX2_in 0 = .ok (.iload_n 0, 1) := by decide +kernel
theorem dX2_in_1 : decode cX2_in 1 = .ok (.iload_n 1, 1) := by decide +kernel
theorem dX2_in_2 : decode cX2_in 2 = .ok (.if_icmp .lt 12, 3) := by decide +kernel
theorem dX2_in_5 : decode cX2_in 5 = .ok (.iload_n 0, 1) := by decide +kernel
theorem dX2_in_6 : decode cX2_in 6 = .ok (.iload_n 2, 1) := by decide +kernel
theorem dX2_in_7 : decode cX2_in 7 = .ok (.if_icmp .gt 7, 3) := by decide +kernel
theorem dX2_in_10 : decode cX2_in 10 = .ok (.iconst 1, 1) := by decide +kernel
theorem dX2_in_11 : decode cX2_in 11 = .ok (.goto 4, 3) := by decide +kernel
theorem dX2_in_14 : decode cX2_in 14 = .ok (.iconst 0, 1) := by decide +kernel
theorem dX2_in_15 : decode cX2_in 15 = .ok (.ireturn, 1) := by decide +kernel
theorem dX2_isFace_0 : decode cX2_isFace 0 = .ok (.iload_n 1, 1) := by decide +kernel
theorem dX2_isFace_1 : decode cX2_isFace 1 = .ok (.ifCond .le 19, 3) := by decide +kernel
theorem dX2_isFace_4 : decode cX2_isFace 4 = .ok (.aload_n 0, 1) := by decide +kernel
theorem dX2_isFace_5 : decode cX2_isFace 5 = .ok (.getfield 9, 3) := by decide +kernel
theorem dX2_isFace_8 : decode cX2_isFace 8 = .ok (.iload_n 1, 1) := by decide +kernel
theorem dX2_isFace_9 : decode cX2_isFace 9 = .ok (.iconst 1, 1) := by decide +kernel
theorem dX2_isFace_10 : decode cX2_isFace 10 = .ok (.isub, 1) := by decide +kernel
theorem dX2_isFace_11 : decode cX2_isFace 11 = .ok (.iaload, 1) := by decide +kernel
theorem dX2_isFace_12 : decode cX2_isFace 12 = .ok (.iconst 2, 1) := by decide +kernel
theorem dX2_isFace_13 : decode cX2_isFace 13 = .ok (.if_icmp .ne 7, 3) := by decide +kernel
theorem dX2_isFace_16 : decode cX2_isFace 16 = .ok (.iconst 1, 1) := by decide +kernel
theorem dX2_isFace_17 : decode cX2_isFace 17 = .ok (.goto 4, 3) := by decide +kernel
theorem dX2_isFace_20 : decode cX2_isFace 20 = .ok (.iconst 0, 1) := by decide +kernel
theorem dX2_isFace_21 : decode cX2_isFace 21 = .ok (.ireturn, 1) := by decide +kernel
theorem dX2_isBare_0 : decode cX2_isBare 0 = .ok (.iconst 1, 1) := by decide +kernel
theorem dX2_isBare_1 : decode cX2_isBare 1 = .ok (.istore 4, 2) := by decide +kernel
theorem dX2_isBare_3 : decode cX2_isBare 3 = .ok (.iload_n 2, 1) := by decide +kernel
theorem dX2_isBare_4 : decode cX2_isBare 4 = .ok (.istore 5, 2) := by decide +kernel
theorem dX2_isBare_6 : decode cX2_isBare 6 = .ok (.iload 5, 2) := by decide +kernel
theorem dX2_isBare_8 : decode cX2_isBare 8 = .ok (.iload_n 3, 1) := by decide +kernel
theorem dX2_isBare_9 : decode cX2_isBare 9 = .ok (.if_icmp .ge 36, 3) := by decide +kernel
theorem dX2_isBare_12 : decode cX2_isBare 12 = .ok (.iload 4, 2) := by decide +kernel
theorem dX2_isBare_14 : decode cX2_isBare 14 = .ok (.ifCond .eq 22, 3) := by decide +kernel
theorem dX2_isBare_17 : decode cX2_isBare 17 = .ok (.aload_n 0, 1) := by decide +kernel
theorem dX2_isBare_18 : decode cX2_isBare 18 = .ok (.getfield 22, 3) := by decide +kernel
theorem dX2_isBare_21 : decode cX2_isBare 21 = .ok (.bipush 8, 2) := by decide +kernel
theorem dX2_isBare_23 : decode cX2_isBare 23 = .ok (.iload_n 1, 1) := by decide +kernel
theorem dX2_isBare_24 : decode cX2_isBare 24 = .ok (.imul, 1) := by decide +kernel
theorem dX2_isBare_25 : decode cX2_isBare 25 = .ok (.iload 5, 2) := by decide +kernel
theorem dX2_isBare_27 : decode cX2_isBare 27 = .ok (.iadd, 1) := by decide +kernel
theorem dX2_isBare_28 : decode cX2_isBare 28 = .ok (.iaload, 1) := by decide +kernel
theorem dX2_isBare_29 : decode cX2_isBare 29 = .ok (.ifCond .ne 7, 3) := by decide +kernel
theorem dX2_isBare_32 : decode cX2_isBare 32 = .ok (.iconst 1, 1) := by decide +kernel
theorem dX2_isBare_33 : decode cX2_isBare 33 = .ok (.goto 4, 3) := by decide +kernel
theorem dX2_isBare_36 : decode cX2_isBare 36 = .ok (.iconst 0, 1) := by decide +kernel
theorem dX2_isBare_37 : decode cX2_isBare 37 = .ok (.istore 4, 2) := by decide +kernel
theorem dX2_isBare_39 : decode cX2_isBare 39 = .ok (.iinc 5 1, 3) := by decide +kernel
theorem dX2_isBare_42 : decode cX2_isBare 42 = .ok (.goto (-36), 3) := by decide +kernel
theorem dX2_isBare_45 : decode cX2_isBare 45 = .ok (.iload 4, 2) := by decide +kernel
theorem dX2_isBare_47 : decode cX2_isBare 47 = .ok (.ireturn, 1) := by decide +kernel
theorem dX2_isGood_0 : decode cX2_isGood 0 = .ok (.bipush 8, 2) := by decide +kernel
theorem dX2_isGood_2 : decode cX2_isGood 2 = .ok (.iload_n 1, 1) := by decide +kernel
theorem dX2_isGood_3 : decode cX2_isGood 3 = .ok (.imul, 1) := by decide +kernel
theorem dX2_isGood_4 : decode cX2_isGood 4 = .ok (.istore_n 2, 1) := by decide +kernel
theorem dX2_isGood_5 : decode cX2_isGood 5 = .ok (.aload_n 0, 1) := by decide +kernel
theorem dX2_isGood_6 : decode cX2_isGood 6 = .ok (.getfield 22, 3) := by decide +kernel
theorem dX2_isGood_9 : decode cX2_isGood 9 = .ok (.iload_n 2, 1) := by decide +kernel
theorem dX2_isGood_10 : decode cX2_isGood 10 = .ok (.iaload, 1) := by decide +kernel
theorem dX2_isGood_11 : decode cX2_isGood 11 = .ok (.istore_n 3, 1) := by decide +kernel
theorem dX2_isGood_12 : decode cX2_isGood 12 = .ok (.aload_n 0, 1) := by decide +kernel
theorem dX2_isGood_13 : decode cX2_isGood 13 = .ok (.getfield 22, 3) := by decide +kernel
theorem dX2_isGood_16 : decode cX2_isGood 16 = .ok (.iload_n 2, 1) := by decide +kernel
theorem dX2_isGood_17 : decode cX2_isGood 17 = .ok (.iconst 1, 1) := by decide +kernel
theorem dX2_isGood_18 : decode cX2_isGood 18 = .ok (.iadd, 1) := by decide +kernel
theorem dX2_isGood_19 : decode cX2_isGood 19 = .ok (.iaload, 1) := by decide +kernel
theorem dX2_isGood_20 : decode cX2_isGood 20 = .ok (.istore 4, 2) := by decide +kernel
theorem dX2_isGood_22 : decode cX2_isGood 22 = .ok (.aload_n 0, 1) := by decide +kernel
theorem dX2_isGood_23 : decode cX2_isGood 23 = .ok (.getfield 22, 3) := by decide +kernel
theorem dX2_isGood_26 : decode cX2_isGood 26 = .ok (.iload_n 2, 1) := by decide +kernel
theorem dX2_isGood_27 : decode cX2_isGood 27 = .ok (.iconst 2, 1) := by decide +kernel
theorem dX2_isGood_28 : decode cX2_isGood 28 = .ok (.iadd, 1) := by decide +kernel
theorem dX2_isGood_29 : decode cX2_isGood 29 = .ok (.iaload, 1) := by decide +kernel
theorem dX2_isGood_30 : decode cX2_isGood 30 = .ok (.istore 5, 2) := by decide +kernel
theorem dX2_isGood_32 : decode cX2_isGood 32 = .ok (.aload_n 0, 1) := by decide +kernel
theorem dX2_isGood_33 : decode cX2_isGood 33 = .ok (.getfield 22, 3) := by decide +kernel
theorem dX2_isGood_36 : decode cX2_isGood 36 = .ok (.iload_n 2, 1) := by decide +kernel
theorem dX2_isGood_37 : decode cX2_isGood 37 = .ok (.iconst 3, 1) := by decide +kernel
theorem dX2_isGood_38 : decode cX2_isGood 38 = .ok (.iadd, 1) := by decide +kernel
theorem dX2_isGood_39 : decode cX2_isGood 39 = .ok (.iaload, 1) := by decide +kernel
theorem dX2_isGood_40 : decode cX2_isGood 40 = .ok (.istore 6, 2) := by decide +kernel
theorem dX2_isGood_42 : decode cX2_isGood 42 = .ok (.aload_n 0, 1) := by decide +kernel
theorem dX2_isGood_43 : decode cX2_isGood 43 = .ok (.getfield 13, 3) := by decide +kernel
theorem dX2_isGood_46 : decode cX2_isGood 46 = .ok (.iload_n 1, 1) := by decide +kernel
theorem dX2_isGood_47 : decode cX2_isGood 47 = .ok (.iaload, 1) := by decide +kernel
theorem dX2_isGood_48 : decode cX2_isGood 48 = .ok (.tableswitch 398 1 6 #[40, 40, 91, 241, 279, 355], 40) := by decide +kernel
theorem dX2_isGood_88 : decode cX2_isGood 88 = .ok (.iload_n 3, 1) := by decide +kernel
theorem dX2_isGood_89 : decode cX2_isGood 89 = .ok (.iconst 0, 1) := by decide +kernel
theorem dX2_isGood_90 : decode cX2_isGood 90 = .ok (.iconst 5, 1) := by decide +kernel
theorem dX2_isGood_91 : decode cX2_isGood 91 = .ok (.invokestatic 98, 3) := by decide +kernel
theorem dX2_isGood_94 : decode cX2_isGood 94 = .ok (.ifCond .eq 43, 3) := by decide +kernel
theorem dX2_isGood_97 : decode cX2_isGood 97 = .ok (.aload_n 0, 1) := by decide +kernel
theorem dX2_isGood_98 : decode cX2_isGood 98 = .ok (.iload_n 1, 1) := by decide +kernel
theorem dX2_isGood_99 : decode cX2_isGood 99 = .ok (.iconst 2, 1) := by decide +kernel
theorem dX2_isGood_100 : decode cX2_isGood 100 = .ok (.iconst 4, 1) := by decide +kernel
theorem dX2_isGood_101 : decode cX2_isGood 101 = .ok (.invokevirtual 102, 3) := by decide +kernel
theorem dX2_isGood_104 : decode cX2_isGood 104 = .ok (.ifCond .eq 33, 3) := by decide +kernel
theorem dX2_isGood_107 : decode cX2_isGood 107 = .ok (.aload_n 0, 1) := by decide +kernel
theorem dX2_isGood_108 : decode cX2_isGood 108 = .ok (.aload_n 0, 1) := by decide +kernel
theorem dX2_isGood_109 : decode cX2_isGood 109 = .ok (.getfield 22, 3) := by decide +kernel
theorem dX2_isGood_112 : decode cX2_isGood 112 = .ok (.iload_n 2, 1) := by decide +kernel
theorem dX2_isGood_113 : decode cX2_isGood 113 = .ok (.iconst 4, 1) := by decide +kernel
theorem dX2_isGood_114 : decode cX2_isGood 114 = .ok (.iadd, 1) := by decide +kernel
theorem dX2_isGood_115 : decode cX2_isGood 115 = .ok (.iaload, 1) := by decide +kernel
theorem dX2_isGood_116 : decode cX2_isGood 116 = .ok (.invokevirtual 105, 3) := by decide +kernel
theorem dX2_isGood_119 : decode cX2_isGood 119 = .ok (.ifCond .eq 18, 3) := by decide +kernel
theorem dX2_isGood_122 : decode cX2_isGood 122 = .ok (.aload_n 0, 1) := by decide +kernel
theorem dX2_isGood_123 : decode cX2_isGood 123 = .ok (.iload_n 1, 1) := by decide +kernel
theorem dX2_isGood_124 : decode cX2_isGood 124 = .ok (.iconst 5, 1) := by decide +kernel
theorem dX2_isGood_125 : decode cX2_isGood 125 = .ok (.bipush 8, 2) := by decide +kernel
theorem dX2_isGood_127 : decode cX2_isGood 127 = .ok (.invokevirtual 102, 3) := by decide +kernel
theorem dX2_isGood_130 : decode cX2_isGood 130 = .ok (.ifCond .eq 7, 3) := by decide +kernel
theorem dX2_isGood_133 : decode cX2_isGood 133 = .ok (.iconst 1, 1) := by decide +kernel
theorem dX2_isGood_134 : decode cX2_isGood 134 = .ok (.goto 4, 3) := by decide +kernel
theorem dX2_isGood_137 : decode cX2_isGood 137 = .ok (.iconst 0, 1) := by decide +kernel
theorem dX2_isGood_138 : decode cX2_isGood 138 = .ok (.ireturn, 1) := by decide +kernel
theorem dX2_isGood_139 : decode cX2_isGood 139 = .ok (.iload_n 3, 1) := by decide +kernel
theorem dX2_isGood_140 : decode cX2_isGood 140 = .ok (.iconst 0, 1) := by decide +kernel
theorem dX2_isGood_141 : decode cX2_isGood 141 = .ok (.iconst 5, 1) := by decide +kernel
theorem dX2_isGood_142 : decode cX2_isGood 142 = .ok (.invokestatic 98, 3) := by decide +kernel
theorem dX2_isGood_145 : decode cX2_isGood 145 = .ok (.ifCond .eq 142, 3) := by decide +kernel
theorem dX2_isGood_148 : decode cX2_isGood 148 = .ok (.iload 4, 2) := by decide +kernel
theorem dX2_isGood_150 : decode cX2_isGood 150 = .ok (.iconst 0, 1) := by decide +kernel
theorem dX2_isGood_151 : decode cX2_isGood 151 = .ok (.iconst 5, 1) := by decide +kernel
theorem dX2_isGood_152 : decode cX2_isGood 152 = .ok (.invokestatic 98, 3) := by decide +kernel
theorem dX2_isGood_155 : decode cX2_isGood 155 = .ok (.ifCond .eq 132, 3) := by decide +kernel
theorem dX2_isGood_158 : decode cX2_isGood 158 = .ok (.iload 5, 2) := by decide +kernel
theorem dX2_isGood_160 : decode cX2_isGood 160 = .ok (.iconst 0, 1) := by decide +kernel
theorem dX2_isGood_161 : decode cX2_isGood 161 = .ok (.sipush 9999, 3) := by decide +kernel
theorem dX2_isGood_164 : decode cX2_isGood 164 = .ok (.invokestatic 98, 3) := by decide +kernel
theorem dX2_isGood_167 : decode cX2_isGood 167 = .ok (.ifCond .eq 120, 3) := by decide +kernel
theorem dX2_isGood_170 : decode cX2_isGood 170 = .ok (.iload 6, 2) := by decide +kernel
theorem dX2_isGood_172 : decode cX2_isGood 172 = .ok (.iconst 0, 1) := by decide +kernel
theorem dX2_isGood_173 : decode cX2_isGood 173 = .ok (.sipush 9999, 3) := by decide +kernel
theorem dX2_isGood_176 : decode cX2_isGood 176 = .ok (.invokestatic 98, 3) := by decide +kernel
theorem dX2_isGood_179 : decode cX2_isGood 179 = .ok (.ifCond .eq 108, 3) := by decide +kernel
theorem dX2_isGood_182 : decode cX2_isGood 182 = .ok (.aload_n 0, 1) := by decide +kernel
theorem dX2_isGood_183 : decode cX2_isGood 183 = .ok (.aload_n 0, 1) := by decide +kernel
theorem dX2_isGood_184 : decode cX2_isGood 184 = .ok (.getfield 22, 3) := by decide +kernel
theorem dX2_isGood_187 : decode cX2_isGood 187 = .ok (.iload_n 2, 1) := by decide +kernel
theorem dX2_isGood_188 : decode cX2_isGood 188 = .ok (.iconst 4, 1) := by decide +kernel
theorem dX2_isGood_189 : decode cX2_isGood 189 = .ok (.iadd, 1) := by decide +kernel
theorem dX2_isGood_190 : decode cX2_isGood 190 = .ok (.iaload, 1) := by decide +kernel
theorem dX2_isGood_191 : decode cX2_isGood 191 = .ok (.invokevirtual 105, 3) := by decide +kernel
theorem dX2_isGood_194 : decode cX2_isGood 194 = .ok (.ifCond .eq 93, 3) := by decide +kernel
theorem dX2_isGood_197 : decode cX2_isGood 197 = .ok (.aload_n 0, 1) := by decide +kernel
theorem dX2_isGood_198 : decode cX2_isGood 198 = .ok (.aload_n 0, 1) := by decide +kernel
theorem dX2_isGood_199 : decode cX2_isGood 199 = .ok (.getfield 22, 3) := by decide +kernel
theorem dX2_isGood_202 : decode cX2_isGood 202 = .ok (.iload_n 2, 1) := by decide +kernel
theorem dX2_isGood_203 : decode cX2_isGood 203 = .ok (.iconst 5, 1) := by decide +kernel
theorem dX2_isGood_204 : decode cX2_isGood 204 = .ok (.iadd, 1) := by decide +kernel
theorem dX2_isGood_205 : decode cX2_isGood 205 = .ok (.iaload, 1) := by decide +kernel
theorem dX2_isGood_206 : decode cX2_isGood 206 = .ok (.invokevirtual 105, 3) := by decide +kernel
theorem dX2_isGood_209 : decode cX2_isGood 209 = .ok (.ifCond .eq 78, 3) := by decide +kernel
theorem dX2_isGood_212 : decode cX2_isGood 212 = .ok (.aload_n 0, 1) := by decide +kernel
theorem dX2_isGood_213 : decode cX2_isGood 213 = .ok (.getfield 22, 3) := by decide +kernel
theorem dX2_isGood_216 : decode cX2_isGood 216 = .ok (.iload_n 2, 1) := by decide +kernel
theorem dX2_isGood_217 : decode cX2_isGood 217 = .ok (.bipush 6, 2) := by decide +kernel
theorem dX2_isGood_219 : decode cX2_isGood 219 = .ok (.iadd, 1) := by decide +kernel
theorem dX2_isGood_220 : decode cX2_isGood 220 = .ok (.iaload, 1) := by decide +kernel
theorem dX2_isGood_221 : decode cX2_isGood 221 = .ok (.ifCond .ne 18, 3) := by decide +kernel
theorem dX2_isGood_224 : decode cX2_isGood 224 = .ok (.aload_n 0, 1) := by decide +kernel
theorem dX2_isGood_225 : decode cX2_isGood 225 = .ok (.getfield 22, 3) := by decide +kernel
theorem dX2_isGood_228 : decode cX2_isGood 228 = .ok (.iload_n 2, 1) := by decide +kernel
theorem dX2_isGood_229 : decode cX2_isGood 229 = .ok (.bipush 7, 2) := by decide +kernel
theorem dX2_isGood_231 : decode cX2_isGood 231 = .ok (.iadd, 1) := by decide +kernel
theorem dX2_isGood_232 : decode cX2_isGood 232 = .ok (.iaload, 1) := by decide +kernel
theorem dX2_isGood_233 : decode cX2_isGood 233 = .ok (.ifCond .ne 54, 3) := by decide +kernel
theorem dX2_isGood_236 : decode cX2_isGood 236 = .ok (.goto 47, 3) := by decide +kernel
theorem dX2_isGood_239 : decode cX2_isGood 239 = .ok (.aload_n 0, 1) := by decide +kernel
theorem dX2_isGood_240 : decode cX2_isGood 240 = .ok (.aload_n 0, 1) := by decide +kernel
theorem dX2_isGood_241 : decode cX2_isGood 241 = .ok (.getfield 22, 3) := by decide +kernel
theorem dX2_isGood_244 : decode cX2_isGood 244 = .ok (.iload_n 2, 1) := by decide +kernel
theorem dX2_isGood_245 : decode cX2_isGood 245 = .ok (.bipush 6, 2) := by decide +kernel
theorem dX2_isGood_247 : decode cX2_isGood 247 = .ok (.iadd, 1) := by decide +kernel
theorem dX2_isGood_248 : decode cX2_isGood 248 = .ok (.iaload, 1) := by decide +kernel
theorem dX2_isGood_249 : decode cX2_isGood 249 = .ok (.invokevirtual 105, 3) := by decide +kernel
theorem dX2_isGood_252 : decode cX2_isGood 252 = .ok (.ifCond .eq 35, 3) := by decide +kernel
theorem dX2_isGood_255 : decode cX2_isGood 255 = .ok (.aload_n 0, 1) := by decide +kernel
theorem dX2_isGood_256 : decode cX2_isGood 256 = .ok (.getfield 22, 3) := by decide +kernel
theorem dX2_isGood_259 : decode cX2_isGood 259 = .ok (.iload_n 2, 1) := by decide +kernel
theorem dX2_isGood_260 : decode cX2_isGood 260 = .ok (.bipush 7, 2) := by decide +kernel
theorem dX2_isGood_262 : decode cX2_isGood 262 = .ok (.iadd, 1) := by decide +kernel
theorem dX2_isGood_263 : decode cX2_isGood 263 = .ok (.iaload, 1) := by decide +kernel
theorem dX2_isGood_264 : decode cX2_isGood 264 = .ok (.ifCond .eq 19, 3) := by decide +kernel
theorem dX2_isGood_267 : decode cX2_isGood 267 = .ok (.aload_n 0, 1) := by decide +kernel
theorem dX2_isGood_268 : decode cX2_isGood 268 = .ok (.aload_n 0, 1) := by decide +kernel
theorem dX2_isGood_269 : decode cX2_isGood 269 = .ok (.getfield 22, 3) := by decide +kernel
theorem dX2_isGood_272 : decode cX2_isGood 272 = .ok (.iload_n 2, 1) := by decide +kernel
theorem dX2_isGood_273 : decode cX2_isGood 273 = .ok (.bipush 7, 2) := by decide +kernel
theorem dX2_isGood_275 : decode cX2_isGood 275 = .ok (.iadd, 1) := by decide +kernel
theorem dX2_isGood_276 : decode cX2_isGood 276 = .ok (.iaload, 1) := by decide +kernel
theorem dX2_isGood_277 : decode cX2_isGood 277 = .ok (.invokevirtual 105, 3) := by decide +kernel
theorem dX2_isGood_280 : decode cX2_isGood 280 = .ok (.ifCond .eq 7, 3) := by decide +kernel
theorem dX2_isGood_283 : decode cX2_isGood 283 = .ok (.iconst 1, 1) := by decide +kernel
theorem dX2_isGood_284 : decode cX2_isGood 284 = .ok (.goto 4, 3) := by decide +kernel
theorem dX2_isGood_287 : decode cX2_isGood 287 = .ok (.iconst 0, 1) := by decide +kernel
theorem dX2_isGood_288 : decode cX2_isGood 288 = .ok (.ireturn, 1) := by decide +kernel
theorem dX2_isGood_289 : decode cX2_isGood 289 = .ok (.aload_n 0, 1) := by decide +kernel
theorem dX2_isGood_290 : decode cX2_isGood 290 = .ok (.iload_n 1, 1) := by decide +kernel
theorem dX2_isGood_291 : decode cX2_isGood 291 = .ok (.iconst 0, 1) := by decide +kernel
theorem dX2_isGood_292 : decode cX2_isGood 292 = .ok (.iconst 4, 1) := by decide +kernel
theorem dX2_isGood_293 : decode cX2_isGood 293 = .ok (.invokevirtual 102, 3) := by decide +kernel
theorem dX2_isGood_296 : decode cX2_isGood 296 = .ok (.ifCond .eq 29, 3) := by decide +kernel
theorem dX2_isGood_299 : decode cX2_isGood 299 = .ok (.aload_n 0, 1) := by decide +kernel
theorem dX2_isGood_300 : decode cX2_isGood 300 = .ok (.getfield 22, 3) := by decide +kernel
theorem dX2_isGood_303 : decode cX2_isGood 303 = .ok (.iload_n 2, 1) := by decide +kernel
theorem dX2_isGood_304 : decode cX2_isGood 304 = .ok (.iconst 4, 1) := by decide +kernel
theorem dX2_isGood_305 : decode cX2_isGood 305 = .ok (.iadd, 1) := by decide +kernel
theorem dX2_isGood_306 : decode cX2_isGood 306 = .ok (.iaload, 1) := by decide +kernel
theorem dX2_isGood_307 : decode cX2_isGood 307 = .ok (.ifCond .eq 18, 3) := by decide +kernel
theorem dX2_isGood_310 : decode cX2_isGood 310 = .ok (.aload_n 0, 1) := by decide +kernel
theorem dX2_isGood_311 : decode cX2_isGood 311 = .ok (.iload_n 1, 1) := by decide +kernel
theorem dX2_isGood_312 : decode cX2_isGood 312 = .ok (.iconst 5, 1) := by decide +kernel
theorem dX2_isGood_313 : decode cX2_isGood 313 = .ok (.bipush 8, 2) := by decide +kernel
theorem dX2_isGood_315 : decode cX2_isGood 315 = .ok (.invokevirtual 102, 3) := by decide +kernel
theorem dX2_isGood_318 : decode cX2_isGood 318 = .ok (.ifCond .eq 7, 3) := by decide +kernel
theorem dX2_isGood_321 : decode cX2_isGood 321 = .ok (.iconst 1, 1) := by decide +kernel
theorem dX2_isGood_322 : decode cX2_isGood 322 = .ok (.goto 4, 3) := by decide +kernel
theorem dX2_isGood_325 : decode cX2_isGood 325 = .ok (.iconst 0, 1) := by decide +kernel
theorem dX2_isGood_326 : decode cX2_isGood 326 = .ok (.ireturn, 1) := by decide +kernel
theorem dX2_isGood_327 : decode cX2_isGood 327 = .ok (.iload_n 3, 1) := by decide +kernel
theorem dX2_isGood_328 : decode cX2_isGood 328 = .ok (.iconst 0, 1) := by decide +kernel
theorem dX2_isGood_329 : decode cX2_isGood 329 = .ok (.iconst 3, 1) := by decide +kernel
theorem dX2_isGood_330 : decode cX2_isGood 330 = .ok (.invokestatic 98, 3) := by decide +kernel
theorem dX2_isGood_333 : decode cX2_isGood 333 = .ok (.ifCond .eq 68, 3) := by decide +kernel
theorem dX2_isGood_336 : decode cX2_isGood 336 = .ok (.iload 4, 2) := by decide +kernel
theorem dX2_isGood_338 : decode cX2_isGood 338 = .ok (.iconst 1, 1) := by decide +kernel
theorem dX2_isGood_339 : decode cX2_isGood 339 = .ok (.if_icmp .lt 62, 3) := by decide +kernel
theorem dX2_isGood_342 : decode cX2_isGood 342 = .ok (.iload 5, 2) := by decide +kernel
theorem dX2_isGood_344 : decode cX2_isGood 344 = .ok (.iconst 0, 1) := by decide +kernel
theorem dX2_isGood_345 : decode cX2_isGood 345 = .ok (.sipush 9999, 3) := by decide +kernel
theorem dX2_isGood_348 : decode cX2_isGood 348 = .ok (.invokestatic 98, 3) := by decide +kernel
theorem dX2_isGood_351 : decode cX2_isGood 351 = .ok (.ifCond .eq 50, 3) := by decide +kernel
theorem dX2_isGood_354 : decode cX2_isGood 354 = .ok (.iload 6, 2) := by decide +kernel
theorem dX2_isGood_356 : decode cX2_isGood 356 = .ok (.ifCond .ne 45, 3) := by decide +kernel
theorem dX2_isGood_359 : decode cX2_isGood 359 = .ok (.aload_n 0, 1) := by decide +kernel
theorem dX2_isGood_360 : decode cX2_isGood 360 = .ok (.getfield 22, 3) := by decide +kernel
theorem dX2_isGood_363 : decode cX2_isGood 363 = .ok (.iload_n 2, 1) := by decide +kernel
theorem dX2_isGood_364 : decode cX2_isGood 364 = .ok (.iconst 4, 1) := by decide +kernel
theorem dX2_isGood_365 : decode cX2_isGood 365 = .ok (.iadd, 1) := by decide +kernel
theorem dX2_isGood_366 : decode cX2_isGood 366 = .ok (.iaload, 1) := by decide +kernel
theorem dX2_isGood_367 : decode cX2_isGood 367 = .ok (.ifCond .eq 34, 3) := by decide +kernel
theorem dX2_isGood_370 : decode cX2_isGood 370 = .ok (.aload_n 0, 1) := by decide +kernel
theorem dX2_isGood_371 : decode cX2_isGood 371 = .ok (.aload_n 0, 1) := by decide +kernel
theorem dX2_isGood_372 : decode cX2_isGood 372 = .ok (.getfield 22, 3) := by decide +kernel
theorem dX2_isGood_375 : decode cX2_isGood 375 = .ok (.iload_n 2, 1) := by decide +kernel
theorem dX2_isGood_376 : decode cX2_isGood 376 = .ok (.iconst 5, 1) := by decide +kernel
theorem dX2_isGood_377 : decode cX2_isGood 377 = .ok (.iadd, 1) := by decide +kernel
theorem dX2_isGood_378 : decode cX2_isGood 378 = .ok (.iaload, 1) := by decide +kernel
theorem dX2_isGood_379 : decode cX2_isGood 379 = .ok (.invokevirtual 105, 3) := by decide +kernel
theorem dX2_isGood_382 : decode cX2_isGood 382 = .ok (.ifCond .eq 19, 3) := by decide +kernel
theorem dX2_isGood_385 : decode cX2_isGood 385 = .ok (.aload_n 0, 1) := by decide +kernel
theorem dX2_isGood_386 : decode cX2_isGood 386 = .ok (.iload_n 1, 1) := by decide +kernel
theorem dX2_isGood_387 : decode cX2_isGood 387 = .ok (.bipush 6, 2) := by decide +kernel
theorem dX2_isGood_389 : decode cX2_isGood 389 = .ok (.bipush 8, 2) := by decide +kernel
theorem dX2_isGood_391 : decode cX2_isGood 391 = .ok (.invokevirtual 102, 3) := by decide +kernel
theorem dX2_isGood_394 : decode cX2_isGood 394 = .ok (.ifCond .eq 7, 3) := by decide +kernel
theorem dX2_isGood_397 : decode cX2_isGood 397 = .ok (.iconst 1, 1) := by decide +kernel
theorem dX2_isGood_398 : decode cX2_isGood 398 = .ok (.goto 4, 3) := by decide +kernel
theorem dX2_isGood_401 : decode cX2_isGood 401 = .ok (.iconst 0, 1) := by decide +kernel
theorem dX2_isGood_402 : decode cX2_isGood 402 = .ok (.ireturn, 1) := by decide +kernel
theorem dX2_isGood_403 : decode cX2_isGood 403 = .ok (.iload_n 3, 1) := by decide +kernel
theorem dX2_isGood_404 : decode cX2_isGood 404 = .ok (.iconst 0, 1) := by decide +kernel
theorem dX2_isGood_405 : decode cX2_isGood 405 = .ok (.iconst 3, 1) := by decide +kernel
theorem dX2_isGood_406 : decode cX2_isGood 406 = .ok (.invokestatic 98, 3) := by decide +kernel
theorem dX2_isGood_409 : decode cX2_isGood 409 = .ok (.ifCond .eq 35, 3) := by decide +kernel
theorem dX2_isGood_412 : decode cX2_isGood 412 = .ok (.iload 4, 2) := by decide +kernel
theorem dX2_isGood_414 : decode cX2_isGood 414 = .ok (.iconst 1, 1) := by decide +kernel
theorem dX2_isGood_415 : decode cX2_isGood 415 = .ok (.if_icmp .lt 29, 3) := by decide +kernel
theorem dX2_isGood_418 : decode cX2_isGood 418 = .ok (.iload 5, 2) := by decide +kernel
theorem dX2_isGood_420 : decode cX2_isGood 420 = .ok (.iconst 0, 1) := by decide +kernel
theorem dX2_isGood_421 : decode cX2_isGood 421 = .ok (.bipush 63, 2) := by decide +kernel
theorem dX2_isGood_423 : decode cX2_isGood 423 = .ok (.invokestatic 98, 3) := by decide +kernel
theorem dX2_isGood_426 : decode cX2_isGood 426 = .ok (.ifCond .eq 18, 3) := by decide +kernel
theorem dX2_isGood_429 : decode cX2_isGood 429 = .ok (.aload_n 0, 1) := by decide +kernel
theorem dX2_isGood_430 : decode cX2_isGood 430 = .ok (.iload_n 1, 1) := by decide +kernel
theorem dX2_isGood_431 : decode cX2_isGood 431 = .ok (.iconst 3, 1) := by decide +kernel
theorem dX2_isGood_432 : decode cX2_isGood 432 = .ok (.bipush 8, 2) := by decide +kernel
theorem dX2_isGood_434 : decode cX2_isGood 434 = .ok (.invokevirtual 102, 3) := by decide +kernel
theorem dX2_isGood_437 : decode cX2_isGood 437 = .ok (.ifCond .eq 7, 3) := by decide +kernel
theorem dX2_isGood_440 : decode cX2_isGood 440 = .ok (.iconst 1, 1) := by decide +kernel
theorem dX2_isGood_441 : decode cX2_isGood 441 = .ok (.goto 4, 3) := by decide +kernel
theorem dX2_isGood_444 : decode cX2_isGood 444 = .ok (.iconst 0, 1) := by decide +kernel
theorem dX2_isGood_445 : decode cX2_isGood 445 = .ok (.ireturn, 1) := by decide +kernel
theorem dX2_isGood_446 : decode cX2_isGood 446 = .ok (.iload_n 3, 1) := by decide +kernel
theorem dX2_isGood_447 : decode cX2_isGood 447 = .ok (.iconst 0, 1) := by decide +kernel
theorem dX2_isGood_448 : decode cX2_isGood 448 = .ok (.iconst 3, 1) := by decide +kernel
theorem dX2_isGood_449 : decode cX2_isGood 449 = .ok (.invokestatic 98, 3) := by decide +kernel
theorem dX2_isGood_452 : decode cX2_isGood 452 = .ok (.ifCond .eq 46, 3) := by decide +kernel
theorem dX2_isGood_455 : decode cX2_isGood 455 = .ok (.iload 4, 2) := by decide +kernel
theorem dX2_isGood_457 : decode cX2_isGood 457 = .ok (.iconst 0, 1) := by decide +kernel
theorem dX2_isGood_458 : decode cX2_isGood 458 = .ok (.iconst 5, 1) := by decide +kernel
theorem dX2_isGood_459 : decode cX2_isGood 459 = .ok (.invokestatic 98, 3) := by decide +kernel
theorem dX2_isGood_462 : decode cX2_isGood 462 = .ok (.ifCond .eq 36, 3) := by decide +kernel
theorem dX2_isGood_465 : decode cX2_isGood 465 = .ok (.iload 5, 2) := by decide +kernel
theorem dX2_isGood_467 : decode cX2_isGood 467 = .ok (.iconst 1, 1) := by decide +kernel
theorem dX2_isGood_468 : decode cX2_isGood 468 = .ok (.if_icmp .lt 30, 3) := by decide +kernel
theorem dX2_isGood_471 : decode cX2_isGood 471 = .ok (.iload 6, 2) := by decide +kernel
theorem dX2_isGood_473 : decode cX2_isGood 473 = .ok (.iconst 0, 1) := by decide +kernel
theorem dX2_isGood_474 : decode cX2_isGood 474 = .ok (.sipush 9999, 3) := by decide +kernel
theorem dX2_isGood_477 : decode cX2_isGood 477 = .ok (.invokestatic 98, 3) := by decide +kernel
theorem dX2_isGood_480 : decode cX2_isGood 480 = .ok (.ifCond .eq 18, 3) := by decide +kernel
theorem dX2_isGood_483 : decode cX2_isGood 483 = .ok (.aload_n 0, 1) := by decide +kernel
theorem dX2_isGood_484 : decode cX2_isGood 484 = .ok (.iload_n 1, 1) := by decide +kernel
theorem dX2_isGood_485 : decode cX2_isGood 485 = .ok (.iconst 4, 1) := by decide +kernel
theorem dX2_isGood_486 : decode cX2_isGood 486 = .ok (.bipush 8, 2) := by decide +kernel
theorem dX2_isGood_488 : decode cX2_isGood 488 = .ok (.invokevirtual 102, 3) := by decide +kernel
theorem dX2_isGood_491 : decode cX2_isGood 491 = .ok (.ifCond .eq 7, 3) := by decide +kernel
theorem dX2_isGood_494 : decode cX2_isGood 494 = .ok (.iconst 1, 1) := by decide +kernel
theorem dX2_isGood_495 : decode cX2_isGood 495 = .ok (.goto 4, 3) := by decide +kernel
theorem dX2_isGood_498 : decode cX2_isGood 498 = .ok (.iconst 0, 1) := by decide +kernel
theorem dX2_isGood_499 : decode cX2_isGood 499 = .ok (.ireturn, 1) := by decide +kernel
theorem dX2_good_0 : decode cX2_good 0 = .ok (.aload_n 0, 1) := by decide +kernel
theorem dX2_good_1 : decode cX2_good 1 = .ok (.iload_n 1, 1) := by decide +kernel
theorem dX2_good_2 : decode cX2_good 2 = .ok (.bipush 7, 2) := by decide +kernel
theorem dX2_good_4 : decode cX2_good 4 = .ok (.invokevirtual 60, 3) := by decide +kernel
theorem dX2_good_7 : decode cX2_good 7 = .ok (.ifCond .ne 7, 3) := by decide +kernel
theorem dX2_good_10 : decode cX2_good 10 = .ok (.iconst (-1), 1) := by decide +kernel
theorem dX2_good_11 : decode cX2_good 11 = .ok (.goto 23, 3) := by decide +kernel
theorem dX2_good_14 : decode cX2_good 14 = .ok (.aload_n 0, 1) := by decide +kernel
theorem dX2_good_15 : decode cX2_good 15 = .ok (.aload_n 0, 1) := by decide +kernel
theorem dX2_good_16 : decode cX2_good 16 = .ok (.getfield 35, 3) := by decide +kernel
theorem dX2_good_19 : decode cX2_good 19 = .ok (.iload_n 1, 1) := by decide +kernel
theorem dX2_good_20 : decode cX2_good 20 = .ok (.iaload, 1) := by decide +kernel
theorem dX2_good_21 : decode cX2_good 21 = .ok (.iconst 1, 1) := by decide +kernel
theorem dX2_good_22 : decode cX2_good 22 = .ok (.isub, 1) := by decide +kernel
theorem dX2_good_23 : decode cX2_good 23 = .ok (.invokevirtual 108, 3) := by decide +kernel
theorem dX2_good_26 : decode cX2_good 26 = .ok (.ifCond .eq 7, 3) := by decide +kernel
theorem dX2_good_29 : decode cX2_good 29 = .ok (.iconst 1, 1) := by decide +kernel
theorem dX2_good_30 : decode cX2_good 30 = .ok (.goto 4, 3) := by decide +kernel
theorem dX2_good_33 : decode cX2_good 33 = .ok (.iconst 0, 1) := by decide +kernel
theorem dX2_good_34 : decode cX2_good 34 = .ok (.ireturn, 1) := by decide +kernel
theorem dX2_about_0 : decode cX2_about 0 = .ok (.aload_n 0, 1) := by decide +kernel
theorem dX2_about_1 : decode cX2_about 1 = .ok (.iload_n 1, 1) := by decide +kernel
theorem dX2_about_2 : decode cX2_about 2 = .ok (.invokevirtual 50, 3) := by decide +kernel
theorem dX2_about_5 : decode cX2_about 5 = .ok (.ifCond .eq 12, 3) := by decide +kernel
theorem dX2_about_8 : decode cX2_about 8 = .ok (.iload_n 2, 1) := by decide +kernel
theorem dX2_about_9 : decode cX2_about 9 = .ok (.ifCond .lt 8, 3) := by decide +kernel
theorem dX2_about_12 : decode cX2_about 12 = .ok (.iload_n 2, 1) := by decide +kernel
theorem dX2_about_13 : decode cX2_about 13 = .ok (.iconst 5, 1) := by decide +kernel
theorem dX2_about_14 : decode cX2_about 14 = .ok (.if_icmp .le 5, 3) := by decide +kernel
theorem dX2_about_17 : decode cX2_about 17 = .ok (.iconst (-1), 1) := by decide +kernel
theorem dX2_about_18 : decode cX2_about 18 = .ok (.ireturn, 1) := by decide +kernel
theorem dX2_about_19 : decode cX2_about 19 = .ok (.aload_n 0, 1) := by decide +kernel
theorem dX2_about_20 : decode cX2_about 20 = .ok (.getfield 35, 3) := by decide +kernel
theorem dX2_about_23 : decode cX2_about 23 = .ok (.iload_n 1, 1) := by decide +kernel
theorem dX2_about_24 : decode cX2_about 24 = .ok (.iaload, 1) := by decide +kernel
theorem dX2_about_25 : decode cX2_about 25 = .ok (.iconst 1, 1) := by decide +kernel
theorem dX2_about_26 : decode cX2_about 26 = .ok (.isub, 1) := by decide +kernel
theorem dX2_about_27 : decode cX2_about 27 = .ok (.istore_n 3, 1) := by decide +kernel
theorem dX2_about_28 : decode cX2_about 28 = .ok (.iload_n 2, 1) := by decide +kernel
theorem dX2_about_29 : decode cX2_about 29 = .ok (.ifCond .ne 10, 3) := by decide +kernel
theorem dX2_about_32 : decode cX2_about 32 = .ok (.aload_n 0, 1) := by decide +kernel
theorem dX2_about_33 : decode cX2_about 33 = .ok (.getfield 9, 3) := by decide +kernel
theorem dX2_about_36 : decode cX2_about 36 = .ok (.iload_n 3, 1) := by decide +kernel
theorem dX2_about_37 : decode cX2_about 37 = .ok (.iaload, 1) := by decide +kernel
theorem dX2_about_38 : decode cX2_about 38 = .ok (.ireturn, 1) := by decide +kernel
theorem dX2_about_39 : decode cX2_about 39 = .ok (.iload_n 2, 1) := by decide +kernel
theorem dX2_about_40 : decode cX2_about 40 = .ok (.iconst 1, 1) := by decide +kernel
theorem dX2_about_41 : decode cX2_about 41 = .ok (.if_icmp .ne 35, 3) := by decide +kernel
theorem dX2_about_44 : decode cX2_about 44 = .ok (.aload_n 0, 1) := by decide +kernel
theorem dX2_about_45 : decode cX2_about 45 = .ok (.getfield 9, 3) := by decide +kernel
theorem dX2_about_48 : decode cX2_about 48 = .ok (.iload_n 3, 1) := by decide +kernel
theorem dX2_about_49 : decode cX2_about 49 = .ok (.iaload, 1) := by decide +kernel
theorem dX2_about_50 : decode cX2_about 50 = .ok (.iconst 4, 1) := by decide +kernel
theorem dX2_about_51 : decode cX2_about 51 = .ok (.if_icmp .eq 14, 3) := by decide +kernel
theorem dX2_about_54 : decode cX2_about 54 = .ok (.aload_n 0, 1) := by decide +kernel
theorem dX2_about_55 : decode cX2_about 55 = .ok (.getfield 9, 3) := by decide +kernel
theorem dX2_about_58 : decode cX2_about 58 = .ok (.iload_n 3, 1) := by decide +kernel
theorem dX2_about_59 : decode cX2_about 59 = .ok (.iaload, 1) := by decide +kernel
theorem dX2_about_60 : decode cX2_about 60 = .ok (.bipush 7, 2) := by decide +kernel
theorem dX2_about_62 : decode cX2_about 62 = .ok (.if_icmp .ne 12, 3) := by decide +kernel
theorem dX2_about_65 : decode cX2_about 65 = .ok (.aload_n 0, 1) := by decide +kernel
theorem dX2_about_66 : decode cX2_about 66 = .ok (.getfield 13, 3) := by decide +kernel
theorem dX2_about_69 : decode cX2_about 69 = .ok (.iload_n 3, 1) := by decide +kernel
theorem dX2_about_70 : decode cX2_about 70 = .ok (.iaload, 1) := by decide +kernel
theorem dX2_about_71 : decode cX2_about 71 = .ok (.goto 4, 3) := by decide +kernel
theorem dX2_about_74 : decode cX2_about 74 = .ok (.iconst 0, 1) := by decide +kernel
theorem dX2_about_75 : decode cX2_about 75 = .ok (.ireturn, 1) := by decide +kernel
theorem dX2_about_76 : decode cX2_about 76 = .ok (.aload_n 0, 1) := by decide +kernel
theorem dX2_about_77 : decode cX2_about 77 = .ok (.getfield 9, 3) := by decide +kernel
theorem dX2_about_80 : decode cX2_about 80 = .ok (.iload_n 3, 1) := by decide +kernel
theorem dX2_about_81 : decode cX2_about 81 = .ok (.iaload, 1) := by decide +kernel
theorem dX2_about_82 : decode cX2_about 82 = .ok (.bipush 7, 2) := by decide +kernel
theorem dX2_about_84 : decode cX2_about 84 = .ok (.if_icmp .ne 19, 3) := by decide +kernel
theorem dX2_about_87 : decode cX2_about 87 = .ok (.aload_n 0, 1) := by decide +kernel
theorem dX2_about_88 : decode cX2_about 88 = .ok (.getfield 22, 3) := by decide +kernel
theorem dX2_about_91 : decode cX2_about 91 = .ok (.bipush 8, 2) := by decide +kernel
theorem dX2_about_93 : decode cX2_about 93 = .ok (.iload_n 3, 1) := by decide +kernel
theorem dX2_about_94 : decode cX2_about 94 = .ok (.imul, 1) := by decide +kernel
theorem dX2_about_95 : decode cX2_about 95 = .ok (.iload_n 2, 1) := by decide +kernel
theorem dX2_about_96 : decode cX2_about 96 = .ok (.iadd, 1) := by decide +kernel
theorem dX2_about_97 : decode cX2_about 97 = .ok (.iconst 2, 1) := by decide +kernel
theorem dX2_about_98 : decode cX2_about 98 = .ok (.isub, 1) := by decide +kernel
theorem dX2_about_99 : decode cX2_about 99 = .ok (.iaload, 1) := by decide +kernel
theorem dX2_about_100 : decode cX2_about 100 = .ok (.goto 4, 3) := by decide +kernel
theorem dX2_about_103 : decode cX2_about 103 = .ok (.iconst 0, 1) := by decide +kernel
theorem dX2_about_104 : decode cX2_about 104 = .ok (.ireturn, 1) := by decide +kernel
theorem dX2_count_0 : decode cX2_count 0 = .ok (.iload_n 1, 1) := by decide +kernel
theorem dX2_count_1 : decode cX2_count 1 = .ok (.ifCond .ne 10, 3) := by decide +kernel
theorem dX2_count_4 : decode cX2_count 4 = .ok (.aload_n 0, 1) := by decide +kernel
theorem dX2_count_5 : decode cX2_count 5 = .ok (.getfield 38, 3) := by decide +kernel
theorem dX2_count_8 : decode cX2_count 8 = .ok (.goto 16, 3) := by decide +kernel
theorem dX2_count_11 : decode cX2_count 11 = .ok (.iload_n 1, 1) := by decide +kernel
theorem dX2_count_12 : decode cX2_count 12 = .ok (.iconst 1, 1) := by decide +kernel
theorem dX2_count_13 : decode cX2_count 13 = .ok (.if_icmp .ne 10, 3) := by decide +kernel
theorem dX2_count_16 : decode cX2_count 16 = .ok (.aload_n 0, 1) := by decide +kernel
theorem dX2_count_17 : decode cX2_count 17 = .ok (.invokevirtual 94, 3) := by decide +kernel
theorem dX2_count_20 : decode cX2_count 20 = .ok (.goto 4, 3) := by decide +kernel
theorem dX2_count_23 : decode cX2_count 23 = .ok (.iconst (-1), 1) := by decide +kernel
theorem dX2_count_24 : decode cX2_count 24 = .ok (.ireturn, 1) := by decide +kernel
