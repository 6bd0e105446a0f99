/-! Decode rows, laid by wip/gen/names.py -/
theorem d_M_receive_0 : decode b_M_receive 0 = .ok (.aload_n 0, 1) := by decide +kernel
theorem d_M_receive_1 : decode b_M_receive 1 = .ok (.iload_n 1, 1) := by decide +kernel
theorem d_M_receive_2 : decode b_M_receive 2 = .ok (.iload_n 2, 1) := by decide +kernel
theorem d_M_receive_3 : decode b_M_receive 3 = .ok (.iload_n 3, 1) := by decide +kernel
theorem d_M_receive_4 : decode b_M_receive 4 = .ok (.iload 4, 2) := by decide +kernel
theorem d_M_receive_6 : decode b_M_receive 6 = .ok (.iload 5, 2) := by decide +kernel
theorem d_M_receive_8 : decode b_M_receive 8 = .ok (.lload 6, 2) := by decide +kernel
theorem d_M_receive_10 : decode b_M_receive 10 = .ok (.invokevirtual 113, 3) := by decide +kernel
theorem d_M_receive_13 : decode b_M_receive 13 = .ok (.istore 8, 2) := by decide +kernel
theorem d_M_receive_15 : decode b_M_receive 15 = .ok (.iload 8, 2) := by decide +kernel
theorem d_M_receive_17 : decode b_M_receive 17 = .ok (.ifCond .eq 6, 3) := by decide +kernel
theorem d_M_receive_20 : decode b_M_receive 20 = .ok (.iload 8, 2) := by decide +kernel
theorem d_M_receive_22 : decode b_M_receive 22 = .ok (.ireturn, 1) := by decide +kernel
theorem d_M_receive_23 : decode b_M_receive 23 = .ok (.iload_n 3, 1) := by decide +kernel
theorem d_M_receive_24 : decode b_M_receive 24 = .ok (.iconst 4, 1) := by decide +kernel
theorem d_M_receive_25 : decode b_M_receive 25 = .ok (.if_icmp .ne 26, 3) := by decide +kernel
theorem d_M_receive_28 : decode b_M_receive 28 = .ok (.aload_n 0, 1) := by decide +kernel
theorem d_M_receive_29 : decode b_M_receive 29 = .ok (.getfield 41, 3) := by decide +kernel
theorem d_M_receive_32 : decode b_M_receive 32 = .ok (.bipush 7, 2) := by decide +kernel
theorem d_M_receive_34 : decode b_M_receive 34 = .ok (.iload_n 1, 1) := by decide +kernel
theorem d_M_receive_35 : decode b_M_receive 35 = .ok (.imul, 1) := by decide +kernel
theorem d_M_receive_36 : decode b_M_receive 36 = .ok (.iload_n 2, 1) := by decide +kernel
theorem d_M_receive_37 : decode b_M_receive 37 = .ok (.iadd, 1) := by decide +kernel
theorem d_M_receive_38 : decode b_M_receive 38 = .ok (.lload 6, 2) := by decide +kernel
theorem d_M_receive_40 : decode b_M_receive 40 = .ok (.l2i, 1) := by decide +kernel
theorem d_M_receive_41 : decode b_M_receive 41 = .ok (.iconst 1, 1) := by decide +kernel
theorem d_M_receive_42 : decode b_M_receive 42 = .ok (.iadd, 1) := by decide +kernel
theorem d_M_receive_43 : decode b_M_receive 43 = .ok (.iastore, 1) := by decide +kernel
theorem d_M_receive_44 : decode b_M_receive 44 = .ok (.aload_n 0, 1) := by decide +kernel
theorem d_M_receive_45 : decode b_M_receive 45 = .ok (.iload_n 1, 1) := by decide +kernel
theorem d_M_receive_46 : decode b_M_receive 46 = .ok (.invokevirtual 117, 3) := by decide +kernel
theorem d_M_receive_49 : decode b_M_receive 49 = .ok (.iconst 0, 1) := by decide +kernel
theorem d_M_receive_50 : decode b_M_receive 50 = .ok (.ireturn, 1) := by decide +kernel
theorem d_M_receive_51 : decode b_M_receive 51 = .ok (.iload_n 1, 1) := by decide +kernel
theorem d_M_receive_52 : decode b_M_receive 52 = .ok (.iload 4, 2) := by decide +kernel
theorem d_M_receive_54 : decode b_M_receive 54 = .ok (.iload 5, 2) := by decide +kernel
theorem d_M_receive_56 : decode b_M_receive 56 = .ok (.invokestatic 83, 3) := by decide +kernel
theorem d_M_receive_59 : decode b_M_receive 59 = .ok (.istore 9, 2) := by decide +kernel
theorem d_M_receive_61 : decode b_M_receive 61 = .ok (.iload_n 3, 1) := by decide +kernel
theorem d_M_receive_62 : decode b_M_receive 62 = .ok (.ifCond .ne 25, 3) := by decide +kernel
theorem d_M_receive_65 : decode b_M_receive 65 = .ok (.aload_n 0, 1) := by decide +kernel
theorem d_M_receive_66 : decode b_M_receive 66 = .ok (.iload_n 1, 1) := by decide +kernel
theorem d_M_receive_67 : decode b_M_receive 67 = .ok (.invokevirtual 120, 3) := by decide +kernel
theorem d_M_receive_70 : decode b_M_receive 70 = .ok (.ifCond .eq 6, 3) := by decide +kernel
theorem d_M_receive_73 : decode b_M_receive 73 = .ok (.bipush (-7), 2) := by decide +kernel
theorem d_M_receive_75 : decode b_M_receive 75 = .ok (.ireturn, 1) := by decide +kernel
theorem d_M_receive_76 : decode b_M_receive 76 = .ok (.aload_n 0, 1) := by decide +kernel
theorem d_M_receive_77 : decode b_M_receive 77 = .ok (.getfield 23, 3) := by decide +kernel
theorem d_M_receive_80 : decode b_M_receive 80 = .ok (.iload 9, 2) := by decide +kernel
theorem d_M_receive_82 : decode b_M_receive 82 = .ok (.lload 6, 2) := by decide +kernel
theorem d_M_receive_84 : decode b_M_receive 84 = .ok (.lastore, 1) := by decide +kernel
theorem d_M_receive_85 : decode b_M_receive 85 = .ok (.iconst 0, 1) := by decide +kernel
theorem d_M_receive_86 : decode b_M_receive 86 = .ok (.ireturn, 1) := by decide +kernel
theorem d_M_receive_87 : decode b_M_receive 87 = .ok (.aload_n 0, 1) := by decide +kernel
theorem d_M_receive_88 : decode b_M_receive 88 = .ok (.getfield 38, 3) := by decide +kernel
theorem d_M_receive_91 : decode b_M_receive 91 = .ok (.iload_n 1, 1) := by decide +kernel
theorem d_M_receive_92 : decode b_M_receive 92 = .ok (.iload_n 3, 1) := by decide +kernel
theorem d_M_receive_93 : decode b_M_receive 93 = .ok (.iload 4, 2) := by decide +kernel
theorem d_M_receive_95 : decode b_M_receive 95 = .ok (.iload 5, 2) := by decide +kernel
theorem d_M_receive_97 : decode b_M_receive 97 = .ok (.iload_n 2, 1) := by decide +kernel
theorem d_M_receive_98 : decode b_M_receive 98 = .ok (.invokestatic 109, 3) := by decide +kernel
theorem d_M_receive_101 : decode b_M_receive 101 = .ok (.lload 6, 2) := by decide +kernel
theorem d_M_receive_103 : decode b_M_receive 103 = .ok (.lastore, 1) := by decide +kernel
theorem d_M_receive_104 : decode b_M_receive 104 = .ok (.iload_n 3, 1) := by decide +kernel
theorem d_M_receive_105 : decode b_M_receive 105 = .ok (.iconst 1, 1) := by decide +kernel
theorem d_M_receive_106 : decode b_M_receive 106 = .ok (.if_icmp .ne 35, 3) := by decide +kernel
theorem d_M_receive_109 : decode b_M_receive 109 = .ok (.aload_n 0, 1) := by decide +kernel
theorem d_M_receive_110 : decode b_M_receive 110 = .ok (.iload_n 1, 1) := by decide +kernel
theorem d_M_receive_111 : decode b_M_receive 111 = .ok (.iconst 1, 1) := by decide +kernel
theorem d_M_receive_112 : decode b_M_receive 112 = .ok (.iload 4, 2) := by decide +kernel
theorem d_M_receive_114 : decode b_M_receive 114 = .ok (.iload 5, 2) := by decide +kernel
theorem d_M_receive_116 : decode b_M_receive 116 = .ok (.lload 6, 2) := by decide +kernel
theorem d_M_receive_118 : decode b_M_receive 118 = .ok (.invokevirtual 124, 3) := by decide +kernel
theorem d_M_receive_121 : decode b_M_receive 121 = .ok (.aload_n 0, 1) := by decide +kernel
theorem d_M_receive_122 : decode b_M_receive 122 = .ok (.getfield 47, 3) := by decide +kernel
theorem d_M_receive_125 : decode b_M_receive 125 = .ok (.aload_n 0, 1) := by decide +kernel
theorem d_M_receive_126 : decode b_M_receive 126 = .ok (.getfield 51, 3) := by decide +kernel
theorem d_M_receive_129 : decode b_M_receive 129 = .ok (.iadd, 1) := by decide +kernel
theorem d_M_receive_130 : decode b_M_receive 130 = .ok (.iconst 2, 1) := by decide +kernel
theorem d_M_receive_131 : decode b_M_receive 131 = .ok (.idiv, 1) := by decide +kernel
theorem d_M_receive_132 : decode b_M_receive 132 = .ok (.iconst 1, 1) := by decide +kernel
theorem d_M_receive_133 : decode b_M_receive 133 = .ok (.iadd, 1) := by decide +kernel
theorem d_M_receive_134 : decode b_M_receive 134 = .ok (.if_icmp .lt 7, 3) := by decide +kernel
theorem d_M_receive_137 : decode b_M_receive 137 = .ok (.iconst 1, 1) := by decide +kernel
theorem d_M_receive_138 : decode b_M_receive 138 = .ok (.goto 4, 3) := by decide +kernel
theorem d_M_receive_141 : decode b_M_receive 141 = .ok (.iconst 0, 1) := by decide +kernel
theorem d_M_receive_142 : decode b_M_receive 142 = .ok (.istore 10, 2) := by decide +kernel
theorem d_M_receive_144 : decode b_M_receive 144 = .ok (.iload_n 3, 1) := by decide +kernel
theorem d_M_receive_145 : decode b_M_receive 145 = .ok (.iconst 2, 1) := by decide +kernel
theorem d_M_receive_146 : decode b_M_receive 146 = .ok (.if_icmp .ne 28, 3) := by decide +kernel
theorem d_M_receive_149 : decode b_M_receive 149 = .ok (.aload_n 0, 1) := by decide +kernel
theorem d_M_receive_150 : decode b_M_receive 150 = .ok (.iload_n 1, 1) := by decide +kernel
theorem d_M_receive_151 : decode b_M_receive 151 = .ok (.iconst 2, 1) := by decide +kernel
theorem d_M_receive_152 : decode b_M_receive 152 = .ok (.iload 4, 2) := by decide +kernel
theorem d_M_receive_154 : decode b_M_receive 154 = .ok (.iload 5, 2) := by decide +kernel
theorem d_M_receive_156 : decode b_M_receive 156 = .ok (.lload 6, 2) := by decide +kernel
theorem d_M_receive_158 : decode b_M_receive 158 = .ok (.invokevirtual 124, 3) := by decide +kernel
theorem d_M_receive_161 : decode b_M_receive 161 = .ok (.aload_n 0, 1) := by decide +kernel
theorem d_M_receive_162 : decode b_M_receive 162 = .ok (.getfield 51, 3) := by decide +kernel
theorem d_M_receive_165 : decode b_M_receive 165 = .ok (.iconst 1, 1) := by decide +kernel
theorem d_M_receive_166 : decode b_M_receive 166 = .ok (.iadd, 1) := by decide +kernel
theorem d_M_receive_167 : decode b_M_receive 167 = .ok (.if_icmp .lt 7, 3) := by decide +kernel
theorem d_M_receive_170 : decode b_M_receive 170 = .ok (.iconst 1, 1) := by decide +kernel
theorem d_M_receive_171 : decode b_M_receive 171 = .ok (.goto 4, 3) := by decide +kernel
theorem d_M_receive_174 : decode b_M_receive 174 = .ok (.iconst 0, 1) := by decide +kernel
theorem d_M_receive_175 : decode b_M_receive 175 = .ok (.istore 11, 2) := by decide +kernel
theorem d_M_receive_177 : decode b_M_receive 177 = .ok (.aload_n 0, 1) := by decide +kernel
theorem d_M_receive_178 : decode b_M_receive 178 = .ok (.getfield 26, 3) := by decide +kernel
theorem d_M_receive_181 : decode b_M_receive 181 = .ok (.iload 9, 2) := by decide +kernel
theorem d_M_receive_183 : decode b_M_receive 183 = .ok (.laload, 1) := by decide +kernel
theorem d_M_receive_184 : decode b_M_receive 184 = .ok (.lconst 0, 1) := by decide +kernel
theorem d_M_receive_185 : decode b_M_receive 185 = .ok (.lcmp, 1) := by decide +kernel
theorem d_M_receive_186 : decode b_M_receive 186 = .ok (.ifCond .ne 33, 3) := by decide +kernel
theorem d_M_receive_189 : decode b_M_receive 189 = .ok (.iload 10, 2) := by decide +kernel
theorem d_M_receive_191 : decode b_M_receive 191 = .ok (.ifCond .ne 8, 3) := by decide +kernel
theorem d_M_receive_194 : decode b_M_receive 194 = .ok (.iload 11, 2) := by decide +kernel
theorem d_M_receive_196 : decode b_M_receive 196 = .ok (.ifCond .eq 23, 3) := by decide +kernel
theorem d_M_receive_199 : decode b_M_receive 199 = .ok (.aload_n 0, 1) := by decide +kernel
theorem d_M_receive_200 : decode b_M_receive 200 = .ok (.iload_n 1, 1) := by decide +kernel
theorem d_M_receive_201 : decode b_M_receive 201 = .ok (.invokevirtual 120, 3) := by decide +kernel
theorem d_M_receive_204 : decode b_M_receive 204 = .ok (.ifCond .eq 6, 3) := by decide +kernel
theorem d_M_receive_207 : decode b_M_receive 207 = .ok (.bipush (-7), 2) := by decide +kernel
theorem d_M_receive_209 : decode b_M_receive 209 = .ok (.ireturn, 1) := by decide +kernel
theorem d_M_receive_210 : decode b_M_receive 210 = .ok (.aload_n 0, 1) := by decide +kernel
theorem d_M_receive_211 : decode b_M_receive 211 = .ok (.getfield 26, 3) := by decide +kernel
theorem d_M_receive_214 : decode b_M_receive 214 = .ok (.iload 9, 2) := by decide +kernel
theorem d_M_receive_216 : decode b_M_receive 216 = .ok (.lload 6, 2) := by decide +kernel
theorem d_M_receive_218 : decode b_M_receive 218 = .ok (.lastore, 1) := by decide +kernel
theorem d_M_receive_219 : decode b_M_receive 219 = .ok (.aload_n 0, 1) := by decide +kernel
theorem d_M_receive_220 : decode b_M_receive 220 = .ok (.iload_n 1, 1) := by decide +kernel
theorem d_M_receive_221 : decode b_M_receive 221 = .ok (.iconst 2, 1) := by decide +kernel
theorem d_M_receive_222 : decode b_M_receive 222 = .ok (.iload 4, 2) := by decide +kernel
theorem d_M_receive_224 : decode b_M_receive 224 = .ok (.iload 5, 2) := by decide +kernel
theorem d_M_receive_226 : decode b_M_receive 226 = .ok (.lload 6, 2) := by decide +kernel
theorem d_M_receive_228 : decode b_M_receive 228 = .ok (.invokevirtual 124, 3) := by decide +kernel
theorem d_M_receive_231 : decode b_M_receive 231 = .ok (.iconst 2, 1) := by decide +kernel
theorem d_M_receive_232 : decode b_M_receive 232 = .ok (.aload_n 0, 1) := by decide +kernel
theorem d_M_receive_233 : decode b_M_receive 233 = .ok (.getfield 51, 3) := by decide +kernel
theorem d_M_receive_236 : decode b_M_receive 236 = .ok (.imul, 1) := by decide +kernel
theorem d_M_receive_237 : decode b_M_receive 237 = .ok (.iconst 1, 1) := by decide +kernel
theorem d_M_receive_238 : decode b_M_receive 238 = .ok (.iadd, 1) := by decide +kernel
theorem d_M_receive_239 : decode b_M_receive 239 = .ok (.if_icmp .ge 24, 3) := by decide +kernel
theorem d_M_receive_242 : decode b_M_receive 242 = .ok (.aload_n 0, 1) := by decide +kernel
theorem d_M_receive_243 : decode b_M_receive 243 = .ok (.iload_n 1, 1) := by decide +kernel
theorem d_M_receive_244 : decode b_M_receive 244 = .ok (.iconst 3, 1) := by decide +kernel
theorem d_M_receive_245 : decode b_M_receive 245 = .ok (.iload 4, 2) := by decide +kernel
theorem d_M_receive_247 : decode b_M_receive 247 = .ok (.iload 5, 2) := by decide +kernel
theorem d_M_receive_249 : decode b_M_receive 249 = .ok (.lload 6, 2) := by decide +kernel
theorem d_M_receive_251 : decode b_M_receive 251 = .ok (.invokevirtual 124, 3) := by decide +kernel
theorem d_M_receive_254 : decode b_M_receive 254 = .ok (.aload_n 0, 1) := by decide +kernel
theorem d_M_receive_255 : decode b_M_receive 255 = .ok (.getfield 51, 3) := by decide +kernel
theorem d_M_receive_258 : decode b_M_receive 258 = .ok (.iconst 1, 1) := by decide +kernel
theorem d_M_receive_259 : decode b_M_receive 259 = .ok (.iadd, 1) := by decide +kernel
theorem d_M_receive_260 : decode b_M_receive 260 = .ok (.if_icmp .lt 7, 3) := by decide +kernel
theorem d_M_receive_263 : decode b_M_receive 263 = .ok (.iconst 1, 1) := by decide +kernel
theorem d_M_receive_264 : decode b_M_receive 264 = .ok (.goto 4, 3) := by decide +kernel
theorem d_M_receive_267 : decode b_M_receive 267 = .ok (.iconst 0, 1) := by decide +kernel
theorem d_M_receive_268 : decode b_M_receive 268 = .ok (.istore 12, 2) := by decide +kernel
theorem d_M_receive_270 : decode b_M_receive 270 = .ok (.iload 5, 2) := by decide +kernel
theorem d_M_receive_272 : decode b_M_receive 272 = .ok (.aload_n 0, 1) := by decide +kernel
theorem d_M_receive_273 : decode b_M_receive 273 = .ok (.iload_n 1, 1) := by decide +kernel
theorem d_M_receive_274 : decode b_M_receive 274 = .ok (.iload 4, 2) := by decide +kernel
theorem d_M_receive_276 : decode b_M_receive 276 = .ok (.invokevirtual 87, 3) := by decide +kernel
theorem d_M_receive_279 : decode b_M_receive 279 = .ok (.if_icmp .le 29, 3) := by decide +kernel
theorem d_M_receive_282 : decode b_M_receive 282 = .ok (.aload_n 0, 1) := by decide +kernel
theorem d_M_receive_283 : decode b_M_receive 283 = .ok (.getfield 44, 3) := by decide +kernel
theorem d_M_receive_286 : decode b_M_receive 286 = .ok (.iload 9, 2) := by decide +kernel
theorem d_M_receive_288 : decode b_M_receive 288 = .ok (.laload, 1) := by decide +kernel
theorem d_M_receive_289 : decode b_M_receive 289 = .ok (.lconst 0, 1) := by decide +kernel
theorem d_M_receive_290 : decode b_M_receive 290 = .ok (.lcmp, 1) := by decide +kernel
theorem d_M_receive_291 : decode b_M_receive 291 = .ok (.ifCond .ne 17, 3) := by decide +kernel
theorem d_M_receive_294 : decode b_M_receive 294 = .ok (.iload 12, 2) := by decide +kernel
theorem d_M_receive_296 : decode b_M_receive 296 = .ok (.ifCond .eq 12, 3) := by decide +kernel
theorem d_M_receive_299 : decode b_M_receive 299 = .ok (.aload_n 0, 1) := by decide +kernel
theorem d_M_receive_300 : decode b_M_receive 300 = .ok (.getfield 44, 3) := by decide +kernel
theorem d_M_receive_303 : decode b_M_receive 303 = .ok (.iload 9, 2) := by decide +kernel
theorem d_M_receive_305 : decode b_M_receive 305 = .ok (.lload 6, 2) := by decide +kernel
theorem d_M_receive_307 : decode b_M_receive 307 = .ok (.lastore, 1) := by decide +kernel
theorem d_M_receive_308 : decode b_M_receive 308 = .ok (.aload_n 0, 1) := by decide +kernel
theorem d_M_receive_309 : decode b_M_receive 309 = .ok (.iload_n 1, 1) := by decide +kernel
theorem d_M_receive_310 : decode b_M_receive 310 = .ok (.invokevirtual 128, 3) := by decide +kernel
theorem d_M_receive_313 : decode b_M_receive 313 = .ok (.ireturn, 1) := by decide +kernel
theorem d_M_apply_0 : decode b_M_apply 0 = .ok (.iconst 0, 1) := by decide +kernel
theorem d_M_apply_1 : decode b_M_apply 1 = .ok (.istore_n 2, 1) := by decide +kernel
theorem d_M_apply_2 : decode b_M_apply 2 = .ok (.iconst 1, 1) := by decide +kernel
theorem d_M_apply_3 : decode b_M_apply 3 = .ok (.istore_n 3, 1) := by decide +kernel
theorem d_M_apply_4 : decode b_M_apply 4 = .ok (.iconst 0, 1) := by decide +kernel
theorem d_M_apply_5 : decode b_M_apply 5 = .ok (.istore 4, 2) := by decide +kernel
theorem d_M_apply_7 : decode b_M_apply 7 = .ok (.iload 4, 2) := by decide +kernel
theorem d_M_apply_9 : decode b_M_apply 9 = .ok (.bipush 35, 2) := by decide +kernel
theorem d_M_apply_11 : decode b_M_apply 11 = .ok (.if_icmp .gt 137, 3) := by decide +kernel
theorem d_M_apply_14 : decode b_M_apply 14 = .ok (.iload_n 3, 1) := by decide +kernel
theorem d_M_apply_15 : decode b_M_apply 15 = .ok (.ifCond .eq 133, 3) := by decide +kernel
theorem d_M_apply_18 : decode b_M_apply 18 = .ok (.iconst 0, 1) := by decide +kernel
theorem d_M_apply_19 : decode b_M_apply 19 = .ok (.istore_n 3, 1) := by decide +kernel
theorem d_M_apply_20 : decode b_M_apply 20 = .ok (.iconst 0, 1) := by decide +kernel
theorem d_M_apply_21 : decode b_M_apply 21 = .ok (.istore 5, 2) := by decide +kernel
theorem d_M_apply_23 : decode b_M_apply 23 = .ok (.iload 5, 2) := by decide +kernel
theorem d_M_apply_25 : decode b_M_apply 25 = .ok (.aload_n 0, 1) := by decide +kernel
theorem d_M_apply_26 : decode b_M_apply 26 = .ok (.getfield 47, 3) := by decide +kernel
theorem d_M_apply_29 : decode b_M_apply 29 = .ok (.if_icmp .ge 113, 3) := by decide +kernel
theorem d_M_apply_32 : decode b_M_apply 32 = .ok (.iload_n 3, 1) := by decide +kernel
theorem d_M_apply_33 : decode b_M_apply 33 = .ok (.ifCond .ne 109, 3) := by decide +kernel
theorem d_M_apply_36 : decode b_M_apply 36 = .ok (.aload_n 0, 1) := by decide +kernel
theorem d_M_apply_37 : decode b_M_apply 37 = .ok (.iload_n 1, 1) := by decide +kernel
theorem d_M_apply_38 : decode b_M_apply 38 = .ok (.iload 5, 2) := by decide +kernel
theorem d_M_apply_40 : decode b_M_apply 40 = .ok (.invokevirtual 87, 3) := by decide +kernel
theorem d_M_apply_43 : decode b_M_apply 43 = .ok (.iconst 1, 1) := by decide +kernel
theorem d_M_apply_44 : decode b_M_apply 44 = .ok (.iadd, 1) := by decide +kernel
theorem d_M_apply_45 : decode b_M_apply 45 = .ok (.istore 6, 2) := by decide +kernel
theorem d_M_apply_47 : decode b_M_apply 47 = .ok (.iload 6, 2) := by decide +kernel
theorem d_M_apply_49 : decode b_M_apply 49 = .ok (.iconst 5, 1) := by decide +kernel
theorem d_M_apply_50 : decode b_M_apply 50 = .ok (.if_icmp .le 7, 3) := by decide +kernel
theorem d_M_apply_53 : decode b_M_apply 53 = .ok (.lconst 0, 1) := by decide +kernel
theorem d_M_apply_54 : decode b_M_apply 54 = .ok (.goto 16, 3) := by decide +kernel
theorem d_M_apply_57 : decode b_M_apply 57 = .ok (.aload_n 0, 1) := by decide +kernel
theorem d_M_apply_58 : decode b_M_apply 58 = .ok (.getfield 44, 3) := by decide +kernel
theorem d_M_apply_61 : decode b_M_apply 61 = .ok (.iload_n 1, 1) := by decide +kernel
theorem d_M_apply_62 : decode b_M_apply 62 = .ok (.iload 5, 2) := by decide +kernel
theorem d_M_apply_64 : decode b_M_apply 64 = .ok (.iload 6, 2) := by decide +kernel
theorem d_M_apply_66 : decode b_M_apply 66 = .ok (.invokestatic 83, 3) := by decide +kernel
theorem d_M_apply_69 : decode b_M_apply 69 = .ok (.laload, 1) := by decide +kernel
theorem d_M_apply_70 : decode b_M_apply 70 = .ok (.lstore 7, 2) := by decide +kernel
theorem d_M_apply_72 : decode b_M_apply 72 = .ok (.lload 7, 2) := by decide +kernel
theorem d_M_apply_74 : decode b_M_apply 74 = .ok (.lconst 0, 1) := by decide +kernel
theorem d_M_apply_75 : decode b_M_apply 75 = .ok (.lcmp, 1) := by decide +kernel
theorem d_M_apply_76 : decode b_M_apply 76 = .ok (.ifCond .eq 60, 3) := by decide +kernel
theorem d_M_apply_79 : decode b_M_apply 79 = .ok (.aload_n 0, 1) := by decide +kernel
theorem d_M_apply_80 : decode b_M_apply 80 = .ok (.iload_n 1, 1) := by decide +kernel
theorem d_M_apply_81 : decode b_M_apply 81 = .ok (.iload 5, 2) := by decide +kernel
theorem d_M_apply_83 : decode b_M_apply 83 = .ok (.lload 7, 2) := by decide +kernel
theorem d_M_apply_85 : decode b_M_apply 85 = .ok (.invokevirtual 132, 3) := by decide +kernel
theorem d_M_apply_88 : decode b_M_apply 88 = .ok (.ifCond .eq 48, 3) := by decide +kernel
theorem d_M_apply_91 : decode b_M_apply 91 = .ok (.aload_n 0, 1) := by decide +kernel
theorem d_M_apply_92 : decode b_M_apply 92 = .ok (.iload_n 1, 1) := by decide +kernel
theorem d_M_apply_93 : decode b_M_apply 93 = .ok (.invokevirtual 120, 3) := by decide +kernel
theorem d_M_apply_96 : decode b_M_apply 96 = .ok (.ifCond .eq 6, 3) := by decide +kernel
theorem d_M_apply_99 : decode b_M_apply 99 = .ok (.bipush (-7), 2) := by decide +kernel
theorem d_M_apply_101 : decode b_M_apply 101 = .ok (.ireturn, 1) := by decide +kernel
theorem d_M_apply_102 : decode b_M_apply 102 = .ok (.aload_n 0, 1) := by decide +kernel
theorem d_M_apply_103 : decode b_M_apply 103 = .ok (.getfield 29, 3) := by decide +kernel
theorem d_M_apply_106 : decode b_M_apply 106 = .ok (.iload_n 1, 1) := by decide +kernel
theorem d_M_apply_107 : decode b_M_apply 107 = .ok (.iload 5, 2) := by decide +kernel
theorem d_M_apply_109 : decode b_M_apply 109 = .ok (.iload 6, 2) := by decide +kernel
theorem d_M_apply_111 : decode b_M_apply 111 = .ok (.invokestatic 83, 3) := by decide +kernel
theorem d_M_apply_114 : decode b_M_apply 114 = .ok (.lload 7, 2) := by decide +kernel
theorem d_M_apply_116 : decode b_M_apply 116 = .ok (.lastore, 1) := by decide +kernel
theorem d_M_apply_117 : decode b_M_apply 117 = .ok (.aload_n 0, 1) := by decide +kernel
theorem d_M_apply_118 : decode b_M_apply 118 = .ok (.getfield 44, 3) := by decide +kernel
theorem d_M_apply_121 : decode b_M_apply 121 = .ok (.iload_n 1, 1) := by decide +kernel
theorem d_M_apply_122 : decode b_M_apply 122 = .ok (.iload 5, 2) := by decide +kernel
theorem d_M_apply_124 : decode b_M_apply 124 = .ok (.iload 6, 2) := by decide +kernel
theorem d_M_apply_126 : decode b_M_apply 126 = .ok (.invokestatic 83, 3) := by decide +kernel
theorem d_M_apply_129 : decode b_M_apply 129 = .ok (.lconst 0, 1) := by decide +kernel
theorem d_M_apply_130 : decode b_M_apply 130 = .ok (.lastore, 1) := by decide +kernel
theorem d_M_apply_131 : decode b_M_apply 131 = .ok (.iinc 2 1, 3) := by decide +kernel
theorem d_M_apply_134 : decode b_M_apply 134 = .ok (.iconst 1, 1) := by decide +kernel
theorem d_M_apply_135 : decode b_M_apply 135 = .ok (.istore_n 3, 1) := by decide +kernel
theorem d_M_apply_136 : decode b_M_apply 136 = .ok (.iinc 5 1, 3) := by decide +kernel
theorem d_M_apply_139 : decode b_M_apply 139 = .ok (.goto (-116), 3) := by decide +kernel
theorem d_M_apply_142 : decode b_M_apply 142 = .ok (.iinc 4 1, 3) := by decide +kernel
theorem d_M_apply_145 : decode b_M_apply 145 = .ok (.goto (-138), 3) := by decide +kernel
theorem d_M_apply_148 : decode b_M_apply 148 = .ok (.iload_n 2, 1) := by decide +kernel
theorem d_M_apply_149 : decode b_M_apply 149 = .ok (.ireturn, 1) := by decide +kernel
theorem d_M_release_0 : decode b_M_release 0 = .ok (.iconst 0, 1) := by decide +kernel
theorem d_M_release_1 : decode b_M_release 1 = .ok (.istore_n 2, 1) := by decide +kernel
theorem d_M_release_2 : decode b_M_release 2 = .ok (.iconst 0, 1) := by decide +kernel
theorem d_M_release_3 : decode b_M_release 3 = .ok (.istore_n 3, 1) := by decide +kernel
theorem d_M_release_4 : decode b_M_release 4 = .ok (.iload_n 3, 1) := by decide +kernel
theorem d_M_release_5 : decode b_M_release 5 = .ok (.aload_n 0, 1) := by decide +kernel
theorem d_M_release_6 : decode b_M_release 6 = .ok (.getfield 47, 3) := by decide +kernel
theorem d_M_release_9 : decode b_M_release 9 = .ok (.if_icmp .ge 41, 3) := by decide +kernel
theorem d_M_release_12 : decode b_M_release 12 = .ok (.aload_n 0, 1) := by decide +kernel
theorem d_M_release_13 : decode b_M_release 13 = .ok (.getfield 35, 3) := by decide +kernel
theorem d_M_release_16 : decode b_M_release 16 = .ok (.iload_n 1, 1) := by decide +kernel
theorem d_M_release_17 : decode b_M_release 17 = .ok (.iaload, 1) := by decide +kernel
theorem d_M_release_18 : decode b_M_release 18 = .ok (.ifCond .le 26, 3) := by decide +kernel
theorem d_M_release_21 : decode b_M_release 21 = .ok (.aload_n 0, 1) := by decide +kernel
theorem d_M_release_22 : decode b_M_release 22 = .ok (.getfield 41, 3) := by decide +kernel
theorem d_M_release_25 : decode b_M_release 25 = .ok (.bipush 7, 2) := by decide +kernel
theorem d_M_release_27 : decode b_M_release 27 = .ok (.iload_n 1, 1) := by decide +kernel
theorem d_M_release_28 : decode b_M_release 28 = .ok (.imul, 1) := by decide +kernel
theorem d_M_release_29 : decode b_M_release 29 = .ok (.iload_n 3, 1) := by decide +kernel
theorem d_M_release_30 : decode b_M_release 30 = .ok (.iadd, 1) := by decide +kernel
theorem d_M_release_31 : decode b_M_release 31 = .ok (.iaload, 1) := by decide +kernel
theorem d_M_release_32 : decode b_M_release 32 = .ok (.aload_n 0, 1) := by decide +kernel
theorem d_M_release_33 : decode b_M_release 33 = .ok (.getfield 35, 3) := by decide +kernel
theorem d_M_release_36 : decode b_M_release 36 = .ok (.iload_n 1, 1) := by decide +kernel
theorem d_M_release_37 : decode b_M_release 37 = .ok (.iaload, 1) := by decide +kernel
theorem d_M_release_38 : decode b_M_release 38 = .ok (.if_icmp .ne 6, 3) := by decide +kernel
theorem d_M_release_41 : decode b_M_release 41 = .ok (.iinc 2 1, 3) := by decide +kernel
theorem d_M_release_44 : decode b_M_release 44 = .ok (.iinc 3 1, 3) := by decide +kernel
theorem d_M_release_47 : decode b_M_release 47 = .ok (.goto (-43), 3) := by decide +kernel
theorem d_M_release_50 : decode b_M_release 50 = .ok (.iload_n 2, 1) := by decide +kernel
theorem d_M_release_51 : decode b_M_release 51 = .ok (.iconst 2, 1) := by decide +kernel
theorem d_M_release_52 : decode b_M_release 52 = .ok (.aload_n 0, 1) := by decide +kernel
theorem d_M_release_53 : decode b_M_release 53 = .ok (.getfield 51, 3) := by decide +kernel
theorem d_M_release_56 : decode b_M_release 56 = .ok (.imul, 1) := by decide +kernel
theorem d_M_release_57 : decode b_M_release 57 = .ok (.iconst 1, 1) := by decide +kernel
theorem d_M_release_58 : decode b_M_release 58 = .ok (.iadd, 1) := by decide +kernel
theorem d_M_release_59 : decode b_M_release 59 = .ok (.if_icmp .ge 4, 3) := by decide +kernel
theorem d_M_release_62 : decode b_M_release 62 = .ok (.return_, 1) := by decide +kernel
theorem d_M_release_63 : decode b_M_release 63 = .ok (.iconst 0, 1) := by decide +kernel
theorem d_M_release_64 : decode b_M_release 64 = .ok (.istore_n 3, 1) := by decide +kernel
theorem d_M_release_65 : decode b_M_release 65 = .ok (.iload_n 3, 1) := by decide +kernel
theorem d_M_release_66 : decode b_M_release 66 = .ok (.aload_n 0, 1) := by decide +kernel
theorem d_M_release_67 : decode b_M_release 67 = .ok (.getfield 47, 3) := by decide +kernel
theorem d_M_release_70 : decode b_M_release 70 = .ok (.if_icmp .ge 105, 3) := by decide +kernel
theorem d_M_release_73 : decode b_M_release 73 = .ok (.aload_n 0, 1) := by decide +kernel
theorem d_M_release_74 : decode b_M_release 74 = .ok (.getfield 35, 3) := by decide +kernel
theorem d_M_release_77 : decode b_M_release 77 = .ok (.iload_n 1, 1) := by decide +kernel
theorem d_M_release_78 : decode b_M_release 78 = .ok (.iaload, 1) := by decide +kernel
theorem d_M_release_79 : decode b_M_release 79 = .ok (.iconst 1, 1) := by decide +kernel
theorem d_M_release_80 : decode b_M_release 80 = .ok (.isub, 1) := by decide +kernel
theorem d_M_release_81 : decode b_M_release 81 = .ok (.iconst 3, 1) := by decide +kernel
theorem d_M_release_82 : decode b_M_release 82 = .ok (.iload_n 3, 1) := by decide +kernel
theorem d_M_release_83 : decode b_M_release 83 = .ok (.imul, 1) := by decide +kernel
theorem d_M_release_84 : decode b_M_release 84 = .ok (.ishr, 1) := by decide +kernel
theorem d_M_release_85 : decode b_M_release 85 = .ok (.bipush 7, 2) := by decide +kernel
theorem d_M_release_87 : decode b_M_release 87 = .ok (.iand, 1) := by decide +kernel
theorem d_M_release_88 : decode b_M_release 88 = .ok (.istore 4, 2) := by decide +kernel
theorem d_M_release_90 : decode b_M_release 90 = .ok (.aload_n 0, 1) := by decide +kernel
theorem d_M_release_91 : decode b_M_release 91 = .ok (.getfield 32, 3) := by decide +kernel
theorem d_M_release_94 : decode b_M_release 94 = .ok (.bipush 7, 2) := by decide +kernel
theorem d_M_release_96 : decode b_M_release 96 = .ok (.iload_n 1, 1) := by decide +kernel
theorem d_M_release_97 : decode b_M_release 97 = .ok (.imul, 1) := by decide +kernel
theorem d_M_release_98 : decode b_M_release 98 = .ok (.iload_n 3, 1) := by decide +kernel
theorem d_M_release_99 : decode b_M_release 99 = .ok (.iadd, 1) := by decide +kernel
theorem d_M_release_100 : decode b_M_release 100 = .ok (.iaload, 1) := by decide +kernel
theorem d_M_release_101 : decode b_M_release 101 = .ok (.iconst 1, 1) := by decide +kernel
theorem d_M_release_102 : decode b_M_release 102 = .ok (.iadd, 1) := by decide +kernel
theorem d_M_release_103 : decode b_M_release 103 = .ok (.istore 5, 2) := by decide +kernel
theorem d_M_release_105 : decode b_M_release 105 = .ok (.iload 5, 2) := by decide +kernel
theorem d_M_release_107 : decode b_M_release 107 = .ok (.iload 4, 2) := by decide +kernel
theorem d_M_release_109 : decode b_M_release 109 = .ok (.if_icmp .gt 17, 3) := by decide +kernel
theorem d_M_release_112 : decode b_M_release 112 = .ok (.aload_n 0, 1) := by decide +kernel
theorem d_M_release_113 : decode b_M_release 113 = .ok (.iload_n 1, 1) := by decide +kernel
theorem d_M_release_114 : decode b_M_release 114 = .ok (.iload_n 3, 1) := by decide +kernel
theorem d_M_release_115 : decode b_M_release 115 = .ok (.iload 5, 2) := by decide +kernel
theorem d_M_release_117 : decode b_M_release 117 = .ok (.invokevirtual 136, 3) := by decide +kernel
theorem d_M_release_120 : decode b_M_release 120 = .ok (.iinc 5 1, 3) := by decide +kernel
theorem d_M_release_123 : decode b_M_release 123 = .ok (.goto (-18), 3) := by decide +kernel
theorem d_M_release_126 : decode b_M_release 126 = .ok (.aload_n 0, 1) := by decide +kernel
theorem d_M_release_127 : decode b_M_release 127 = .ok (.getfield 32, 3) := by decide +kernel
theorem d_M_release_130 : decode b_M_release 130 = .ok (.bipush 7, 2) := by decide +kernel
theorem d_M_release_132 : decode b_M_release 132 = .ok (.iload_n 1, 1) := by decide +kernel
theorem d_M_release_133 : decode b_M_release 133 = .ok (.imul, 1) := by decide +kernel
theorem d_M_release_134 : decode b_M_release 134 = .ok (.iload_n 3, 1) := by decide +kernel
theorem d_M_release_135 : decode b_M_release 135 = .ok (.iadd, 1) := by decide +kernel
theorem d_M_release_136 : decode b_M_release 136 = .ok (.iload 4, 2) := by decide +kernel
theorem d_M_release_138 : decode b_M_release 138 = .ok (.aload_n 0, 1) := by decide +kernel
theorem d_M_release_139 : decode b_M_release 139 = .ok (.getfield 32, 3) := by decide +kernel
theorem d_M_release_142 : decode b_M_release 142 = .ok (.bipush 7, 2) := by decide +kernel
theorem d_M_release_144 : decode b_M_release 144 = .ok (.iload_n 1, 1) := by decide +kernel
theorem d_M_release_145 : decode b_M_release 145 = .ok (.imul, 1) := by decide +kernel
theorem d_M_release_146 : decode b_M_release 146 = .ok (.iload_n 3, 1) := by decide +kernel
theorem d_M_release_147 : decode b_M_release 147 = .ok (.iadd, 1) := by decide +kernel
theorem d_M_release_148 : decode b_M_release 148 = .ok (.iaload, 1) := by decide +kernel
theorem d_M_release_149 : decode b_M_release 149 = .ok (.if_icmp .le 8, 3) := by decide +kernel
theorem d_M_release_152 : decode b_M_release 152 = .ok (.iload 4, 2) := by decide +kernel
theorem d_M_release_154 : decode b_M_release 154 = .ok (.goto 14, 3) := by decide +kernel
theorem d_M_release_157 : decode b_M_release 157 = .ok (.aload_n 0, 1) := by decide +kernel
theorem d_M_release_158 : decode b_M_release 158 = .ok (.getfield 32, 3) := by decide +kernel
theorem d_M_release_161 : decode b_M_release 161 = .ok (.bipush 7, 2) := by decide +kernel
theorem d_M_release_163 : decode b_M_release 163 = .ok (.iload_n 1, 1) := by decide +kernel
theorem d_M_release_164 : decode b_M_release 164 = .ok (.imul, 1) := by decide +kernel
theorem d_M_release_165 : decode b_M_release 165 = .ok (.iload_n 3, 1) := by decide +kernel
theorem d_M_release_166 : decode b_M_release 166 = .ok (.iadd, 1) := by decide +kernel
theorem d_M_release_167 : decode b_M_release 167 = .ok (.iaload, 1) := by decide +kernel
theorem d_M_release_168 : decode b_M_release 168 = .ok (.iastore, 1) := by decide +kernel
theorem d_M_release_169 : decode b_M_release 169 = .ok (.iinc 3 1, 3) := by decide +kernel
theorem d_M_release_172 : decode b_M_release 172 = .ok (.goto (-107), 3) := by decide +kernel
theorem d_M_release_175 : decode b_M_release 175 = .ok (.return_, 1) := by decide +kernel
theorem d_M_forget_0 : decode b_M_forget 0 = .ok (.aload_n 0, 1) := by decide +kernel
theorem d_M_forget_1 : decode b_M_forget 1 = .ok (.getfield 23, 3) := by decide +kernel
theorem d_M_forget_4 : decode b_M_forget 4 = .ok (.iload_n 1, 1) := by decide +kernel
theorem d_M_forget_5 : decode b_M_forget 5 = .ok (.iload_n 2, 1) := by decide +kernel
theorem d_M_forget_6 : decode b_M_forget 6 = .ok (.iload_n 3, 1) := by decide +kernel
theorem d_M_forget_7 : decode b_M_forget 7 = .ok (.invokestatic 83, 3) := by decide +kernel
theorem d_M_forget_10 : decode b_M_forget 10 = .ok (.lconst 0, 1) := by decide +kernel
theorem d_M_forget_11 : decode b_M_forget 11 = .ok (.lastore, 1) := by decide +kernel
theorem d_M_forget_12 : decode b_M_forget 12 = .ok (.aload_n 0, 1) := by decide +kernel
theorem d_M_forget_13 : decode b_M_forget 13 = .ok (.getfield 26, 3) := by decide +kernel
theorem d_M_forget_16 : decode b_M_forget 16 = .ok (.iload_n 1, 1) := by decide +kernel
theorem d_M_forget_17 : decode b_M_forget 17 = .ok (.iload_n 2, 1) := by decide +kernel
theorem d_M_forget_18 : decode b_M_forget 18 = .ok (.iload_n 3, 1) := by decide +kernel
theorem d_M_forget_19 : decode b_M_forget 19 = .ok (.invokestatic 83, 3) := by decide +kernel
theorem d_M_forget_22 : decode b_M_forget 22 = .ok (.lconst 0, 1) := by decide +kernel
theorem d_M_forget_23 : decode b_M_forget 23 = .ok (.lastore, 1) := by decide +kernel
theorem d_M_forget_24 : decode b_M_forget 24 = .ok (.iconst 1, 1) := by decide +kernel
theorem d_M_forget_25 : decode b_M_forget 25 = .ok (.istore 4, 2) := by decide +kernel
theorem d_M_forget_27 : decode b_M_forget 27 = .ok (.iload 4, 2) := by decide +kernel
theorem d_M_forget_29 : decode b_M_forget 29 = .ok (.iconst 3, 1) := by decide +kernel
theorem d_M_forget_30 : decode b_M_forget 30 = .ok (.if_icmp .gt 43, 3) := by decide +kernel
theorem d_M_forget_33 : decode b_M_forget 33 = .ok (.iconst 0, 1) := by decide +kernel
theorem d_M_forget_34 : decode b_M_forget 34 = .ok (.istore 5, 2) := by decide +kernel
theorem d_M_forget_36 : decode b_M_forget 36 = .ok (.iload 5, 2) := by decide +kernel
theorem d_M_forget_38 : decode b_M_forget 38 = .ok (.aload_n 0, 1) := by decide +kernel
theorem d_M_forget_39 : decode b_M_forget 39 = .ok (.getfield 47, 3) := by decide +kernel
theorem d_M_forget_42 : decode b_M_forget 42 = .ok (.if_icmp .ge 25, 3) := by decide +kernel
theorem d_M_forget_45 : decode b_M_forget 45 = .ok (.aload_n 0, 1) := by decide +kernel
theorem d_M_forget_46 : decode b_M_forget 46 = .ok (.getfield 38, 3) := by decide +kernel
theorem d_M_forget_49 : decode b_M_forget 49 = .ok (.iload_n 1, 1) := by decide +kernel
theorem d_M_forget_50 : decode b_M_forget 50 = .ok (.iload 4, 2) := by decide +kernel
theorem d_M_forget_52 : decode b_M_forget 52 = .ok (.iload_n 2, 1) := by decide +kernel
theorem d_M_forget_53 : decode b_M_forget 53 = .ok (.iload_n 3, 1) := by decide +kernel
theorem d_M_forget_54 : decode b_M_forget 54 = .ok (.iload 5, 2) := by decide +kernel
theorem d_M_forget_56 : decode b_M_forget 56 = .ok (.invokestatic 109, 3) := by decide +kernel
theorem d_M_forget_59 : decode b_M_forget 59 = .ok (.lconst 0, 1) := by decide +kernel
theorem d_M_forget_60 : decode b_M_forget 60 = .ok (.lastore, 1) := by decide +kernel
theorem d_M_forget_61 : decode b_M_forget 61 = .ok (.iinc 5 1, 3) := by decide +kernel
theorem d_M_forget_64 : decode b_M_forget 64 = .ok (.goto (-28), 3) := by decide +kernel
theorem d_M_forget_67 : decode b_M_forget 67 = .ok (.iinc 4 1, 3) := by decide +kernel
theorem d_M_forget_70 : decode b_M_forget 70 = .ok (.goto (-43), 3) := by decide +kernel
theorem d_M_forget_73 : decode b_M_forget 73 = .ok (.return_, 1) := by decide +kernel
theorem d_M_kindOf_0 : decode b_M_kindOf 0 = .ok (.iload_n 0, 1) := by decide +kernel
theorem d_M_kindOf_1 : decode b_M_kindOf 1 = .ok (.bipush 35, 2) := by decide +kernel
theorem d_M_kindOf_3 : decode b_M_kindOf 3 = .ok (.idiv, 1) := by decide +kernel
theorem d_M_kindOf_4 : decode b_M_kindOf 4 = .ok (.ireturn, 1) := by decide +kernel
theorem d_M_accountOf_0 : decode b_M_accountOf 0 = .ok (.iload_n 0, 1) := by decide +kernel
theorem d_M_accountOf_1 : decode b_M_accountOf 1 = .ok (.sipush 140, 3) := by decide +kernel
theorem d_M_accountOf_4 : decode b_M_accountOf 4 = .ok (.if_icmp .ne 7, 3) := by decide +kernel
theorem d_M_accountOf_7 : decode b_M_accountOf 7 = .ok (.iconst 0, 1) := by decide +kernel
theorem d_M_accountOf_8 : decode b_M_accountOf 8 = .ok (.goto 9, 3) := by decide +kernel
theorem d_M_accountOf_11 : decode b_M_accountOf 11 = .ok (.iload_n 0, 1) := by decide +kernel
theorem d_M_accountOf_12 : decode b_M_accountOf 12 = .ok (.bipush 35, 2) := by decide +kernel
theorem d_M_accountOf_14 : decode b_M_accountOf 14 = .ok (.irem, 1) := by decide +kernel
theorem d_M_accountOf_15 : decode b_M_accountOf 15 = .ok (.iconst 5, 1) := by decide +kernel
theorem d_M_accountOf_16 : decode b_M_accountOf 16 = .ok (.idiv, 1) := by decide +kernel
theorem d_M_accountOf_17 : decode b_M_accountOf 17 = .ok (.ireturn, 1) := by decide +kernel
theorem d_M_seqOf_0 : decode b_M_seqOf 0 = .ok (.iload_n 0, 1) := by decide +kernel
theorem d_M_seqOf_1 : decode b_M_seqOf 1 = .ok (.sipush 140, 3) := by decide +kernel
theorem d_M_seqOf_4 : decode b_M_seqOf 4 = .ok (.if_icmp .ne 7, 3) := by decide +kernel
theorem d_M_seqOf_7 : decode b_M_seqOf 7 = .ok (.iconst 0, 1) := by decide +kernel
theorem d_M_seqOf_8 : decode b_M_seqOf 8 = .ok (.goto 8, 3) := by decide +kernel
theorem d_M_seqOf_11 : decode b_M_seqOf 11 = .ok (.iload_n 0, 1) := by decide +kernel
theorem d_M_seqOf_12 : decode b_M_seqOf 12 = .ok (.iconst 5, 1) := by decide +kernel
theorem d_M_seqOf_13 : decode b_M_seqOf 13 = .ok (.irem, 1) := by decide +kernel
theorem d_M_seqOf_14 : decode b_M_seqOf 14 = .ok (.iconst 1, 1) := by decide +kernel
theorem d_M_seqOf_15 : decode b_M_seqOf 15 = .ok (.iadd, 1) := by decide +kernel
theorem d_M_seqOf_16 : decode b_M_seqOf 16 = .ok (.ireturn, 1) := by decide +kernel
theorem d_M_to_0 : decode b_M_to 0 = .ok (.iconst 0, 1) := by decide +kernel
theorem d_M_to_1 : decode b_M_to 1 = .ok (.istore 4, 2) := by decide +kernel
theorem d_M_to_3 : decode b_M_to 3 = .ok (.aload_n 0, 1) := by decide +kernel
theorem d_M_to_4 : decode b_M_to 4 = .ok (.iload_n 2, 1) := by decide +kernel
theorem d_M_to_5 : decode b_M_to 5 = .ok (.invokevirtual 140, 3) := by decide +kernel
theorem d_M_to_8 : decode b_M_to 8 = .ok (.ifCond .eq 23, 3) := by decide +kernel
theorem d_M_to_11 : decode b_M_to 11 = .ok (.aload_n 0, 1) := by decide +kernel
theorem d_M_to_12 : decode b_M_to 12 = .ok (.iload_n 2, 1) := by decide +kernel
theorem d_M_to_13 : decode b_M_to 13 = .ok (.iload_n 1, 1) := by decide +kernel
theorem d_M_to_14 : decode b_M_to 14 = .ok (.invokestatic 143, 3) := by decide +kernel
theorem d_M_to_17 : decode b_M_to 17 = .ok (.iload_n 1, 1) := by decide +kernel
theorem d_M_to_18 : decode b_M_to 18 = .ok (.invokestatic 146, 3) := by decide +kernel
theorem d_M_to_21 : decode b_M_to 21 = .ok (.iload_n 1, 1) := by decide +kernel
theorem d_M_to_22 : decode b_M_to 22 = .ok (.invokestatic 149, 3) := by decide +kernel
theorem d_M_to_25 : decode b_M_to 25 = .ok (.invokevirtual 152, 3) := by decide +kernel
theorem d_M_to_28 : decode b_M_to 28 = .ok (.goto 6, 3) := by decide +kernel
theorem d_M_to_31 : decode b_M_to 31 = .ok (.ldc2_w 99, 3) := by decide +kernel
theorem d_M_to_34 : decode b_M_to 34 = .ok (.lstore 5, 2) := by decide +kernel
theorem d_M_to_36 : decode b_M_to 36 = .ok (.lload 5, 2) := by decide +kernel
theorem d_M_to_38 : decode b_M_to 38 = .ok (.lconst 0, 1) := by decide +kernel
theorem d_M_to_39 : decode b_M_to 39 = .ok (.lcmp, 1) := by decide +kernel
theorem d_M_to_40 : decode b_M_to 40 = .ok (.ifCond .ge 13, 3) := by decide +kernel
theorem d_M_to_43 : decode b_M_to 43 = .ok (.iload_n 3, 1) := by decide +kernel
theorem d_M_to_44 : decode b_M_to 44 = .ok (.ifCond .eq 7, 3) := by decide +kernel
theorem d_M_to_47 : decode b_M_to 47 = .ok (.iconst (-1), 1) := by decide +kernel
theorem d_M_to_48 : decode b_M_to 48 = .ok (.goto 4, 3) := by decide +kernel
theorem d_M_to_51 : decode b_M_to 51 = .ok (.iconst 0, 1) := by decide +kernel
theorem d_M_to_52 : decode b_M_to 52 = .ok (.ireturn, 1) := by decide +kernel
theorem d_M_to_53 : decode b_M_to 53 = .ok (.iconst 0, 1) := by decide +kernel
theorem d_M_to_54 : decode b_M_to 54 = .ok (.istore 7, 2) := by decide +kernel
theorem d_M_to_56 : decode b_M_to 56 = .ok (.iload 7, 2) := by decide +kernel
theorem d_M_to_58 : decode b_M_to 58 = .ok (.aload_n 0, 1) := by decide +kernel
theorem d_M_to_59 : decode b_M_to 59 = .ok (.getfield 47, 3) := by decide +kernel
theorem d_M_to_62 : decode b_M_to 62 = .ok (.if_icmp .ge 52, 3) := by decide +kernel
theorem d_M_to_65 : decode b_M_to 65 = .ok (.aload_n 0, 1) := by decide +kernel
theorem d_M_to_66 : decode b_M_to 66 = .ok (.iload 7, 2) := by decide +kernel
theorem d_M_to_68 : decode b_M_to 68 = .ok (.invokevirtual 156, 3) := by decide +kernel
theorem d_M_to_71 : decode b_M_to 71 = .ok (.ifCond .eq 37, 3) := by decide +kernel
theorem d_M_to_74 : decode b_M_to 74 = .ok (.aload_n 0, 1) := by decide +kernel
theorem d_M_to_75 : decode b_M_to 75 = .ok (.iload 7, 2) := by decide +kernel
theorem d_M_to_77 : decode b_M_to 77 = .ok (.iload_n 2, 1) := by decide +kernel
theorem d_M_to_78 : decode b_M_to 78 = .ok (.iload_n 1, 1) := by decide +kernel
theorem d_M_to_79 : decode b_M_to 79 = .ok (.invokestatic 143, 3) := by decide +kernel
theorem d_M_to_82 : decode b_M_to 82 = .ok (.iload_n 1, 1) := by decide +kernel
theorem d_M_to_83 : decode b_M_to 83 = .ok (.invokestatic 146, 3) := by decide +kernel
theorem d_M_to_86 : decode b_M_to 86 = .ok (.iload_n 1, 1) := by decide +kernel
theorem d_M_to_87 : decode b_M_to 87 = .ok (.invokestatic 149, 3) := by decide +kernel
theorem d_M_to_90 : decode b_M_to 90 = .ok (.lload 5, 2) := by decide +kernel
theorem d_M_to_92 : decode b_M_to 92 = .ok (.invokevirtual 113, 3) := by decide +kernel
theorem d_M_to_95 : decode b_M_to 95 = .ok (.ifCond .ne 13, 3) := by decide +kernel
theorem d_M_to_98 : decode b_M_to 98 = .ok (.iload_n 3, 1) := by decide +kernel
theorem d_M_to_99 : decode b_M_to 99 = .ok (.ifCond .eq 6, 3) := by decide +kernel
theorem d_M_to_102 : decode b_M_to 102 = .ok (.iload 7, 2) := by decide +kernel
theorem d_M_to_104 : decode b_M_to 104 = .ok (.ireturn, 1) := by decide +kernel
theorem d_M_to_105 : decode b_M_to 105 = .ok (.iinc 4 1, 3) := by decide +kernel
theorem d_M_to_108 : decode b_M_to 108 = .ok (.iinc 7 1, 3) := by decide +kernel
theorem d_M_to_111 : decode b_M_to 111 = .ok (.goto (-55), 3) := by decide +kernel
theorem d_M_to_114 : decode b_M_to 114 = .ok (.iload_n 3, 1) := by decide +kernel
theorem d_M_to_115 : decode b_M_to 115 = .ok (.ifCond .eq 7, 3) := by decide +kernel
theorem d_M_to_118 : decode b_M_to 118 = .ok (.iconst (-1), 1) := by decide +kernel
theorem d_M_to_119 : decode b_M_to 119 = .ok (.goto 5, 3) := by decide +kernel
theorem d_M_to_122 : decode b_M_to 122 = .ok (.iload 4, 2) := by decide +kernel
theorem d_M_to_124 : decode b_M_to 124 = .ok (.ireturn, 1) := by decide +kernel
theorem d_M_pending_0 : decode b_M_pending 0 = .ok (.iconst 0, 1) := by decide +kernel
theorem d_M_pending_1 : decode b_M_pending 1 = .ok (.istore_n 1, 1) := by decide +kernel
theorem d_M_pending_2 : decode b_M_pending 2 = .ok (.iconst 0, 1) := by decide +kernel
theorem d_M_pending_3 : decode b_M_pending 3 = .ok (.istore_n 2, 1) := by decide +kernel
theorem d_M_pending_4 : decode b_M_pending 4 = .ok (.iload_n 2, 1) := by decide +kernel
theorem d_M_pending_5 : decode b_M_pending 5 = .ok (.sipush 140, 3) := by decide +kernel
theorem d_M_pending_8 : decode b_M_pending 8 = .ok (.if_icmp .gt 35, 3) := by decide +kernel
theorem d_M_pending_11 : decode b_M_pending 11 = .ok (.iconst 0, 1) := by decide +kernel
theorem d_M_pending_12 : decode b_M_pending 12 = .ok (.istore_n 3, 1) := by decide +kernel
theorem d_M_pending_13 : decode b_M_pending 13 = .ok (.iload_n 3, 1) := by decide +kernel
theorem d_M_pending_14 : decode b_M_pending 14 = .ok (.aload_n 0, 1) := by decide +kernel
theorem d_M_pending_15 : decode b_M_pending 15 = .ok (.getfield 47, 3) := by decide +kernel
theorem d_M_pending_18 : decode b_M_pending 18 = .ok (.if_icmp .ge 19, 3) := by decide +kernel
theorem d_M_pending_21 : decode b_M_pending 21 = .ok (.iload_n 1, 1) := by decide +kernel
theorem d_M_pending_22 : decode b_M_pending 22 = .ok (.aload_n 0, 1) := by decide +kernel
theorem d_M_pending_23 : decode b_M_pending 23 = .ok (.iload_n 2, 1) := by decide +kernel
theorem d_M_pending_24 : decode b_M_pending 24 = .ok (.iload_n 3, 1) := by decide +kernel
theorem d_M_pending_25 : decode b_M_pending 25 = .ok (.iconst 0, 1) := by decide +kernel
theorem d_M_pending_26 : decode b_M_pending 26 = .ok (.invokevirtual 159, 3) := by decide +kernel
theorem d_M_pending_29 : decode b_M_pending 29 = .ok (.iadd, 1) := by decide +kernel
theorem d_M_pending_30 : decode b_M_pending 30 = .ok (.istore_n 1, 1) := by decide +kernel
theorem d_M_pending_31 : decode b_M_pending 31 = .ok (.iinc 3 1, 3) := by decide +kernel
theorem d_M_pending_34 : decode b_M_pending 34 = .ok (.goto (-21), 3) := by decide +kernel
theorem d_M_pending_37 : decode b_M_pending 37 = .ok (.iinc 2 1, 3) := by decide +kernel
theorem d_M_pending_40 : decode b_M_pending 40 = .ok (.goto (-36), 3) := by decide +kernel
theorem d_M_pending_43 : decode b_M_pending 43 = .ok (.iload_n 1, 1) := by decide +kernel
theorem d_M_pending_44 : decode b_M_pending 44 = .ok (.ireturn, 1) := by decide +kernel
theorem d_M_deliver_0 : decode b_M_deliver 0 = .ok (.iconst 0, 1) := by decide +kernel
theorem d_M_deliver_1 : decode b_M_deliver 1 = .ok (.istore_n 1, 1) := by decide +kernel
theorem d_M_deliver_2 : decode b_M_deliver 2 = .ok (.iload_n 1, 1) := by decide +kernel
theorem d_M_deliver_3 : decode b_M_deliver 3 = .ok (.sipush 140, 3) := by decide +kernel
theorem d_M_deliver_6 : decode b_M_deliver 6 = .ok (.if_icmp .gt 79, 3) := by decide +kernel
theorem d_M_deliver_9 : decode b_M_deliver 9 = .ok (.iconst 0, 1) := by decide +kernel
theorem d_M_deliver_10 : decode b_M_deliver 10 = .ok (.istore_n 2, 1) := by decide +kernel
theorem d_M_deliver_11 : decode b_M_deliver 11 = .ok (.iload_n 2, 1) := by decide +kernel
theorem d_M_deliver_12 : decode b_M_deliver 12 = .ok (.aload_n 0, 1) := by decide +kernel
theorem d_M_deliver_13 : decode b_M_deliver 13 = .ok (.getfield 47, 3) := by decide +kernel
theorem d_M_deliver_16 : decode b_M_deliver 16 = .ok (.if_icmp .ge 63, 3) := by decide +kernel
theorem d_M_deliver_19 : decode b_M_deliver 19 = .ok (.aload_n 0, 1) := by decide +kernel
theorem d_M_deliver_20 : decode b_M_deliver 20 = .ok (.iload_n 1, 1) := by decide +kernel
theorem d_M_deliver_21 : decode b_M_deliver 21 = .ok (.iload_n 2, 1) := by decide +kernel
theorem d_M_deliver_22 : decode b_M_deliver 22 = .ok (.iconst 1, 1) := by decide +kernel
theorem d_M_deliver_23 : decode b_M_deliver 23 = .ok (.invokevirtual 159, 3) := by decide +kernel
theorem d_M_deliver_26 : decode b_M_deliver 26 = .ok (.istore_n 3, 1) := by decide +kernel
theorem d_M_deliver_27 : decode b_M_deliver 27 = .ok (.iload_n 3, 1) := by decide +kernel
theorem d_M_deliver_28 : decode b_M_deliver 28 = .ok (.ifCond .lt 45, 3) := by decide +kernel
theorem d_M_deliver_31 : decode b_M_deliver 31 = .ok (.aload_n 0, 1) := by decide +kernel
theorem d_M_deliver_32 : decode b_M_deliver 32 = .ok (.iload_n 2, 1) := by decide +kernel
theorem d_M_deliver_33 : decode b_M_deliver 33 = .ok (.iload_n 1, 1) := by decide +kernel
theorem d_M_deliver_34 : decode b_M_deliver 34 = .ok (.invokestatic 143, 3) := by decide +kernel
theorem d_M_deliver_37 : decode b_M_deliver 37 = .ok (.iload_n 1, 1) := by decide +kernel
theorem d_M_deliver_38 : decode b_M_deliver 38 = .ok (.invokestatic 146, 3) := by decide +kernel
theorem d_M_deliver_41 : decode b_M_deliver 41 = .ok (.iload_n 1, 1) := by decide +kernel
theorem d_M_deliver_42 : decode b_M_deliver 42 = .ok (.invokestatic 149, 3) := by decide +kernel
theorem d_M_deliver_45 : decode b_M_deliver 45 = .ok (.invokevirtual 152, 3) := by decide +kernel
theorem d_M_deliver_48 : decode b_M_deliver 48 = .ok (.lstore 4, 2) := by decide +kernel
theorem d_M_deliver_50 : decode b_M_deliver 50 = .ok (.aload_n 0, 1) := by decide +kernel
theorem d_M_deliver_51 : decode b_M_deliver 51 = .ok (.iload_n 3, 1) := by decide +kernel
theorem d_M_deliver_52 : decode b_M_deliver 52 = .ok (.iload_n 2, 1) := by decide +kernel
theorem d_M_deliver_53 : decode b_M_deliver 53 = .ok (.iload_n 1, 1) := by decide +kernel
theorem d_M_deliver_54 : decode b_M_deliver 54 = .ok (.invokestatic 143, 3) := by decide +kernel
theorem d_M_deliver_57 : decode b_M_deliver 57 = .ok (.iload_n 1, 1) := by decide +kernel
theorem d_M_deliver_58 : decode b_M_deliver 58 = .ok (.invokestatic 146, 3) := by decide +kernel
theorem d_M_deliver_61 : decode b_M_deliver 61 = .ok (.iload_n 1, 1) := by decide +kernel
theorem d_M_deliver_62 : decode b_M_deliver 62 = .ok (.invokestatic 149, 3) := by decide +kernel
theorem d_M_deliver_65 : decode b_M_deliver 65 = .ok (.lload 4, 2) := by decide +kernel
theorem d_M_deliver_67 : decode b_M_deliver 67 = .ok (.invokevirtual 163, 3) := by decide +kernel
theorem d_M_deliver_70 : decode b_M_deliver 70 = .ok (.pop, 1) := by decide +kernel
theorem d_M_deliver_71 : decode b_M_deliver 71 = .ok (.iconst 1, 1) := by decide +kernel
theorem d_M_deliver_72 : decode b_M_deliver 72 = .ok (.ireturn, 1) := by decide +kernel
theorem d_M_deliver_73 : decode b_M_deliver 73 = .ok (.iinc 2 1, 3) := by decide +kernel
theorem d_M_deliver_76 : decode b_M_deliver 76 = .ok (.goto (-65), 3) := by decide +kernel
theorem d_M_deliver_79 : decode b_M_deliver 79 = .ok (.iinc 1 1, 3) := by decide +kernel
theorem d_M_deliver_82 : decode b_M_deliver 82 = .ok (.goto (-80), 3) := by decide +kernel
theorem d_M_deliver_85 : decode b_M_deliver 85 = .ok (.iconst 0, 1) := by decide +kernel
theorem d_M_deliver_86 : decode b_M_deliver 86 = .ok (.ireturn, 1) := by decide +kernel
theorem d_M_pump_0 : decode b_M_pump 0 = .ok (.iload_n 1, 1) := by decide +kernel
theorem d_M_pump_1 : decode b_M_pump 1 = .ok (.iconst 1, 1) := by decide +kernel
theorem d_M_pump_2 : decode b_M_pump 2 = .ok (.if_icmp .lt 9, 3) := by decide +kernel
theorem d_M_pump_5 : decode b_M_pump 5 = .ok (.iload_n 1, 1) := by decide +kernel
theorem d_M_pump_6 : decode b_M_pump 6 = .ok (.bipush 8, 2) := by decide +kernel
theorem d_M_pump_8 : decode b_M_pump 8 = .ok (.if_icmp .le 5, 3) := by decide +kernel
theorem d_M_pump_11 : decode b_M_pump 11 = .ok (.iconst (-1), 1) := by decide +kernel
theorem d_M_pump_12 : decode b_M_pump 12 = .ok (.ireturn, 1) := by decide +kernel
theorem d_M_pump_13 : decode b_M_pump 13 = .ok (.iconst 0, 1) := by decide +kernel
theorem d_M_pump_14 : decode b_M_pump 14 = .ok (.istore_n 2, 1) := by decide +kernel
theorem d_M_pump_15 : decode b_M_pump 15 = .ok (.iload_n 2, 1) := by decide +kernel
theorem d_M_pump_16 : decode b_M_pump 16 = .ok (.iload_n 1, 1) := by decide +kernel
theorem d_M_pump_17 : decode b_M_pump 17 = .ok (.if_icmp .ge 16, 3) := by decide +kernel
theorem d_M_pump_20 : decode b_M_pump 20 = .ok (.aload_n 0, 1) := by decide +kernel
theorem d_M_pump_21 : decode b_M_pump 21 = .ok (.invokevirtual 166, 3) := by decide +kernel
theorem d_M_pump_24 : decode b_M_pump 24 = .ok (.ifCond .eq 9, 3) := by decide +kernel
theorem d_M_pump_27 : decode b_M_pump 27 = .ok (.iinc 2 1, 3) := by decide +kernel
theorem d_M_pump_30 : decode b_M_pump 30 = .ok (.goto (-15), 3) := by decide +kernel
theorem d_M_pump_33 : decode b_M_pump 33 = .ok (.iload_n 2, 1) := by decide +kernel
theorem d_M_pump_34 : decode b_M_pump 34 = .ok (.ireturn, 1) := by decide +kernel
theorem d_M_carry_0 : decode b_M_carry 0 = .ok (.aload_n 0, 1) := by decide +kernel
theorem d_M_carry_1 : decode b_M_carry 1 = .ok (.iload_n 1, 1) := by decide +kernel
theorem d_M_carry_2 : decode b_M_carry 2 = .ok (.invokevirtual 140, 3) := by decide +kernel
theorem d_M_carry_5 : decode b_M_carry 5 = .ok (.ifCond .eq 11, 3) := by decide +kernel
theorem d_M_carry_8 : decode b_M_carry 8 = .ok (.aload_n 0, 1) := by decide +kernel
theorem d_M_carry_9 : decode b_M_carry 9 = .ok (.iload_n 2, 1) := by decide +kernel
theorem d_M_carry_10 : decode b_M_carry 10 = .ok (.invokevirtual 156, 3) := by decide +kernel
theorem d_M_carry_13 : decode b_M_carry 13 = .ok (.ifCond .ne 5, 3) := by decide +kernel
theorem d_M_carry_16 : decode b_M_carry 16 = .ok (.iconst (-1), 1) := by decide +kernel
theorem d_M_carry_17 : decode b_M_carry 17 = .ok (.ireturn, 1) := by decide +kernel
theorem d_M_carry_18 : decode b_M_carry 18 = .ok (.aload_n 0, 1) := by decide +kernel
theorem d_M_carry_19 : decode b_M_carry 19 = .ok (.iload_n 1, 1) := by decide +kernel
theorem d_M_carry_20 : decode b_M_carry 20 = .ok (.iload_n 3, 1) := by decide +kernel
theorem d_M_carry_21 : decode b_M_carry 21 = .ok (.iload 4, 2) := by decide +kernel
theorem d_M_carry_23 : decode b_M_carry 23 = .ok (.iload 5, 2) := by decide +kernel
theorem d_M_carry_25 : decode b_M_carry 25 = .ok (.invokevirtual 152, 3) := by decide +kernel
theorem d_M_carry_28 : decode b_M_carry 28 = .ok (.lstore 6, 2) := by decide +kernel
theorem d_M_carry_30 : decode b_M_carry 30 = .ok (.lload 6, 2) := by decide +kernel
theorem d_M_carry_32 : decode b_M_carry 32 = .ok (.lconst 0, 1) := by decide +kernel
theorem d_M_carry_33 : decode b_M_carry 33 = .ok (.lcmp, 1) := by decide +kernel
theorem d_M_carry_34 : decode b_M_carry 34 = .ok (.ifCond .ge 8, 3) := by decide +kernel
theorem d_M_carry_37 : decode b_M_carry 37 = .ok (.bipush (-2), 2) := by decide +kernel
theorem d_M_carry_39 : decode b_M_carry 39 = .ok (.goto 16, 3) := by decide +kernel
theorem d_M_carry_42 : decode b_M_carry 42 = .ok (.aload_n 0, 1) := by decide +kernel
theorem d_M_carry_43 : decode b_M_carry 43 = .ok (.iload_n 2, 1) := by decide +kernel
theorem d_M_carry_44 : decode b_M_carry 44 = .ok (.iload_n 1, 1) := by decide +kernel
theorem d_M_carry_45 : decode b_M_carry 45 = .ok (.iload_n 3, 1) := by decide +kernel
theorem d_M_carry_46 : decode b_M_carry 46 = .ok (.iload 4, 2) := by decide +kernel
theorem d_M_carry_48 : decode b_M_carry 48 = .ok (.iload 5, 2) := by decide +kernel
theorem d_M_carry_50 : decode b_M_carry 50 = .ok (.lload 6, 2) := by decide +kernel
theorem d_M_carry_52 : decode b_M_carry 52 = .ok (.invokevirtual 163, 3) := by decide +kernel
theorem d_M_carry_55 : decode b_M_carry 55 = .ok (.ireturn, 1) := by decide +kernel
theorem d_M_forge_0 : decode b_M_forge 0 = .ok (.iload_n 1, 1) := by decide +kernel
theorem d_M_forge_1 : decode b_M_forge 1 = .ok (.ifCond .lt 29, 3) := by decide +kernel
theorem d_M_forge_4 : decode b_M_forge 4 = .ok (.iload_n 1, 1) := by decide +kernel
theorem d_M_forge_5 : decode b_M_forge 5 = .ok (.aload_n 0, 1) := by decide +kernel
theorem d_M_forge_6 : decode b_M_forge 6 = .ok (.getfield 47, 3) := by decide +kernel
theorem d_M_forge_9 : decode b_M_forge 9 = .ok (.if_icmp .ge 21, 3) := by decide +kernel
theorem d_M_forge_12 : decode b_M_forge 12 = .ok (.aload_n 0, 1) := by decide +kernel
theorem d_M_forge_13 : decode b_M_forge 13 = .ok (.getfield 7, 3) := by decide +kernel
theorem d_M_forge_16 : decode b_M_forge 16 = .ok (.iload_n 1, 1) := by decide +kernel
theorem d_M_forge_17 : decode b_M_forge 17 = .ok (.iaload, 1) := by decide +kernel
theorem d_M_forge_18 : decode b_M_forge 18 = .ok (.iconst 2, 1) := by decide +kernel
theorem d_M_forge_19 : decode b_M_forge 19 = .ok (.if_icmp .ne 11, 3) := by decide +kernel
theorem d_M_forge_22 : decode b_M_forge 22 = .ok (.aload_n 0, 1) := by decide +kernel
theorem d_M_forge_23 : decode b_M_forge 23 = .ok (.iload_n 2, 1) := by decide +kernel
theorem d_M_forge_24 : decode b_M_forge 24 = .ok (.invokevirtual 156, 3) := by decide +kernel
theorem d_M_forge_27 : decode b_M_forge 27 = .ok (.ifCond .ne 5, 3) := by decide +kernel
theorem d_M_forge_30 : decode b_M_forge 30 = .ok (.iconst (-1), 1) := by decide +kernel
theorem d_M_forge_31 : decode b_M_forge 31 = .ok (.ireturn, 1) := by decide +kernel
theorem d_M_forge_32 : decode b_M_forge 32 = .ok (.aload_n 0, 1) := by decide +kernel
theorem d_M_forge_33 : decode b_M_forge 33 = .ok (.iload_n 2, 1) := by decide +kernel
theorem d_M_forge_34 : decode b_M_forge 34 = .ok (.iload_n 1, 1) := by decide +kernel
theorem d_M_forge_35 : decode b_M_forge 35 = .ok (.iload_n 3, 1) := by decide +kernel
theorem d_M_forge_36 : decode b_M_forge 36 = .ok (.bipush 7, 2) := by decide +kernel
theorem d_M_forge_38 : decode b_M_forge 38 = .ok (.iand, 1) := by decide +kernel
theorem d_M_forge_39 : decode b_M_forge 39 = .ok (.iload_n 3, 1) := by decide +kernel
theorem d_M_forge_40 : decode b_M_forge 40 = .ok (.iconst 3, 1) := by decide +kernel
theorem d_M_forge_41 : decode b_M_forge 41 = .ok (.ishr, 1) := by decide +kernel
theorem d_M_forge_42 : decode b_M_forge 42 = .ok (.bipush 7, 2) := by decide +kernel
theorem d_M_forge_44 : decode b_M_forge 44 = .ok (.iand, 1) := by decide +kernel
theorem d_M_forge_45 : decode b_M_forge 45 = .ok (.iload_n 3, 1) := by decide +kernel
theorem d_M_forge_46 : decode b_M_forge 46 = .ok (.bipush 6, 2) := by decide +kernel
theorem d_M_forge_48 : decode b_M_forge 48 = .ok (.ishr, 1) := by decide +kernel
theorem d_M_forge_49 : decode b_M_forge 49 = .ok (.lload 4, 2) := by decide +kernel
theorem d_M_forge_51 : decode b_M_forge 51 = .ok (.invokevirtual 163, 3) := by decide +kernel
theorem d_M_forge_54 : decode b_M_forge 54 = .ok (.ireturn, 1) := by decide +kernel
theorem d_M_submit_0 : decode b_M_submit 0 = .ok (.aload_n 0, 1) := by decide +kernel
theorem d_M_submit_1 : decode b_M_submit 1 = .ok (.iload_n 1, 1) := by decide +kernel
theorem d_M_submit_2 : decode b_M_submit 2 = .ok (.invokevirtual 156, 3) := by decide +kernel
theorem d_M_submit_5 : decode b_M_submit 5 = .ok (.ifCond .eq 32, 3) := by decide +kernel
theorem d_M_submit_8 : decode b_M_submit 8 = .ok (.iload_n 2, 1) := by decide +kernel
theorem d_M_submit_9 : decode b_M_submit 9 = .ok (.ifCond .lt 28, 3) := by decide +kernel
theorem d_M_submit_12 : decode b_M_submit 12 = .ok (.iload_n 2, 1) := by decide +kernel
theorem d_M_submit_13 : decode b_M_submit 13 = .ok (.aload_n 0, 1) := by decide +kernel
theorem d_M_submit_14 : decode b_M_submit 14 = .ok (.getfield 47, 3) := by decide +kernel
theorem d_M_submit_17 : decode b_M_submit 17 = .ok (.if_icmp .ge 20, 3) := by decide +kernel
theorem d_M_submit_20 : decode b_M_submit 20 = .ok (.iload_n 2, 1) := by decide +kernel
theorem d_M_submit_21 : decode b_M_submit 21 = .ok (.iload_n 1, 1) := by decide +kernel
theorem d_M_submit_22 : decode b_M_submit 22 = .ok (.if_icmp .eq 15, 3) := by decide +kernel
theorem d_M_submit_25 : decode b_M_submit 25 = .ok (.iload_n 3, 1) := by decide +kernel
theorem d_M_submit_26 : decode b_M_submit 26 = .ok (.iconst 1, 1) := by decide +kernel
theorem d_M_submit_27 : decode b_M_submit 27 = .ok (.if_icmp .lt 10, 3) := by decide +kernel
theorem d_M_submit_30 : decode b_M_submit 30 = .ok (.iload_n 3, 1) := by decide +kernel
theorem d_M_submit_31 : decode b_M_submit 31 = .ok (.sipush 1023, 3) := by decide +kernel
theorem d_M_submit_34 : decode b_M_submit 34 = .ok (.if_icmp .le 5, 3) := by decide +kernel
theorem d_M_submit_37 : decode b_M_submit 37 = .ok (.iconst (-1), 1) := by decide +kernel
theorem d_M_submit_38 : decode b_M_submit 38 = .ok (.ireturn, 1) := by decide +kernel
theorem d_M_submit_39 : decode b_M_submit 39 = .ok (.aload_n 0, 1) := by decide +kernel
theorem d_M_submit_40 : decode b_M_submit 40 = .ok (.getfield 16, 3) := by decide +kernel
theorem d_M_submit_43 : decode b_M_submit 43 = .ok (.iload_n 1, 1) := by decide +kernel
theorem d_M_submit_44 : decode b_M_submit 44 = .ok (.iaload, 1) := by decide +kernel
theorem d_M_submit_45 : decode b_M_submit 45 = .ok (.iconst 5, 1) := by decide +kernel
theorem d_M_submit_46 : decode b_M_submit 46 = .ok (.if_icmp .ne 6, 3) := by decide +kernel
theorem d_M_submit_49 : decode b_M_submit 49 = .ok (.bipush (-8), 2) := by decide +kernel
theorem d_M_submit_51 : decode b_M_submit 51 = .ok (.ireturn, 1) := by decide +kernel
theorem d_M_submit_52 : decode b_M_submit 52 = .ok (.aload_n 0, 1) := by decide +kernel
theorem d_M_submit_53 : decode b_M_submit 53 = .ok (.iload_n 1, 1) := by decide +kernel
theorem d_M_submit_54 : decode b_M_submit 54 = .ok (.iload_n 1, 1) := by decide +kernel
theorem d_M_submit_55 : decode b_M_submit 55 = .ok (.invokevirtual 91, 3) := by decide +kernel
theorem d_M_submit_58 : decode b_M_submit 58 = .ok (.lstore 4, 2) := by decide +kernel
theorem d_M_submit_60 : decode b_M_submit 60 = .ok (.aload_n 0, 1) := by decide +kernel
theorem d_M_submit_61 : decode b_M_submit 61 = .ok (.iload_n 1, 1) := by decide +kernel
theorem d_M_submit_62 : decode b_M_submit 62 = .ok (.iload_n 1, 1) := by decide +kernel
theorem d_M_submit_63 : decode b_M_submit 63 = .ok (.invokevirtual 87, 3) := by decide +kernel
theorem d_M_submit_66 : decode b_M_submit 66 = .ok (.iconst 1, 1) := by decide +kernel
theorem d_M_submit_67 : decode b_M_submit 67 = .ok (.iadd, 1) := by decide +kernel
theorem d_M_submit_68 : decode b_M_submit 68 = .ok (.istore 6, 2) := by decide +kernel
theorem d_M_submit_70 : decode b_M_submit 70 = .ok (.iload 6, 2) := by decide +kernel
theorem d_M_submit_72 : decode b_M_submit 72 = .ok (.aload_n 0, 1) := by decide +kernel
theorem d_M_submit_73 : decode b_M_submit 73 = .ok (.getfield 16, 3) := by decide +kernel
theorem d_M_submit_76 : decode b_M_submit 76 = .ok (.iload_n 1, 1) := by decide +kernel
theorem d_M_submit_77 : decode b_M_submit 77 = .ok (.iaload, 1) := by decide +kernel
theorem d_M_submit_78 : decode b_M_submit 78 = .ok (.if_icmp .gt 31, 3) := by decide +kernel
theorem d_M_submit_81 : decode b_M_submit 81 = .ok (.lload 4, 2) := by decide +kernel
theorem d_M_submit_83 : decode b_M_submit 83 = .ok (.aload_n 0, 1) := by decide +kernel
theorem d_M_submit_84 : decode b_M_submit 84 = .ok (.getfield 19, 3) := by decide +kernel
theorem d_M_submit_87 : decode b_M_submit 87 = .ok (.iconst 5, 1) := by decide +kernel
theorem d_M_submit_88 : decode b_M_submit 88 = .ok (.iload_n 1, 1) := by decide +kernel
theorem d_M_submit_89 : decode b_M_submit 89 = .ok (.imul, 1) := by decide +kernel
theorem d_M_submit_90 : decode b_M_submit 90 = .ok (.iload 6, 2) := by decide +kernel
theorem d_M_submit_92 : decode b_M_submit 92 = .ok (.iadd, 1) := by decide +kernel
theorem d_M_submit_93 : decode b_M_submit 93 = .ok (.iconst 1, 1) := by decide +kernel
theorem d_M_submit_94 : decode b_M_submit 94 = .ok (.isub, 1) := by decide +kernel
theorem d_M_submit_95 : decode b_M_submit 95 = .ok (.laload, 1) := by decide +kernel
theorem d_M_submit_96 : decode b_M_submit 96 = .ok (.invokestatic 74, 3) := by decide +kernel
theorem d_M_submit_99 : decode b_M_submit 99 = .ok (.i2l, 1) := by decide +kernel
theorem d_M_submit_100 : decode b_M_submit 100 = .ok (.lsub, 1) := by decide +kernel
theorem d_M_submit_101 : decode b_M_submit 101 = .ok (.lstore 4, 2) := by decide +kernel
theorem d_M_submit_103 : decode b_M_submit 103 = .ok (.iinc 6 1, 3) := by decide +kernel
theorem d_M_submit_106 : decode b_M_submit 106 = .ok (.goto (-36), 3) := by decide +kernel
theorem d_M_submit_109 : decode b_M_submit 109 = .ok (.lload 4, 2) := by decide +kernel
theorem d_M_submit_111 : decode b_M_submit 111 = .ok (.iload_n 3, 1) := by decide +kernel
theorem d_M_submit_112 : decode b_M_submit 112 = .ok (.i2l, 1) := by decide +kernel
theorem d_M_submit_113 : decode b_M_submit 113 = .ok (.lcmp, 1) := by decide +kernel
theorem d_M_submit_114 : decode b_M_submit 114 = .ok (.ifCond .ge 6, 3) := by decide +kernel
theorem d_M_submit_117 : decode b_M_submit 117 = .ok (.bipush (-9), 2) := by decide +kernel
theorem d_M_submit_119 : decode b_M_submit 119 = .ok (.ireturn, 1) := by decide +kernel
theorem d_M_submit_120 : decode b_M_submit 120 = .ok (.iload_n 2, 1) := by decide +kernel
theorem d_M_submit_121 : decode b_M_submit 121 = .ok (.i2l, 1) := by decide +kernel
theorem d_M_submit_122 : decode b_M_submit 122 = .ok (.ldc2_w 170, 3) := by decide +kernel
theorem d_M_submit_125 : decode b_M_submit 125 = .ok (.iload_n 3, 1) := by decide +kernel
theorem d_M_submit_126 : decode b_M_submit 126 = .ok (.i2l, 1) := by decide +kernel
theorem d_M_submit_127 : decode b_M_submit 127 = .ok (.lmul, 1) := by decide +kernel
theorem d_M_submit_128 : decode b_M_submit 128 = .ok (.ladd, 1) := by decide +kernel
theorem d_M_submit_129 : decode b_M_submit 129 = .ok (.lstore 6, 2) := by decide +kernel
theorem d_M_submit_131 : decode b_M_submit 131 = .ok (.iconst 0, 1) := by decide +kernel
theorem d_M_submit_132 : decode b_M_submit 132 = .ok (.istore 8, 2) := by decide +kernel
theorem d_M_submit_134 : decode b_M_submit 134 = .ok (.iload 8, 2) := by decide +kernel
theorem d_M_submit_136 : decode b_M_submit 136 = .ok (.aload_n 0, 1) := by decide +kernel
theorem d_M_submit_137 : decode b_M_submit 137 = .ok (.getfield 47, 3) := by decide +kernel
theorem d_M_submit_140 : decode b_M_submit 140 = .ok (.if_icmp .ge 84, 3) := by decide +kernel
theorem d_M_submit_143 : decode b_M_submit 143 = .ok (.lconst 0, 1) := by decide +kernel
theorem d_M_submit_144 : decode b_M_submit 144 = .ok (.lstore 9, 2) := by decide +kernel
theorem d_M_submit_146 : decode b_M_submit 146 = .ok (.iconst 1, 1) := by decide +kernel
theorem d_M_submit_147 : decode b_M_submit 147 = .ok (.istore 11, 2) := by decide +kernel
theorem d_M_submit_149 : decode b_M_submit 149 = .ok (.iload 11, 2) := by decide +kernel
theorem d_M_submit_151 : decode b_M_submit 151 = .ok (.iconst 5, 1) := by decide +kernel
theorem d_M_submit_152 : decode b_M_submit 152 = .ok (.if_icmp .gt 51, 3) := by decide +kernel
theorem d_M_submit_155 : decode b_M_submit 155 = .ok (.iload 8, 2) := by decide +kernel
theorem d_M_submit_157 : decode b_M_submit 157 = .ok (.iload_n 1, 1) := by decide +kernel
theorem d_M_submit_158 : decode b_M_submit 158 = .ok (.if_icmp .eq 45, 3) := by decide +kernel
theorem d_M_submit_161 : decode b_M_submit 161 = .ok (.aload_n 0, 1) := by decide +kernel
theorem d_M_submit_162 : decode b_M_submit 162 = .ok (.getfield 29, 3) := by decide +kernel
theorem d_M_submit_165 : decode b_M_submit 165 = .ok (.iload_n 1, 1) := by decide +kernel
theorem d_M_submit_166 : decode b_M_submit 166 = .ok (.iload 8, 2) := by decide +kernel
theorem d_M_submit_168 : decode b_M_submit 168 = .ok (.iload 11, 2) := by decide +kernel
theorem d_M_submit_170 : decode b_M_submit 170 = .ok (.invokestatic 83, 3) := by decide +kernel
theorem d_M_submit_173 : decode b_M_submit 173 = .ok (.laload, 1) := by decide +kernel
theorem d_M_submit_174 : decode b_M_submit 174 = .ok (.lstore 12, 2) := by decide +kernel
theorem d_M_submit_176 : decode b_M_submit 176 = .ok (.lload 12, 2) := by decide +kernel
theorem d_M_submit_178 : decode b_M_submit 178 = .ok (.lconst 0, 1) := by decide +kernel
theorem d_M_submit_179 : decode b_M_submit 179 = .ok (.lcmp, 1) := by decide +kernel
theorem d_M_submit_180 : decode b_M_submit 180 = .ok (.ifCond .eq 17, 3) := by decide +kernel
theorem d_M_submit_183 : decode b_M_submit 183 = .ok (.lload 12, 2) := by decide +kernel
theorem d_M_submit_185 : decode b_M_submit 185 = .ok (.invokestatic 70, 3) := by decide +kernel
theorem d_M_submit_188 : decode b_M_submit 188 = .ok (.iload_n 1, 1) := by decide +kernel
theorem d_M_submit_189 : decode b_M_submit 189 = .ok (.if_icmp .ne 8, 3) := by decide +kernel
theorem d_M_submit_192 : decode b_M_submit 192 = .ok (.iload 11, 2) := by decide +kernel
theorem d_M_submit_194 : decode b_M_submit 194 = .ok (.i2l, 1) := by decide +kernel
theorem d_M_submit_195 : decode b_M_submit 195 = .ok (.lstore 9, 2) := by decide +kernel
theorem d_M_submit_197 : decode b_M_submit 197 = .ok (.iinc 11 1, 3) := by decide +kernel
theorem d_M_submit_200 : decode b_M_submit 200 = .ok (.goto (-51), 3) := by decide +kernel
theorem d_M_submit_203 : decode b_M_submit 203 = .ok (.lload 6, 2) := by decide +kernel
theorem d_M_submit_205 : decode b_M_submit 205 = .ok (.lload 9, 2) := by decide +kernel
theorem d_M_submit_207 : decode b_M_submit 207 = .ok (.bipush 13, 2) := by decide +kernel
theorem d_M_submit_209 : decode b_M_submit 209 = .ok (.iconst 3, 1) := by decide +kernel
theorem d_M_submit_210 : decode b_M_submit 210 = .ok (.iload 8, 2) := by decide +kernel
theorem d_M_submit_212 : decode b_M_submit 212 = .ok (.imul, 1) := by decide +kernel
theorem d_M_submit_213 : decode b_M_submit 213 = .ok (.iadd, 1) := by decide +kernel
theorem d_M_submit_214 : decode b_M_submit 214 = .ok (.lshl, 1) := by decide +kernel
theorem d_M_submit_215 : decode b_M_submit 215 = .ok (.ladd, 1) := by decide +kernel
theorem d_M_submit_216 : decode b_M_submit 216 = .ok (.lstore 6, 2) := by decide +kernel
theorem d_M_submit_218 : decode b_M_submit 218 = .ok (.iinc 8 1, 3) := by decide +kernel
theorem d_M_submit_221 : decode b_M_submit 221 = .ok (.goto (-87), 3) := by decide +kernel
theorem d_M_submit_224 : decode b_M_submit 224 = .ok (.aload_n 0, 1) := by decide +kernel
theorem d_M_submit_225 : decode b_M_submit 225 = .ok (.iload_n 1, 1) := by decide +kernel
theorem d_M_submit_226 : decode b_M_submit 226 = .ok (.invokevirtual 120, 3) := by decide +kernel
theorem d_M_submit_229 : decode b_M_submit 229 = .ok (.ifCond .eq 6, 3) := by decide +kernel
theorem d_M_submit_232 : decode b_M_submit 232 = .ok (.bipush (-7), 2) := by decide +kernel
theorem d_M_submit_234 : decode b_M_submit 234 = .ok (.ireturn, 1) := by decide +kernel
theorem d_M_submit_235 : decode b_M_submit 235 = .ok (.aload_n 0, 1) := by decide +kernel
theorem d_M_submit_236 : decode b_M_submit 236 = .ok (.getfield 19, 3) := by decide +kernel
theorem d_M_submit_239 : decode b_M_submit 239 = .ok (.iconst 5, 1) := by decide +kernel
theorem d_M_submit_240 : decode b_M_submit 240 = .ok (.iload_n 1, 1) := by decide +kernel
theorem d_M_submit_241 : decode b_M_submit 241 = .ok (.imul, 1) := by decide +kernel
theorem d_M_submit_242 : decode b_M_submit 242 = .ok (.aload_n 0, 1) := by decide +kernel
theorem d_M_submit_243 : decode b_M_submit 243 = .ok (.getfield 16, 3) := by decide +kernel
theorem d_M_submit_246 : decode b_M_submit 246 = .ok (.iload_n 1, 1) := by decide +kernel
theorem d_M_submit_247 : decode b_M_submit 247 = .ok (.iaload, 1) := by decide +kernel
theorem d_M_submit_248 : decode b_M_submit 248 = .ok (.iadd, 1) := by decide +kernel
theorem d_M_submit_249 : decode b_M_submit 249 = .ok (.lload 6, 2) := by decide +kernel
theorem d_M_submit_251 : decode b_M_submit 251 = .ok (.lastore, 1) := by decide +kernel
theorem d_M_submit_252 : decode b_M_submit 252 = .ok (.aload_n 0, 1) := by decide +kernel
theorem d_M_submit_253 : decode b_M_submit 253 = .ok (.getfield 16, 3) := by decide +kernel
theorem d_M_submit_256 : decode b_M_submit 256 = .ok (.iload_n 1, 1) := by decide +kernel
theorem d_M_submit_257 : decode b_M_submit 257 = .ok (.dup2, 1) := by decide +kernel
theorem d_M_submit_258 : decode b_M_submit 258 = .ok (.iaload, 1) := by decide +kernel
theorem d_M_submit_259 : decode b_M_submit 259 = .ok (.iconst 1, 1) := by decide +kernel
theorem d_M_submit_260 : decode b_M_submit 260 = .ok (.iadd, 1) := by decide +kernel
theorem d_M_submit_261 : decode b_M_submit 261 = .ok (.iastore, 1) := by decide +kernel
theorem d_M_submit_262 : decode b_M_submit 262 = .ok (.aload_n 0, 1) := by decide +kernel
theorem d_M_submit_263 : decode b_M_submit 263 = .ok (.getfield 16, 3) := by decide +kernel
theorem d_M_submit_266 : decode b_M_submit 266 = .ok (.iload_n 1, 1) := by decide +kernel
theorem d_M_submit_267 : decode b_M_submit 267 = .ok (.iaload, 1) := by decide +kernel
theorem d_M_submit_268 : decode b_M_submit 268 = .ok (.ireturn, 1) := by decide +kernel
