/-! Decode rows of the law and of cell, laid by wip/gen/m_law.py -/
theorem d_L_law_0 : decode code 0 = .ok (.new 7, 3) := by decide +kernel
theorem d_L_law_3 : decode code 3 = .ok (.dup, 1) := by decide +kernel
theorem d_L_law_4 : decode code 4 = .ok (.aload_n 0, 1) := by decide +kernel
theorem d_L_law_5 : decode code 5 = .ok (.iconst 0, 1) := by decide +kernel
theorem d_L_law_6 : decode code 6 = .ok (.invokestatic 9, 3) := by decide +kernel
theorem d_L_law_9 : decode code 9 = .ok (.aload_n 0, 1) := by decide +kernel
theorem d_L_law_10 : decode code 10 = .ok (.iconst 1, 1) := by decide +kernel
theorem d_L_law_11 : decode code 11 = .ok (.invokestatic 9, 3) := by decide +kernel
theorem d_L_law_14 : decode code 14 = .ok (.invokespecial 15, 3) := by decide +kernel
theorem d_L_law_17 : decode code 17 = .ok (.astore_n 1, 1) := by decide +kernel
theorem d_L_law_18 : decode code 18 = .ok (.new 18, 3) := by decide +kernel
theorem d_L_law_21 : decode code 21 = .ok (.dup, 1) := by decide +kernel
theorem d_L_law_22 : decode code 22 = .ok (.aload_n 0, 1) := by decide +kernel
theorem d_L_law_23 : decode code 23 = .ok (.iconst 0, 1) := by decide +kernel
theorem d_L_law_24 : decode code 24 = .ok (.invokestatic 9, 3) := by decide +kernel
theorem d_L_law_27 : decode code 27 = .ok (.aload_n 0, 1) := by decide +kernel
theorem d_L_law_28 : decode code 28 = .ok (.iconst 1, 1) := by decide +kernel
theorem d_L_law_29 : decode code 29 = .ok (.invokestatic 9, 3) := by decide +kernel
theorem d_L_law_32 : decode code 32 = .ok (.invokespecial 20, 3) := by decide +kernel
theorem d_L_law_35 : decode code 35 = .ok (.astore_n 2, 1) := by decide +kernel
theorem d_L_law_36 : decode code 36 = .ok (.iconst 2, 1) := by decide +kernel
theorem d_L_law_37 : decode code 37 = .ok (.istore_n 3, 1) := by decide +kernel
theorem d_L_law_38 : decode code 38 = .ok (.iload_n 3, 1) := by decide +kernel
theorem d_L_law_39 : decode code 39 = .ok (.aload_n 0, 1) := by decide +kernel
theorem d_L_law_40 : decode code 40 = .ok (.arraylength, 1) := by decide +kernel
theorem d_L_law_41 : decode code 41 = .ok (.bipush 6, 2) := by decide +kernel
theorem d_L_law_43 : decode code 43 = .ok (.isub, 1) := by decide +kernel
theorem d_L_law_44 : decode code 44 = .ok (.if_icmp .gt 749, 3) := by decide +kernel
theorem d_L_law_47 : decode code 47 = .ok (.aload_n 0, 1) := by decide +kernel
theorem d_L_law_48 : decode code 48 = .ok (.iload_n 3, 1) := by decide +kernel
theorem d_L_law_49 : decode code 49 = .ok (.iaload, 1) := by decide +kernel
theorem d_L_law_50 : decode code 50 = .ok (.bipush 31, 2) := by decide +kernel
theorem d_L_law_52 : decode code 52 = .ok (.iand, 1) := by decide +kernel
theorem d_L_law_53 : decode code 53 = .ok (.tableswitch 734 0 17 #[87, 130, 153, 236, 299, 322, 335, 358, 381, 414, 437, 491, 544, 588, 621, 655, 688, 711], 87) := by decide +kernel
theorem d_L_law_140 : decode code 140 = .ok (.aload_n 1, 1) := by decide +kernel
theorem d_L_law_141 : decode code 141 = .ok (.aload_n 0, 1) := by decide +kernel
theorem d_L_law_142 : decode code 142 = .ok (.iload_n 3, 1) := by decide +kernel
theorem d_L_law_143 : decode code 143 = .ok (.iconst 1, 1) := by decide +kernel
theorem d_L_law_144 : decode code 144 = .ok (.iadd, 1) := by decide +kernel
theorem d_L_law_145 : decode code 145 = .ok (.iaload, 1) := by decide +kernel
theorem d_L_law_146 : decode code 146 = .ok (.aload_n 0, 1) := by decide +kernel
theorem d_L_law_147 : decode code 147 = .ok (.iload_n 3, 1) := by decide +kernel
theorem d_L_law_148 : decode code 148 = .ok (.iconst 2, 1) := by decide +kernel
theorem d_L_law_149 : decode code 149 = .ok (.iadd, 1) := by decide +kernel
theorem d_L_law_150 : decode code 150 = .ok (.iaload, 1) := by decide +kernel
theorem d_L_law_151 : decode code 151 = .ok (.aload_n 0, 1) := by decide +kernel
theorem d_L_law_152 : decode code 152 = .ok (.iload_n 3, 1) := by decide +kernel
theorem d_L_law_153 : decode code 153 = .ok (.iconst 3, 1) := by decide +kernel
theorem d_L_law_154 : decode code 154 = .ok (.iadd, 1) := by decide +kernel
theorem d_L_law_155 : decode code 155 = .ok (.iaload, 1) := by decide +kernel
theorem d_L_law_156 : decode code 156 = .ok (.invokevirtual 21, 3) := by decide +kernel
theorem d_L_law_159 : decode code 159 = .ok (.aload_n 2, 1) := by decide +kernel
theorem d_L_law_160 : decode code 160 = .ok (.aload_n 0, 1) := by decide +kernel
theorem d_L_law_161 : decode code 161 = .ok (.iload_n 3, 1) := by decide +kernel
theorem d_L_law_162 : decode code 162 = .ok (.iconst 1, 1) := by decide +kernel
theorem d_L_law_163 : decode code 163 = .ok (.iadd, 1) := by decide +kernel
theorem d_L_law_164 : decode code 164 = .ok (.iaload, 1) := by decide +kernel
theorem d_L_law_165 : decode code 165 = .ok (.aload_n 0, 1) := by decide +kernel
theorem d_L_law_166 : decode code 166 = .ok (.iload_n 3, 1) := by decide +kernel
theorem d_L_law_167 : decode code 167 = .ok (.iconst 2, 1) := by decide +kernel
theorem d_L_law_168 : decode code 168 = .ok (.iadd, 1) := by decide +kernel
theorem d_L_law_169 : decode code 169 = .ok (.iaload, 1) := by decide +kernel
theorem d_L_law_170 : decode code 170 = .ok (.aload_n 0, 1) := by decide +kernel
theorem d_L_law_171 : decode code 171 = .ok (.iload_n 3, 1) := by decide +kernel
theorem d_L_law_172 : decode code 172 = .ok (.iconst 3, 1) := by decide +kernel
theorem d_L_law_173 : decode code 173 = .ok (.iadd, 1) := by decide +kernel
theorem d_L_law_174 : decode code 174 = .ok (.iaload, 1) := by decide +kernel
theorem d_L_law_175 : decode code 175 = .ok (.invokevirtual 25, 3) := by decide +kernel
theorem d_L_law_178 : decode code 178 = .ok (.if_icmp .eq 609, 3) := by decide +kernel
theorem d_L_law_181 : decode code 181 = .ok (.iconst 0, 1) := by decide +kernel
theorem d_L_law_182 : decode code 182 = .ok (.ireturn, 1) := by decide +kernel
theorem d_L_law_183 : decode code 183 = .ok (.aload_n 1, 1) := by decide +kernel
theorem d_L_law_184 : decode code 184 = .ok (.aload_n 0, 1) := by decide +kernel
theorem d_L_law_185 : decode code 185 = .ok (.iload_n 3, 1) := by decide +kernel
theorem d_L_law_186 : decode code 186 = .ok (.iconst 1, 1) := by decide +kernel
theorem d_L_law_187 : decode code 187 = .ok (.iadd, 1) := by decide +kernel
theorem d_L_law_188 : decode code 188 = .ok (.iaload, 1) := by decide +kernel
theorem d_L_law_189 : decode code 189 = .ok (.invokevirtual 26, 3) := by decide +kernel
theorem d_L_law_192 : decode code 192 = .ok (.aload_n 2, 1) := by decide +kernel
theorem d_L_law_193 : decode code 193 = .ok (.aload_n 0, 1) := by decide +kernel
theorem d_L_law_194 : decode code 194 = .ok (.iload_n 3, 1) := by decide +kernel
theorem d_L_law_195 : decode code 195 = .ok (.iconst 1, 1) := by decide +kernel
theorem d_L_law_196 : decode code 196 = .ok (.iadd, 1) := by decide +kernel
theorem d_L_law_197 : decode code 197 = .ok (.iaload, 1) := by decide +kernel
theorem d_L_law_198 : decode code 198 = .ok (.invokevirtual 30, 3) := by decide +kernel
theorem d_L_law_201 : decode code 201 = .ok (.if_icmp .eq 586, 3) := by decide +kernel
theorem d_L_law_204 : decode code 204 = .ok (.iconst 0, 1) := by decide +kernel
theorem d_L_law_205 : decode code 205 = .ok (.ireturn, 1) := by decide +kernel
theorem d_L_law_206 : decode code 206 = .ok (.aload_n 1, 1) := by decide +kernel
theorem d_L_law_207 : decode code 207 = .ok (.aload_n 0, 1) := by decide +kernel
theorem d_L_law_208 : decode code 208 = .ok (.iload_n 3, 1) := by decide +kernel
theorem d_L_law_209 : decode code 209 = .ok (.iconst 1, 1) := by decide +kernel
theorem d_L_law_210 : decode code 210 = .ok (.iadd, 1) := by decide +kernel
theorem d_L_law_211 : decode code 211 = .ok (.iaload, 1) := by decide +kernel
theorem d_L_law_212 : decode code 212 = .ok (.aload_n 0, 1) := by decide +kernel
theorem d_L_law_213 : decode code 213 = .ok (.iload_n 3, 1) := by decide +kernel
theorem d_L_law_214 : decode code 214 = .ok (.iconst 2, 1) := by decide +kernel
theorem d_L_law_215 : decode code 215 = .ok (.iadd, 1) := by decide +kernel
theorem d_L_law_216 : decode code 216 = .ok (.iaload, 1) := by decide +kernel
theorem d_L_law_217 : decode code 217 = .ok (.aload_n 0, 1) := by decide +kernel
theorem d_L_law_218 : decode code 218 = .ok (.iload_n 3, 1) := by decide +kernel
theorem d_L_law_219 : decode code 219 = .ok (.iconst 3, 1) := by decide +kernel
theorem d_L_law_220 : decode code 220 = .ok (.iadd, 1) := by decide +kernel
theorem d_L_law_221 : decode code 221 = .ok (.iaload, 1) := by decide +kernel
theorem d_L_law_222 : decode code 222 = .ok (.aload_n 0, 1) := by decide +kernel
theorem d_L_law_223 : decode code 223 = .ok (.iload_n 3, 1) := by decide +kernel
theorem d_L_law_224 : decode code 224 = .ok (.iconst 4, 1) := by decide +kernel
theorem d_L_law_225 : decode code 225 = .ok (.iadd, 1) := by decide +kernel
theorem d_L_law_226 : decode code 226 = .ok (.iaload, 1) := by decide +kernel
theorem d_L_law_227 : decode code 227 = .ok (.i2l, 1) := by decide +kernel
theorem d_L_law_228 : decode code 228 = .ok (.bipush 32, 2) := by decide +kernel
theorem d_L_law_230 : decode code 230 = .ok (.lshl, 1) := by decide +kernel
theorem d_L_law_231 : decode code 231 = .ok (.aload_n 0, 1) := by decide +kernel
theorem d_L_law_232 : decode code 232 = .ok (.iload_n 3, 1) := by decide +kernel
theorem d_L_law_233 : decode code 233 = .ok (.iconst 5, 1) := by decide +kernel
theorem d_L_law_234 : decode code 234 = .ok (.iadd, 1) := by decide +kernel
theorem d_L_law_235 : decode code 235 = .ok (.iaload, 1) := by decide +kernel
theorem d_L_law_236 : decode code 236 = .ok (.i2l, 1) := by decide +kernel
theorem d_L_law_237 : decode code 237 = .ok (.ldc2_w 31, 3) := by decide +kernel
theorem d_L_law_240 : decode code 240 = .ok (.land, 1) := by decide +kernel
theorem d_L_law_241 : decode code 241 = .ok (.lor, 1) := by decide +kernel
theorem d_L_law_242 : decode code 242 = .ok (.invokevirtual 33, 3) := by decide +kernel
theorem d_L_law_245 : decode code 245 = .ok (.aload_n 2, 1) := by decide +kernel
theorem d_L_law_246 : decode code 246 = .ok (.aload_n 0, 1) := by decide +kernel
theorem d_L_law_247 : decode code 247 = .ok (.iload_n 3, 1) := by decide +kernel
theorem d_L_law_248 : decode code 248 = .ok (.iconst 1, 1) := by decide +kernel
theorem d_L_law_249 : decode code 249 = .ok (.iadd, 1) := by decide +kernel
theorem d_L_law_250 : decode code 250 = .ok (.iaload, 1) := by decide +kernel
theorem d_L_law_251 : decode code 251 = .ok (.aload_n 0, 1) := by decide +kernel
theorem d_L_law_252 : decode code 252 = .ok (.iload_n 3, 1) := by decide +kernel
theorem d_L_law_253 : decode code 253 = .ok (.iconst 2, 1) := by decide +kernel
theorem d_L_law_254 : decode code 254 = .ok (.iadd, 1) := by decide +kernel
theorem d_L_law_255 : decode code 255 = .ok (.iaload, 1) := by decide +kernel
theorem d_L_law_256 : decode code 256 = .ok (.aload_n 0, 1) := by decide +kernel
theorem d_L_law_257 : decode code 257 = .ok (.iload_n 3, 1) := by decide +kernel
theorem d_L_law_258 : decode code 258 = .ok (.iconst 3, 1) := by decide +kernel
theorem d_L_law_259 : decode code 259 = .ok (.iadd, 1) := by decide +kernel
theorem d_L_law_260 : decode code 260 = .ok (.iaload, 1) := by decide +kernel
theorem d_L_law_261 : decode code 261 = .ok (.aload_n 0, 1) := by decide +kernel
theorem d_L_law_262 : decode code 262 = .ok (.iload_n 3, 1) := by decide +kernel
theorem d_L_law_263 : decode code 263 = .ok (.iconst 4, 1) := by decide +kernel
theorem d_L_law_264 : decode code 264 = .ok (.iadd, 1) := by decide +kernel
theorem d_L_law_265 : decode code 265 = .ok (.iaload, 1) := by decide +kernel
theorem d_L_law_266 : decode code 266 = .ok (.i2l, 1) := by decide +kernel
theorem d_L_law_267 : decode code 267 = .ok (.bipush 32, 2) := by decide +kernel
theorem d_L_law_269 : decode code 269 = .ok (.lshl, 1) := by decide +kernel
theorem d_L_law_270 : decode code 270 = .ok (.aload_n 0, 1) := by decide +kernel
theorem d_L_law_271 : decode code 271 = .ok (.iload_n 3, 1) := by decide +kernel
theorem d_L_law_272 : decode code 272 = .ok (.iconst 5, 1) := by decide +kernel
theorem d_L_law_273 : decode code 273 = .ok (.iadd, 1) := by decide +kernel
theorem d_L_law_274 : decode code 274 = .ok (.iaload, 1) := by decide +kernel
theorem d_L_law_275 : decode code 275 = .ok (.i2l, 1) := by decide +kernel
theorem d_L_law_276 : decode code 276 = .ok (.ldc2_w 31, 3) := by decide +kernel
theorem d_L_law_279 : decode code 279 = .ok (.land, 1) := by decide +kernel
theorem d_L_law_280 : decode code 280 = .ok (.lor, 1) := by decide +kernel
theorem d_L_law_281 : decode code 281 = .ok (.invokevirtual 37, 3) := by decide +kernel
theorem d_L_law_284 : decode code 284 = .ok (.if_icmp .eq 503, 3) := by decide +kernel
theorem d_L_law_287 : decode code 287 = .ok (.iconst 0, 1) := by decide +kernel
theorem d_L_law_288 : decode code 288 = .ok (.ireturn, 1) := by decide +kernel
theorem d_L_law_289 : decode code 289 = .ok (.aload_n 1, 1) := by decide +kernel
theorem d_L_law_290 : decode code 290 = .ok (.aload_n 0, 1) := by decide +kernel
theorem d_L_law_291 : decode code 291 = .ok (.iload_n 3, 1) := by decide +kernel
theorem d_L_law_292 : decode code 292 = .ok (.iconst 1, 1) := by decide +kernel
theorem d_L_law_293 : decode code 293 = .ok (.iadd, 1) := by decide +kernel
theorem d_L_law_294 : decode code 294 = .ok (.iaload, 1) := by decide +kernel
theorem d_L_law_295 : decode code 295 = .ok (.aload_n 0, 1) := by decide +kernel
theorem d_L_law_296 : decode code 296 = .ok (.iload_n 3, 1) := by decide +kernel
theorem d_L_law_297 : decode code 297 = .ok (.iconst 2, 1) := by decide +kernel
theorem d_L_law_298 : decode code 298 = .ok (.iadd, 1) := by decide +kernel
theorem d_L_law_299 : decode code 299 = .ok (.iaload, 1) := by decide +kernel
theorem d_L_law_300 : decode code 300 = .ok (.aload_n 0, 1) := by decide +kernel
theorem d_L_law_301 : decode code 301 = .ok (.iload_n 3, 1) := by decide +kernel
theorem d_L_law_302 : decode code 302 = .ok (.iconst 3, 1) := by decide +kernel
theorem d_L_law_303 : decode code 303 = .ok (.iadd, 1) := by decide +kernel
theorem d_L_law_304 : decode code 304 = .ok (.iaload, 1) := by decide +kernel
theorem d_L_law_305 : decode code 305 = .ok (.aload_n 0, 1) := by decide +kernel
theorem d_L_law_306 : decode code 306 = .ok (.iload_n 3, 1) := by decide +kernel
theorem d_L_law_307 : decode code 307 = .ok (.iconst 4, 1) := by decide +kernel
theorem d_L_law_308 : decode code 308 = .ok (.iadd, 1) := by decide +kernel
theorem d_L_law_309 : decode code 309 = .ok (.iaload, 1) := by decide +kernel
theorem d_L_law_310 : decode code 310 = .ok (.aload_n 0, 1) := by decide +kernel
theorem d_L_law_311 : decode code 311 = .ok (.iload_n 3, 1) := by decide +kernel
theorem d_L_law_312 : decode code 312 = .ok (.iconst 5, 1) := by decide +kernel
theorem d_L_law_313 : decode code 313 = .ok (.iadd, 1) := by decide +kernel
theorem d_L_law_314 : decode code 314 = .ok (.iaload, 1) := by decide +kernel
theorem d_L_law_315 : decode code 315 = .ok (.invokevirtual 38, 3) := by decide +kernel
theorem d_L_law_318 : decode code 318 = .ok (.aload_n 2, 1) := by decide +kernel
theorem d_L_law_319 : decode code 319 = .ok (.aload_n 0, 1) := by decide +kernel
theorem d_L_law_320 : decode code 320 = .ok (.iload_n 3, 1) := by decide +kernel
theorem d_L_law_321 : decode code 321 = .ok (.iconst 1, 1) := by decide +kernel
theorem d_L_law_322 : decode code 322 = .ok (.iadd, 1) := by decide +kernel
theorem d_L_law_323 : decode code 323 = .ok (.iaload, 1) := by decide +kernel
theorem d_L_law_324 : decode code 324 = .ok (.aload_n 0, 1) := by decide +kernel
theorem d_L_law_325 : decode code 325 = .ok (.iload_n 3, 1) := by decide +kernel
theorem d_L_law_326 : decode code 326 = .ok (.iconst 2, 1) := by decide +kernel
theorem d_L_law_327 : decode code 327 = .ok (.iadd, 1) := by decide +kernel
theorem d_L_law_328 : decode code 328 = .ok (.iaload, 1) := by decide +kernel
theorem d_L_law_329 : decode code 329 = .ok (.aload_n 0, 1) := by decide +kernel
theorem d_L_law_330 : decode code 330 = .ok (.iload_n 3, 1) := by decide +kernel
theorem d_L_law_331 : decode code 331 = .ok (.iconst 3, 1) := by decide +kernel
theorem d_L_law_332 : decode code 332 = .ok (.iadd, 1) := by decide +kernel
theorem d_L_law_333 : decode code 333 = .ok (.iaload, 1) := by decide +kernel
theorem d_L_law_334 : decode code 334 = .ok (.aload_n 0, 1) := by decide +kernel
theorem d_L_law_335 : decode code 335 = .ok (.iload_n 3, 1) := by decide +kernel
theorem d_L_law_336 : decode code 336 = .ok (.iconst 4, 1) := by decide +kernel
theorem d_L_law_337 : decode code 337 = .ok (.iadd, 1) := by decide +kernel
theorem d_L_law_338 : decode code 338 = .ok (.iaload, 1) := by decide +kernel
theorem d_L_law_339 : decode code 339 = .ok (.aload_n 0, 1) := by decide +kernel
theorem d_L_law_340 : decode code 340 = .ok (.iload_n 3, 1) := by decide +kernel
theorem d_L_law_341 : decode code 341 = .ok (.iconst 5, 1) := by decide +kernel
theorem d_L_law_342 : decode code 342 = .ok (.iadd, 1) := by decide +kernel
theorem d_L_law_343 : decode code 343 = .ok (.iaload, 1) := by decide +kernel
theorem d_L_law_344 : decode code 344 = .ok (.invokevirtual 42, 3) := by decide +kernel
theorem d_L_law_347 : decode code 347 = .ok (.if_icmp .eq 440, 3) := by decide +kernel
theorem d_L_law_350 : decode code 350 = .ok (.iconst 0, 1) := by decide +kernel
theorem d_L_law_351 : decode code 351 = .ok (.ireturn, 1) := by decide +kernel
theorem d_L_law_352 : decode code 352 = .ok (.aload_n 1, 1) := by decide +kernel
theorem d_L_law_353 : decode code 353 = .ok (.aload_n 0, 1) := by decide +kernel
theorem d_L_law_354 : decode code 354 = .ok (.iload_n 3, 1) := by decide +kernel
theorem d_L_law_355 : decode code 355 = .ok (.iconst 1, 1) := by decide +kernel
theorem d_L_law_356 : decode code 356 = .ok (.iadd, 1) := by decide +kernel
theorem d_L_law_357 : decode code 357 = .ok (.iaload, 1) := by decide +kernel
theorem d_L_law_358 : decode code 358 = .ok (.invokevirtual 43, 3) := by decide +kernel
theorem d_L_law_361 : decode code 361 = .ok (.aload_n 2, 1) := by decide +kernel
theorem d_L_law_362 : decode code 362 = .ok (.aload_n 0, 1) := by decide +kernel
theorem d_L_law_363 : decode code 363 = .ok (.iload_n 3, 1) := by decide +kernel
theorem d_L_law_364 : decode code 364 = .ok (.iconst 1, 1) := by decide +kernel
theorem d_L_law_365 : decode code 365 = .ok (.iadd, 1) := by decide +kernel
theorem d_L_law_366 : decode code 366 = .ok (.iaload, 1) := by decide +kernel
theorem d_L_law_367 : decode code 367 = .ok (.invokevirtual 47, 3) := by decide +kernel
theorem d_L_law_370 : decode code 370 = .ok (.if_icmp .eq 417, 3) := by decide +kernel
theorem d_L_law_373 : decode code 373 = .ok (.iconst 0, 1) := by decide +kernel
theorem d_L_law_374 : decode code 374 = .ok (.ireturn, 1) := by decide +kernel
theorem d_L_law_375 : decode code 375 = .ok (.aload_n 1, 1) := by decide +kernel
theorem d_L_law_376 : decode code 376 = .ok (.invokevirtual 48, 3) := by decide +kernel
theorem d_L_law_379 : decode code 379 = .ok (.aload_n 2, 1) := by decide +kernel
theorem d_L_law_380 : decode code 380 = .ok (.invokevirtual 52, 3) := by decide +kernel
theorem d_L_law_383 : decode code 383 = .ok (.if_icmp .eq 404, 3) := by decide +kernel
theorem d_L_law_386 : decode code 386 = .ok (.iconst 0, 1) := by decide +kernel
theorem d_L_law_387 : decode code 387 = .ok (.ireturn, 1) := by decide +kernel
theorem d_L_law_388 : decode code 388 = .ok (.aload_n 1, 1) := by decide +kernel
theorem d_L_law_389 : decode code 389 = .ok (.aload_n 0, 1) := by decide +kernel
theorem d_L_law_390 : decode code 390 = .ok (.iload_n 3, 1) := by decide +kernel
theorem d_L_law_391 : decode code 391 = .ok (.iconst 1, 1) := by decide +kernel
theorem d_L_law_392 : decode code 392 = .ok (.iadd, 1) := by decide +kernel
theorem d_L_law_393 : decode code 393 = .ok (.iaload, 1) := by decide +kernel
theorem d_L_law_394 : decode code 394 = .ok (.invokevirtual 53, 3) := by decide +kernel
theorem d_L_law_397 : decode code 397 = .ok (.aload_n 2, 1) := by decide +kernel
theorem d_L_law_398 : decode code 398 = .ok (.aload_n 0, 1) := by decide +kernel
theorem d_L_law_399 : decode code 399 = .ok (.iload_n 3, 1) := by decide +kernel
theorem d_L_law_400 : decode code 400 = .ok (.iconst 1, 1) := by decide +kernel
theorem d_L_law_401 : decode code 401 = .ok (.iadd, 1) := by decide +kernel
theorem d_L_law_402 : decode code 402 = .ok (.iaload, 1) := by decide +kernel
theorem d_L_law_403 : decode code 403 = .ok (.invokevirtual 56, 3) := by decide +kernel
theorem d_L_law_406 : decode code 406 = .ok (.if_icmp .eq 381, 3) := by decide +kernel
theorem d_L_law_409 : decode code 409 = .ok (.iconst 0, 1) := by decide +kernel
theorem d_L_law_410 : decode code 410 = .ok (.ireturn, 1) := by decide +kernel
theorem d_L_law_411 : decode code 411 = .ok (.aload_n 1, 1) := by decide +kernel
theorem d_L_law_412 : decode code 412 = .ok (.aload_n 0, 1) := by decide +kernel
theorem d_L_law_413 : decode code 413 = .ok (.iload_n 3, 1) := by decide +kernel
theorem d_L_law_414 : decode code 414 = .ok (.iconst 1, 1) := by decide +kernel
theorem d_L_law_415 : decode code 415 = .ok (.iadd, 1) := by decide +kernel
theorem d_L_law_416 : decode code 416 = .ok (.iaload, 1) := by decide +kernel
theorem d_L_law_417 : decode code 417 = .ok (.invokevirtual 57, 3) := by decide +kernel
theorem d_L_law_420 : decode code 420 = .ok (.aload_n 2, 1) := by decide +kernel
theorem d_L_law_421 : decode code 421 = .ok (.aload_n 0, 1) := by decide +kernel
theorem d_L_law_422 : decode code 422 = .ok (.iload_n 3, 1) := by decide +kernel
theorem d_L_law_423 : decode code 423 = .ok (.iconst 1, 1) := by decide +kernel
theorem d_L_law_424 : decode code 424 = .ok (.iadd, 1) := by decide +kernel
theorem d_L_law_425 : decode code 425 = .ok (.iaload, 1) := by decide +kernel
theorem d_L_law_426 : decode code 426 = .ok (.invokevirtual 60, 3) := by decide +kernel
theorem d_L_law_429 : decode code 429 = .ok (.if_icmp .eq 358, 3) := by decide +kernel
theorem d_L_law_432 : decode code 432 = .ok (.iconst 0, 1) := by decide +kernel
theorem d_L_law_433 : decode code 433 = .ok (.ireturn, 1) := by decide +kernel
theorem d_L_law_434 : decode code 434 = .ok (.aload_n 1, 1) := by decide +kernel
theorem d_L_law_435 : decode code 435 = .ok (.aload_n 0, 1) := by decide +kernel
theorem d_L_law_436 : decode code 436 = .ok (.iload_n 3, 1) := by decide +kernel
theorem d_L_law_437 : decode code 437 = .ok (.iconst 1, 1) := by decide +kernel
theorem d_L_law_438 : decode code 438 = .ok (.iadd, 1) := by decide +kernel
theorem d_L_law_439 : decode code 439 = .ok (.iaload, 1) := by decide +kernel
theorem d_L_law_440 : decode code 440 = .ok (.aload_n 0, 1) := by decide +kernel
theorem d_L_law_441 : decode code 441 = .ok (.iload_n 3, 1) := by decide +kernel
theorem d_L_law_442 : decode code 442 = .ok (.iconst 2, 1) := by decide +kernel
theorem d_L_law_443 : decode code 443 = .ok (.iadd, 1) := by decide +kernel
theorem d_L_law_444 : decode code 444 = .ok (.iaload, 1) := by decide +kernel
theorem d_L_law_445 : decode code 445 = .ok (.invokevirtual 61, 3) := by decide +kernel
theorem d_L_law_448 : decode code 448 = .ok (.aload_n 2, 1) := by decide +kernel
theorem d_L_law_449 : decode code 449 = .ok (.aload_n 0, 1) := by decide +kernel
theorem d_L_law_450 : decode code 450 = .ok (.iload_n 3, 1) := by decide +kernel
theorem d_L_law_451 : decode code 451 = .ok (.iconst 1, 1) := by decide +kernel
theorem d_L_law_452 : decode code 452 = .ok (.iadd, 1) := by decide +kernel
theorem d_L_law_453 : decode code 453 = .ok (.iaload, 1) := by decide +kernel
theorem d_L_law_454 : decode code 454 = .ok (.aload_n 0, 1) := by decide +kernel
theorem d_L_law_455 : decode code 455 = .ok (.iload_n 3, 1) := by decide +kernel
theorem d_L_law_456 : decode code 456 = .ok (.iconst 2, 1) := by decide +kernel
theorem d_L_law_457 : decode code 457 = .ok (.iadd, 1) := by decide +kernel
theorem d_L_law_458 : decode code 458 = .ok (.iaload, 1) := by decide +kernel
theorem d_L_law_459 : decode code 459 = .ok (.invokevirtual 65, 3) := by decide +kernel
theorem d_L_law_462 : decode code 462 = .ok (.if_icmp .eq 325, 3) := by decide +kernel
theorem d_L_law_465 : decode code 465 = .ok (.iconst 0, 1) := by decide +kernel
theorem d_L_law_466 : decode code 466 = .ok (.ireturn, 1) := by decide +kernel
theorem d_L_law_467 : decode code 467 = .ok (.aload_n 1, 1) := by decide +kernel
theorem d_L_law_468 : decode code 468 = .ok (.aload_n 0, 1) := by decide +kernel
theorem d_L_law_469 : decode code 469 = .ok (.iload_n 3, 1) := by decide +kernel
theorem d_L_law_470 : decode code 470 = .ok (.iconst 1, 1) := by decide +kernel
theorem d_L_law_471 : decode code 471 = .ok (.iadd, 1) := by decide +kernel
theorem d_L_law_472 : decode code 472 = .ok (.iaload, 1) := by decide +kernel
theorem d_L_law_473 : decode code 473 = .ok (.invokevirtual 66, 3) := by decide +kernel
theorem d_L_law_476 : decode code 476 = .ok (.aload_n 2, 1) := by decide +kernel
theorem d_L_law_477 : decode code 477 = .ok (.aload_n 0, 1) := by decide +kernel
theorem d_L_law_478 : decode code 478 = .ok (.iload_n 3, 1) := by decide +kernel
theorem d_L_law_479 : decode code 479 = .ok (.iconst 1, 1) := by decide +kernel
theorem d_L_law_480 : decode code 480 = .ok (.iadd, 1) := by decide +kernel
theorem d_L_law_481 : decode code 481 = .ok (.iaload, 1) := by decide +kernel
theorem d_L_law_482 : decode code 482 = .ok (.invokevirtual 69, 3) := by decide +kernel
theorem d_L_law_485 : decode code 485 = .ok (.if_icmp .eq 302, 3) := by decide +kernel
theorem d_L_law_488 : decode code 488 = .ok (.iconst 0, 1) := by decide +kernel
theorem d_L_law_489 : decode code 489 = .ok (.ireturn, 1) := by decide +kernel
theorem d_L_law_490 : decode code 490 = .ok (.aload_n 1, 1) := by decide +kernel
theorem d_L_law_491 : decode code 491 = .ok (.aload_n 0, 1) := by decide +kernel
theorem d_L_law_492 : decode code 492 = .ok (.iload_n 3, 1) := by decide +kernel
theorem d_L_law_493 : decode code 493 = .ok (.iconst 1, 1) := by decide +kernel
theorem d_L_law_494 : decode code 494 = .ok (.iadd, 1) := by decide +kernel
theorem d_L_law_495 : decode code 495 = .ok (.iaload, 1) := by decide +kernel
theorem d_L_law_496 : decode code 496 = .ok (.aload_n 0, 1) := by decide +kernel
theorem d_L_law_497 : decode code 497 = .ok (.iload_n 3, 1) := by decide +kernel
theorem d_L_law_498 : decode code 498 = .ok (.iconst 2, 1) := by decide +kernel
theorem d_L_law_499 : decode code 499 = .ok (.iadd, 1) := by decide +kernel
theorem d_L_law_500 : decode code 500 = .ok (.iaload, 1) := by decide +kernel
theorem d_L_law_501 : decode code 501 = .ok (.aload_n 0, 1) := by decide +kernel
theorem d_L_law_502 : decode code 502 = .ok (.iload_n 3, 1) := by decide +kernel
theorem d_L_law_503 : decode code 503 = .ok (.iconst 3, 1) := by decide +kernel
theorem d_L_law_504 : decode code 504 = .ok (.iadd, 1) := by decide +kernel
theorem d_L_law_505 : decode code 505 = .ok (.iaload, 1) := by decide +kernel
theorem d_L_law_506 : decode code 506 = .ok (.aload_n 0, 1) := by decide +kernel
theorem d_L_law_507 : decode code 507 = .ok (.iload_n 3, 1) := by decide +kernel
theorem d_L_law_508 : decode code 508 = .ok (.iconst 4, 1) := by decide +kernel
theorem d_L_law_509 : decode code 509 = .ok (.iadd, 1) := by decide +kernel
theorem d_L_law_510 : decode code 510 = .ok (.iaload, 1) := by decide +kernel
theorem d_L_law_511 : decode code 511 = .ok (.invokevirtual 70, 3) := by decide +kernel
theorem d_L_law_514 : decode code 514 = .ok (.aload_n 2, 1) := by decide +kernel
theorem d_L_law_515 : decode code 515 = .ok (.aload_n 0, 1) := by decide +kernel
theorem d_L_law_516 : decode code 516 = .ok (.iload_n 3, 1) := by decide +kernel
theorem d_L_law_517 : decode code 517 = .ok (.iconst 1, 1) := by decide +kernel
theorem d_L_law_518 : decode code 518 = .ok (.iadd, 1) := by decide +kernel
theorem d_L_law_519 : decode code 519 = .ok (.iaload, 1) := by decide +kernel
theorem d_L_law_520 : decode code 520 = .ok (.aload_n 0, 1) := by decide +kernel
theorem d_L_law_521 : decode code 521 = .ok (.iload_n 3, 1) := by decide +kernel
theorem d_L_law_522 : decode code 522 = .ok (.iconst 2, 1) := by decide +kernel
theorem d_L_law_523 : decode code 523 = .ok (.iadd, 1) := by decide +kernel
theorem d_L_law_524 : decode code 524 = .ok (.iaload, 1) := by decide +kernel
theorem d_L_law_525 : decode code 525 = .ok (.aload_n 0, 1) := by decide +kernel
theorem d_L_law_526 : decode code 526 = .ok (.iload_n 3, 1) := by decide +kernel
theorem d_L_law_527 : decode code 527 = .ok (.iconst 3, 1) := by decide +kernel
theorem d_L_law_528 : decode code 528 = .ok (.iadd, 1) := by decide +kernel
theorem d_L_law_529 : decode code 529 = .ok (.iaload, 1) := by decide +kernel
theorem d_L_law_530 : decode code 530 = .ok (.aload_n 0, 1) := by decide +kernel
theorem d_L_law_531 : decode code 531 = .ok (.iload_n 3, 1) := by decide +kernel
theorem d_L_law_532 : decode code 532 = .ok (.iconst 4, 1) := by decide +kernel
theorem d_L_law_533 : decode code 533 = .ok (.iadd, 1) := by decide +kernel
theorem d_L_law_534 : decode code 534 = .ok (.iaload, 1) := by decide +kernel
theorem d_L_law_535 : decode code 535 = .ok (.invokevirtual 74, 3) := by decide +kernel
theorem d_L_law_538 : decode code 538 = .ok (.lcmp, 1) := by decide +kernel
theorem d_L_law_539 : decode code 539 = .ok (.ifCond .eq 248, 3) := by decide +kernel
theorem d_L_law_542 : decode code 542 = .ok (.iconst 0, 1) := by decide +kernel
theorem d_L_law_543 : decode code 543 = .ok (.ireturn, 1) := by decide +kernel
theorem d_L_law_544 : decode code 544 = .ok (.aload_n 1, 1) := by decide +kernel
theorem d_L_law_545 : decode code 545 = .ok (.aload_n 0, 1) := by decide +kernel
theorem d_L_law_546 : decode code 546 = .ok (.iload_n 3, 1) := by decide +kernel
theorem d_L_law_547 : decode code 547 = .ok (.iconst 1, 1) := by decide +kernel
theorem d_L_law_548 : decode code 548 = .ok (.iadd, 1) := by decide +kernel
theorem d_L_law_549 : decode code 549 = .ok (.iaload, 1) := by decide +kernel
theorem d_L_law_550 : decode code 550 = .ok (.aload_n 0, 1) := by decide +kernel
theorem d_L_law_551 : decode code 551 = .ok (.iload_n 3, 1) := by decide +kernel
theorem d_L_law_552 : decode code 552 = .ok (.iconst 2, 1) := by decide +kernel
theorem d_L_law_553 : decode code 553 = .ok (.iadd, 1) := by decide +kernel
theorem d_L_law_554 : decode code 554 = .ok (.iaload, 1) := by decide +kernel
theorem d_L_law_555 : decode code 555 = .ok (.aload_n 0, 1) := by decide +kernel
theorem d_L_law_556 : decode code 556 = .ok (.iload_n 3, 1) := by decide +kernel
theorem d_L_law_557 : decode code 557 = .ok (.iconst 3, 1) := by decide +kernel
theorem d_L_law_558 : decode code 558 = .ok (.iadd, 1) := by decide +kernel
theorem d_L_law_559 : decode code 559 = .ok (.iaload, 1) := by decide +kernel
theorem d_L_law_560 : decode code 560 = .ok (.aload_n 0, 1) := by decide +kernel
theorem d_L_law_561 : decode code 561 = .ok (.iload_n 3, 1) := by decide +kernel
theorem d_L_law_562 : decode code 562 = .ok (.iconst 4, 1) := by decide +kernel
theorem d_L_law_563 : decode code 563 = .ok (.iadd, 1) := by decide +kernel
theorem d_L_law_564 : decode code 564 = .ok (.iaload, 1) := by decide +kernel
theorem d_L_law_565 : decode code 565 = .ok (.invokevirtual 75, 3) := by decide +kernel
theorem d_L_law_568 : decode code 568 = .ok (.aload_n 2, 1) := by decide +kernel
theorem d_L_law_569 : decode code 569 = .ok (.aload_n 0, 1) := by decide +kernel
theorem d_L_law_570 : decode code 570 = .ok (.iload_n 3, 1) := by decide +kernel
theorem d_L_law_571 : decode code 571 = .ok (.iconst 1, 1) := by decide +kernel
theorem d_L_law_572 : decode code 572 = .ok (.iadd, 1) := by decide +kernel
theorem d_L_law_573 : decode code 573 = .ok (.iaload, 1) := by decide +kernel
theorem d_L_law_574 : decode code 574 = .ok (.aload_n 0, 1) := by decide +kernel
theorem d_L_law_575 : decode code 575 = .ok (.iload_n 3, 1) := by decide +kernel
theorem d_L_law_576 : decode code 576 = .ok (.iconst 2, 1) := by decide +kernel
theorem d_L_law_577 : decode code 577 = .ok (.iadd, 1) := by decide +kernel
theorem d_L_law_578 : decode code 578 = .ok (.iaload, 1) := by decide +kernel
theorem d_L_law_579 : decode code 579 = .ok (.aload_n 0, 1) := by decide +kernel
theorem d_L_law_580 : decode code 580 = .ok (.iload_n 3, 1) := by decide +kernel
theorem d_L_law_581 : decode code 581 = .ok (.iconst 3, 1) := by decide +kernel
theorem d_L_law_582 : decode code 582 = .ok (.iadd, 1) := by decide +kernel
theorem d_L_law_583 : decode code 583 = .ok (.iaload, 1) := by decide +kernel
theorem d_L_law_584 : decode code 584 = .ok (.aload_n 0, 1) := by decide +kernel
theorem d_L_law_585 : decode code 585 = .ok (.iload_n 3, 1) := by decide +kernel
theorem d_L_law_586 : decode code 586 = .ok (.iconst 4, 1) := by decide +kernel
theorem d_L_law_587 : decode code 587 = .ok (.iadd, 1) := by decide +kernel
theorem d_L_law_588 : decode code 588 = .ok (.iaload, 1) := by decide +kernel
theorem d_L_law_589 : decode code 589 = .ok (.invokevirtual 79, 3) := by decide +kernel
theorem d_L_law_592 : decode code 592 = .ok (.if_icmp .eq 195, 3) := by decide +kernel
theorem d_L_law_595 : decode code 595 = .ok (.iconst 0, 1) := by decide +kernel
theorem d_L_law_596 : decode code 596 = .ok (.ireturn, 1) := by decide +kernel
theorem d_L_law_597 : decode code 597 = .ok (.aload_n 1, 1) := by decide +kernel
theorem d_L_law_598 : decode code 598 = .ok (.aload_n 0, 1) := by decide +kernel
theorem d_L_law_599 : decode code 599 = .ok (.iload_n 3, 1) := by decide +kernel
theorem d_L_law_600 : decode code 600 = .ok (.iconst 1, 1) := by decide +kernel
theorem d_L_law_601 : decode code 601 = .ok (.iadd, 1) := by decide +kernel
theorem d_L_law_602 : decode code 602 = .ok (.iaload, 1) := by decide +kernel
theorem d_L_law_603 : decode code 603 = .ok (.aload_n 0, 1) := by decide +kernel
theorem d_L_law_604 : decode code 604 = .ok (.iload_n 3, 1) := by decide +kernel
theorem d_L_law_605 : decode code 605 = .ok (.iconst 2, 1) := by decide +kernel
theorem d_L_law_606 : decode code 606 = .ok (.iadd, 1) := by decide +kernel
theorem d_L_law_607 : decode code 607 = .ok (.iaload, 1) := by decide +kernel
theorem d_L_law_608 : decode code 608 = .ok (.aload_n 0, 1) := by decide +kernel
theorem d_L_law_609 : decode code 609 = .ok (.iload_n 3, 1) := by decide +kernel
theorem d_L_law_610 : decode code 610 = .ok (.iconst 3, 1) := by decide +kernel
theorem d_L_law_611 : decode code 611 = .ok (.iadd, 1) := by decide +kernel
theorem d_L_law_612 : decode code 612 = .ok (.iaload, 1) := by decide +kernel
theorem d_L_law_613 : decode code 613 = .ok (.invokevirtual 80, 3) := by decide +kernel
theorem d_L_law_616 : decode code 616 = .ok (.aload_n 2, 1) := by decide +kernel
theorem d_L_law_617 : decode code 617 = .ok (.aload_n 0, 1) := by decide +kernel
theorem d_L_law_618 : decode code 618 = .ok (.iload_n 3, 1) := by decide +kernel
theorem d_L_law_619 : decode code 619 = .ok (.iconst 1, 1) := by decide +kernel
theorem d_L_law_620 : decode code 620 = .ok (.iadd, 1) := by decide +kernel
theorem d_L_law_621 : decode code 621 = .ok (.iaload, 1) := by decide +kernel
theorem d_L_law_622 : decode code 622 = .ok (.aload_n 0, 1) := by decide +kernel
theorem d_L_law_623 : decode code 623 = .ok (.iload_n 3, 1) := by decide +kernel
theorem d_L_law_624 : decode code 624 = .ok (.iconst 2, 1) := by decide +kernel
theorem d_L_law_625 : decode code 625 = .ok (.iadd, 1) := by decide +kernel
theorem d_L_law_626 : decode code 626 = .ok (.iaload, 1) := by decide +kernel
theorem d_L_law_627 : decode code 627 = .ok (.aload_n 0, 1) := by decide +kernel
theorem d_L_law_628 : decode code 628 = .ok (.iload_n 3, 1) := by decide +kernel
theorem d_L_law_629 : decode code 629 = .ok (.iconst 3, 1) := by decide +kernel
theorem d_L_law_630 : decode code 630 = .ok (.iadd, 1) := by decide +kernel
theorem d_L_law_631 : decode code 631 = .ok (.iaload, 1) := by decide +kernel
theorem d_L_law_632 : decode code 632 = .ok (.invokevirtual 84, 3) := by decide +kernel
theorem d_L_law_635 : decode code 635 = .ok (.lcmp, 1) := by decide +kernel
theorem d_L_law_636 : decode code 636 = .ok (.ifCond .eq 151, 3) := by decide +kernel
theorem d_L_law_639 : decode code 639 = .ok (.iconst 0, 1) := by decide +kernel
theorem d_L_law_640 : decode code 640 = .ok (.ireturn, 1) := by decide +kernel
theorem d_L_law_641 : decode code 641 = .ok (.aload_n 1, 1) := by decide +kernel
theorem d_L_law_642 : decode code 642 = .ok (.aload_n 0, 1) := by decide +kernel
theorem d_L_law_643 : decode code 643 = .ok (.iload_n 3, 1) := by decide +kernel
theorem d_L_law_644 : decode code 644 = .ok (.iconst 1, 1) := by decide +kernel
theorem d_L_law_645 : decode code 645 = .ok (.iadd, 1) := by decide +kernel
theorem d_L_law_646 : decode code 646 = .ok (.iaload, 1) := by decide +kernel
theorem d_L_law_647 : decode code 647 = .ok (.aload_n 0, 1) := by decide +kernel
theorem d_L_law_648 : decode code 648 = .ok (.iload_n 3, 1) := by decide +kernel
theorem d_L_law_649 : decode code 649 = .ok (.iconst 2, 1) := by decide +kernel
theorem d_L_law_650 : decode code 650 = .ok (.iadd, 1) := by decide +kernel
theorem d_L_law_651 : decode code 651 = .ok (.iaload, 1) := by decide +kernel
theorem d_L_law_652 : decode code 652 = .ok (.invokevirtual 85, 3) := by decide +kernel
theorem d_L_law_655 : decode code 655 = .ok (.aload_n 2, 1) := by decide +kernel
theorem d_L_law_656 : decode code 656 = .ok (.aload_n 0, 1) := by decide +kernel
theorem d_L_law_657 : decode code 657 = .ok (.iload_n 3, 1) := by decide +kernel
theorem d_L_law_658 : decode code 658 = .ok (.iconst 1, 1) := by decide +kernel
theorem d_L_law_659 : decode code 659 = .ok (.iadd, 1) := by decide +kernel
theorem d_L_law_660 : decode code 660 = .ok (.iaload, 1) := by decide +kernel
theorem d_L_law_661 : decode code 661 = .ok (.aload_n 0, 1) := by decide +kernel
theorem d_L_law_662 : decode code 662 = .ok (.iload_n 3, 1) := by decide +kernel
theorem d_L_law_663 : decode code 663 = .ok (.iconst 2, 1) := by decide +kernel
theorem d_L_law_664 : decode code 664 = .ok (.iadd, 1) := by decide +kernel
theorem d_L_law_665 : decode code 665 = .ok (.iaload, 1) := by decide +kernel
theorem d_L_law_666 : decode code 666 = .ok (.invokevirtual 89, 3) := by decide +kernel
theorem d_L_law_669 : decode code 669 = .ok (.if_icmp .eq 118, 3) := by decide +kernel
theorem d_L_law_672 : decode code 672 = .ok (.iconst 0, 1) := by decide +kernel
theorem d_L_law_673 : decode code 673 = .ok (.ireturn, 1) := by decide +kernel
theorem d_L_law_674 : decode code 674 = .ok (.aload_n 1, 1) := by decide +kernel
theorem d_L_law_675 : decode code 675 = .ok (.aload_n 0, 1) := by decide +kernel
theorem d_L_law_676 : decode code 676 = .ok (.iload_n 3, 1) := by decide +kernel
theorem d_L_law_677 : decode code 677 = .ok (.iconst 1, 1) := by decide +kernel
theorem d_L_law_678 : decode code 678 = .ok (.iadd, 1) := by decide +kernel
theorem d_L_law_679 : decode code 679 = .ok (.iaload, 1) := by decide +kernel
theorem d_L_law_680 : decode code 680 = .ok (.aload_n 0, 1) := by decide +kernel
theorem d_L_law_681 : decode code 681 = .ok (.iload_n 3, 1) := by decide +kernel
theorem d_L_law_682 : decode code 682 = .ok (.iconst 2, 1) := by decide +kernel
theorem d_L_law_683 : decode code 683 = .ok (.iadd, 1) := by decide +kernel
theorem d_L_law_684 : decode code 684 = .ok (.iaload, 1) := by decide +kernel
theorem d_L_law_685 : decode code 685 = .ok (.invokevirtual 90, 3) := by decide +kernel
theorem d_L_law_688 : decode code 688 = .ok (.aload_n 2, 1) := by decide +kernel
theorem d_L_law_689 : decode code 689 = .ok (.aload_n 0, 1) := by decide +kernel
theorem d_L_law_690 : decode code 690 = .ok (.iload_n 3, 1) := by decide +kernel
theorem d_L_law_691 : decode code 691 = .ok (.iconst 1, 1) := by decide +kernel
theorem d_L_law_692 : decode code 692 = .ok (.iadd, 1) := by decide +kernel
theorem d_L_law_693 : decode code 693 = .ok (.iaload, 1) := by decide +kernel
theorem d_L_law_694 : decode code 694 = .ok (.aload_n 0, 1) := by decide +kernel
theorem d_L_law_695 : decode code 695 = .ok (.iload_n 3, 1) := by decide +kernel
theorem d_L_law_696 : decode code 696 = .ok (.iconst 2, 1) := by decide +kernel
theorem d_L_law_697 : decode code 697 = .ok (.iadd, 1) := by decide +kernel
theorem d_L_law_698 : decode code 698 = .ok (.iaload, 1) := by decide +kernel
theorem d_L_law_699 : decode code 699 = .ok (.invokevirtual 94, 3) := by decide +kernel
theorem d_L_law_702 : decode code 702 = .ok (.lcmp, 1) := by decide +kernel
theorem d_L_law_703 : decode code 703 = .ok (.ifCond .eq 84, 3) := by decide +kernel
theorem d_L_law_706 : decode code 706 = .ok (.iconst 0, 1) := by decide +kernel
theorem d_L_law_707 : decode code 707 = .ok (.ireturn, 1) := by decide +kernel
theorem d_L_law_708 : decode code 708 = .ok (.aload_n 1, 1) := by decide +kernel
theorem d_L_law_709 : decode code 709 = .ok (.aload_n 0, 1) := by decide +kernel
theorem d_L_law_710 : decode code 710 = .ok (.iload_n 3, 1) := by decide +kernel
theorem d_L_law_711 : decode code 711 = .ok (.iconst 1, 1) := by decide +kernel
theorem d_L_law_712 : decode code 712 = .ok (.iadd, 1) := by decide +kernel
theorem d_L_law_713 : decode code 713 = .ok (.iaload, 1) := by decide +kernel
theorem d_L_law_714 : decode code 714 = .ok (.aload_n 0, 1) := by decide +kernel
theorem d_L_law_715 : decode code 715 = .ok (.iload_n 3, 1) := by decide +kernel
theorem d_L_law_716 : decode code 716 = .ok (.iconst 2, 1) := by decide +kernel
theorem d_L_law_717 : decode code 717 = .ok (.iadd, 1) := by decide +kernel
theorem d_L_law_718 : decode code 718 = .ok (.iaload, 1) := by decide +kernel
theorem d_L_law_719 : decode code 719 = .ok (.invokevirtual 95, 3) := by decide +kernel
theorem d_L_law_722 : decode code 722 = .ok (.aload_n 2, 1) := by decide +kernel
theorem d_L_law_723 : decode code 723 = .ok (.aload_n 0, 1) := by decide +kernel
theorem d_L_law_724 : decode code 724 = .ok (.iload_n 3, 1) := by decide +kernel
theorem d_L_law_725 : decode code 725 = .ok (.iconst 1, 1) := by decide +kernel
theorem d_L_law_726 : decode code 726 = .ok (.iadd, 1) := by decide +kernel
theorem d_L_law_727 : decode code 727 = .ok (.iaload, 1) := by decide +kernel
theorem d_L_law_728 : decode code 728 = .ok (.aload_n 0, 1) := by decide +kernel
theorem d_L_law_729 : decode code 729 = .ok (.iload_n 3, 1) := by decide +kernel
theorem d_L_law_730 : decode code 730 = .ok (.iconst 2, 1) := by decide +kernel
theorem d_L_law_731 : decode code 731 = .ok (.iadd, 1) := by decide +kernel
theorem d_L_law_732 : decode code 732 = .ok (.iaload, 1) := by decide +kernel
theorem d_L_law_733 : decode code 733 = .ok (.invokevirtual 98, 3) := by decide +kernel
theorem d_L_law_736 : decode code 736 = .ok (.if_icmp .eq 51, 3) := by decide +kernel
theorem d_L_law_739 : decode code 739 = .ok (.iconst 0, 1) := by decide +kernel
theorem d_L_law_740 : decode code 740 = .ok (.ireturn, 1) := by decide +kernel
theorem d_L_law_741 : decode code 741 = .ok (.aload_n 1, 1) := by decide +kernel
theorem d_L_law_742 : decode code 742 = .ok (.aload_n 0, 1) := by decide +kernel
theorem d_L_law_743 : decode code 743 = .ok (.iload_n 3, 1) := by decide +kernel
theorem d_L_law_744 : decode code 744 = .ok (.iconst 1, 1) := by decide +kernel
theorem d_L_law_745 : decode code 745 = .ok (.iadd, 1) := by decide +kernel
theorem d_L_law_746 : decode code 746 = .ok (.iaload, 1) := by decide +kernel
theorem d_L_law_747 : decode code 747 = .ok (.invokevirtual 99, 3) := by decide +kernel
theorem d_L_law_750 : decode code 750 = .ok (.aload_n 2, 1) := by decide +kernel
theorem d_L_law_751 : decode code 751 = .ok (.aload_n 0, 1) := by decide +kernel
theorem d_L_law_752 : decode code 752 = .ok (.iload_n 3, 1) := by decide +kernel
theorem d_L_law_753 : decode code 753 = .ok (.iconst 1, 1) := by decide +kernel
theorem d_L_law_754 : decode code 754 = .ok (.iadd, 1) := by decide +kernel
theorem d_L_law_755 : decode code 755 = .ok (.iaload, 1) := by decide +kernel
theorem d_L_law_756 : decode code 756 = .ok (.invokevirtual 102, 3) := by decide +kernel
theorem d_L_law_759 : decode code 759 = .ok (.if_icmp .eq 28, 3) := by decide +kernel
theorem d_L_law_762 : decode code 762 = .ok (.iconst 0, 1) := by decide +kernel
theorem d_L_law_763 : decode code 763 = .ok (.ireturn, 1) := by decide +kernel
theorem d_L_law_764 : decode code 764 = .ok (.aload_n 1, 1) := by decide +kernel
theorem d_L_law_765 : decode code 765 = .ok (.aload_n 0, 1) := by decide +kernel
theorem d_L_law_766 : decode code 766 = .ok (.iload_n 3, 1) := by decide +kernel
theorem d_L_law_767 : decode code 767 = .ok (.iconst 1, 1) := by decide +kernel
theorem d_L_law_768 : decode code 768 = .ok (.iadd, 1) := by decide +kernel
theorem d_L_law_769 : decode code 769 = .ok (.iaload, 1) := by decide +kernel
theorem d_L_law_770 : decode code 770 = .ok (.invokevirtual 103, 3) := by decide +kernel
theorem d_L_law_773 : decode code 773 = .ok (.aload_n 2, 1) := by decide +kernel
theorem d_L_law_774 : decode code 774 = .ok (.aload_n 0, 1) := by decide +kernel
theorem d_L_law_775 : decode code 775 = .ok (.iload_n 3, 1) := by decide +kernel
theorem d_L_law_776 : decode code 776 = .ok (.iconst 1, 1) := by decide +kernel
theorem d_L_law_777 : decode code 777 = .ok (.iadd, 1) := by decide +kernel
theorem d_L_law_778 : decode code 778 = .ok (.iaload, 1) := by decide +kernel
theorem d_L_law_779 : decode code 779 = .ok (.invokevirtual 106, 3) := by decide +kernel
theorem d_L_law_782 : decode code 782 = .ok (.if_icmp .eq 5, 3) := by decide +kernel
theorem d_L_law_785 : decode code 785 = .ok (.iconst 0, 1) := by decide +kernel
theorem d_L_law_786 : decode code 786 = .ok (.ireturn, 1) := by decide +kernel
theorem d_L_law_787 : decode code 787 = .ok (.iinc 3 6, 3) := by decide +kernel
theorem d_L_law_790 : decode code 790 = .ok (.goto (-752), 3) := by decide +kernel
theorem d_L_law_793 : decode code 793 = .ok (.iconst 1, 1) := by decide +kernel
theorem d_L_law_794 : decode code 794 = .ok (.ireturn, 1) := by decide +kernel
theorem d_L_cell_0 : decode b_L_cell 0 = .ok (.iload_n 1, 1) := by decide +kernel
theorem d_L_cell_1 : decode b_L_cell 1 = .ok (.aload_n 0, 1) := by decide +kernel
theorem d_L_cell_2 : decode b_L_cell 2 = .ok (.arraylength, 1) := by decide +kernel
theorem d_L_cell_3 : decode b_L_cell 3 = .ok (.if_icmp .ge 9, 3) := by decide +kernel
theorem d_L_cell_6 : decode b_L_cell 6 = .ok (.aload_n 0, 1) := by decide +kernel
theorem d_L_cell_7 : decode b_L_cell 7 = .ok (.iload_n 1, 1) := by decide +kernel
theorem d_L_cell_8 : decode b_L_cell 8 = .ok (.iaload, 1) := by decide +kernel
theorem d_L_cell_9 : decode b_L_cell 9 = .ok (.goto 4, 3) := by decide +kernel
theorem d_L_cell_12 : decode b_L_cell 12 = .ok (.iconst 0, 1) := by decide +kernel
theorem d_L_cell_13 : decode b_L_cell 13 = .ok (.ireturn, 1) := by decide +kernel
