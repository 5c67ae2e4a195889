/-! Printed by wip/whole/print_names.py: decode rows -/
theorem gd_L_law_0 : decode F_L_law.2.1 0 = .ok (.new 8, 3) := by decide +kernel
theorem gd_L_law_3 : decode F_L_law.2.1 3 = .ok (.dup, 1) := by decide +kernel
theorem gd_L_law_4 : decode F_L_law.2.1 4 = .ok (.invokespecial 85, 3) := by decide +kernel
theorem gd_L_law_7 : decode F_L_law.2.1 7 = .ok (.astore_n 1, 1) := by decide +kernel
theorem gd_L_law_8 : decode F_L_law.2.1 8 = .ok (.new 86, 3) := by decide +kernel
theorem gd_L_law_11 : decode F_L_law.2.1 11 = .ok (.dup, 1) := by decide +kernel
theorem gd_L_law_12 : decode F_L_law.2.1 12 = .ok (.invokespecial 88, 3) := by decide +kernel
theorem gd_L_law_15 : decode F_L_law.2.1 15 = .ok (.astore_n 2, 1) := by decide +kernel
theorem gd_L_law_16 : decode F_L_law.2.1 16 = .ok (.iconst 1, 1) := by decide +kernel
theorem gd_L_law_17 : decode F_L_law.2.1 17 = .ok (.newarray .long, 2) := by decide +kernel
theorem gd_L_law_19 : decode F_L_law.2.1 19 = .ok (.astore_n 3, 1) := by decide +kernel
theorem gd_L_law_20 : decode F_L_law.2.1 20 = .ok (.iconst 0, 1) := by decide +kernel
theorem gd_L_law_21 : decode F_L_law.2.1 21 = .ok (.istore 4, 2) := by decide +kernel
theorem gd_L_law_23 : decode F_L_law.2.1 23 = .ok (.iload 4, 2) := by decide +kernel
theorem gd_L_law_25 : decode F_L_law.2.1 25 = .ok (.aload_n 0, 1) := by decide +kernel
theorem gd_L_law_26 : decode F_L_law.2.1 26 = .ok (.arraylength, 1) := by decide +kernel
theorem gd_L_law_27 : decode F_L_law.2.1 27 = .ok (.iconst 5, 1) := by decide +kernel
theorem gd_L_law_28 : decode F_L_law.2.1 28 = .ok (.isub, 1) := by decide +kernel
theorem gd_L_law_29 : decode F_L_law.2.1 29 = .ok (.if_icmp .gt 1488, 3) := by decide +kernel
theorem gd_L_law_32 : decode F_L_law.2.1 32 = .ok (.aload_n 0, 1) := by decide +kernel
theorem gd_L_law_33 : decode F_L_law.2.1 33 = .ok (.iload 4, 2) := by decide +kernel
theorem gd_L_law_35 : decode F_L_law.2.1 35 = .ok (.iaload, 1) := by decide +kernel
theorem gd_L_law_36 : decode F_L_law.2.1 36 = .ok (.bipush 31, 2) := by decide +kernel
theorem gd_L_law_38 : decode F_L_law.2.1 38 = .ok (.iand, 1) := by decide +kernel
theorem gd_L_law_39 : decode F_L_law.2.1 39 = .ok (.tableswitch 1472 0 22 #[105, 165, 233, 325, 393, 449, 505, 580, 643, 699, 755, 811, 824, 892, 959, 1027, 1095, 1174, 1230, 1298, 1354, 1446, 1459], 105) := by decide +kernel
theorem gd_L_law_144 : decode F_L_law.2.1 144 = .ok (.aload_n 1, 1) := by decide +kernel
theorem gd_L_law_145 : decode F_L_law.2.1 145 = .ok (.aload_n 0, 1) := by decide +kernel
theorem gd_L_law_146 : decode F_L_law.2.1 146 = .ok (.iload 4, 2) := by decide +kernel
theorem gd_L_law_148 : decode F_L_law.2.1 148 = .ok (.iconst 1, 1) := by decide +kernel
theorem gd_L_law_149 : decode F_L_law.2.1 149 = .ok (.iadd, 1) := by decide +kernel
theorem gd_L_law_150 : decode F_L_law.2.1 150 = .ok (.iaload, 1) := by decide +kernel
theorem gd_L_law_151 : decode F_L_law.2.1 151 = .ok (.aload_n 0, 1) := by decide +kernel
theorem gd_L_law_152 : decode F_L_law.2.1 152 = .ok (.iload 4, 2) := by decide +kernel
theorem gd_L_law_154 : decode F_L_law.2.1 154 = .ok (.iconst 2, 1) := by decide +kernel
theorem gd_L_law_155 : decode F_L_law.2.1 155 = .ok (.iadd, 1) := by decide +kernel
theorem gd_L_law_156 : decode F_L_law.2.1 156 = .ok (.iaload, 1) := by decide +kernel
theorem gd_L_law_157 : decode F_L_law.2.1 157 = .ok (.aload_n 0, 1) := by decide +kernel
theorem gd_L_law_158 : decode F_L_law.2.1 158 = .ok (.iload 4, 2) := by decide +kernel
theorem gd_L_law_160 : decode F_L_law.2.1 160 = .ok (.iconst 3, 1) := by decide +kernel
theorem gd_L_law_161 : decode F_L_law.2.1 161 = .ok (.iadd, 1) := by decide +kernel
theorem gd_L_law_162 : decode F_L_law.2.1 162 = .ok (.iaload, 1) := by decide +kernel
theorem gd_L_law_163 : decode F_L_law.2.1 163 = .ok (.invokestatic 89, 3) := by decide +kernel
theorem gd_L_law_166 : decode F_L_law.2.1 166 = .ok (.istore 5, 2) := by decide +kernel
theorem gd_L_law_168 : decode F_L_law.2.1 168 = .ok (.aload_n 2, 1) := by decide +kernel
theorem gd_L_law_169 : decode F_L_law.2.1 169 = .ok (.aload_n 0, 1) := by decide +kernel
theorem gd_L_law_170 : decode F_L_law.2.1 170 = .ok (.iload 4, 2) := by decide +kernel
theorem gd_L_law_172 : decode F_L_law.2.1 172 = .ok (.iconst 1, 1) := by decide +kernel
theorem gd_L_law_173 : decode F_L_law.2.1 173 = .ok (.iadd, 1) := by decide +kernel
theorem gd_L_law_174 : decode F_L_law.2.1 174 = .ok (.iaload, 1) := by decide +kernel
theorem gd_L_law_175 : decode F_L_law.2.1 175 = .ok (.aload_n 0, 1) := by decide +kernel
theorem gd_L_law_176 : decode F_L_law.2.1 176 = .ok (.iload 4, 2) := by decide +kernel
theorem gd_L_law_178 : decode F_L_law.2.1 178 = .ok (.iconst 2, 1) := by decide +kernel
theorem gd_L_law_179 : decode F_L_law.2.1 179 = .ok (.iadd, 1) := by decide +kernel
theorem gd_L_law_180 : decode F_L_law.2.1 180 = .ok (.iaload, 1) := by decide +kernel
theorem gd_L_law_181 : decode F_L_law.2.1 181 = .ok (.aload_n 0, 1) := by decide +kernel
theorem gd_L_law_182 : decode F_L_law.2.1 182 = .ok (.iload 4, 2) := by decide +kernel
theorem gd_L_law_184 : decode F_L_law.2.1 184 = .ok (.iconst 3, 1) := by decide +kernel
theorem gd_L_law_185 : decode F_L_law.2.1 185 = .ok (.iadd, 1) := by decide +kernel
theorem gd_L_law_186 : decode F_L_law.2.1 186 = .ok (.iaload, 1) := by decide +kernel
theorem gd_L_law_187 : decode F_L_law.2.1 187 = .ok (.invokevirtual 94, 3) := by decide +kernel
theorem gd_L_law_190 : decode F_L_law.2.1 190 = .ok (.aload_n 2, 1) := by decide +kernel
theorem gd_L_law_191 : decode F_L_law.2.1 191 = .ok (.invokevirtual 95, 3) := by decide +kernel
theorem gd_L_law_194 : decode F_L_law.2.1 194 = .ok (.iload 5, 2) := by decide +kernel
theorem gd_L_law_196 : decode F_L_law.2.1 196 = .ok (.if_icmp .eq 5, 3) := by decide +kernel
theorem gd_L_law_199 : decode F_L_law.2.1 199 = .ok (.iconst 0, 1) := by decide +kernel
theorem gd_L_law_200 : decode F_L_law.2.1 200 = .ok (.ireturn, 1) := by decide +kernel
theorem gd_L_law_201 : decode F_L_law.2.1 201 = .ok (.goto 1310, 3) := by decide +kernel
theorem gd_L_law_204 : decode F_L_law.2.1 204 = .ok (.aload_n 1, 1) := by decide +kernel
theorem gd_L_law_205 : decode F_L_law.2.1 205 = .ok (.aload_n 0, 1) := by decide +kernel
theorem gd_L_law_206 : decode F_L_law.2.1 206 = .ok (.iload 4, 2) := by decide +kernel
theorem gd_L_law_208 : decode F_L_law.2.1 208 = .ok (.iconst 1, 1) := by decide +kernel
theorem gd_L_law_209 : decode F_L_law.2.1 209 = .ok (.iadd, 1) := by decide +kernel
theorem gd_L_law_210 : decode F_L_law.2.1 210 = .ok (.iaload, 1) := by decide +kernel
theorem gd_L_law_211 : decode F_L_law.2.1 211 = .ok (.aload_n 0, 1) := by decide +kernel
theorem gd_L_law_212 : decode F_L_law.2.1 212 = .ok (.iload 4, 2) := by decide +kernel
theorem gd_L_law_214 : decode F_L_law.2.1 214 = .ok (.iconst 2, 1) := by decide +kernel
theorem gd_L_law_215 : decode F_L_law.2.1 215 = .ok (.iadd, 1) := by decide +kernel
theorem gd_L_law_216 : decode F_L_law.2.1 216 = .ok (.iaload, 1) := by decide +kernel
theorem gd_L_law_217 : decode F_L_law.2.1 217 = .ok (.aload_n 3, 1) := by decide +kernel
theorem gd_L_law_218 : decode F_L_law.2.1 218 = .ok (.invokestatic 99, 3) := by decide +kernel
theorem gd_L_law_221 : decode F_L_law.2.1 221 = .ok (.istore 5, 2) := by decide +kernel
theorem gd_L_law_223 : decode F_L_law.2.1 223 = .ok (.aload_n 2, 1) := by decide +kernel
theorem gd_L_law_224 : decode F_L_law.2.1 224 = .ok (.aload_n 0, 1) := by decide +kernel
theorem gd_L_law_225 : decode F_L_law.2.1 225 = .ok (.iload 4, 2) := by decide +kernel
theorem gd_L_law_227 : decode F_L_law.2.1 227 = .ok (.iconst 1, 1) := by decide +kernel
theorem gd_L_law_228 : decode F_L_law.2.1 228 = .ok (.iadd, 1) := by decide +kernel
theorem gd_L_law_229 : decode F_L_law.2.1 229 = .ok (.iaload, 1) := by decide +kernel
theorem gd_L_law_230 : decode F_L_law.2.1 230 = .ok (.aload_n 0, 1) := by decide +kernel
theorem gd_L_law_231 : decode F_L_law.2.1 231 = .ok (.iload 4, 2) := by decide +kernel
theorem gd_L_law_233 : decode F_L_law.2.1 233 = .ok (.iconst 2, 1) := by decide +kernel
theorem gd_L_law_234 : decode F_L_law.2.1 234 = .ok (.iadd, 1) := by decide +kernel
theorem gd_L_law_235 : decode F_L_law.2.1 235 = .ok (.iaload, 1) := by decide +kernel
theorem gd_L_law_236 : decode F_L_law.2.1 236 = .ok (.invokevirtual 102, 3) := by decide +kernel
theorem gd_L_law_239 : decode F_L_law.2.1 239 = .ok (.istore 6, 2) := by decide +kernel
theorem gd_L_law_241 : decode F_L_law.2.1 241 = .ok (.aload_n 2, 1) := by decide +kernel
theorem gd_L_law_242 : decode F_L_law.2.1 242 = .ok (.invokevirtual 95, 3) := by decide +kernel
theorem gd_L_law_245 : decode F_L_law.2.1 245 = .ok (.iload 5, 2) := by decide +kernel
theorem gd_L_law_247 : decode F_L_law.2.1 247 = .ok (.if_icmp .eq 5, 3) := by decide +kernel
theorem gd_L_law_250 : decode F_L_law.2.1 250 = .ok (.iconst 0, 1) := by decide +kernel
theorem gd_L_law_251 : decode F_L_law.2.1 251 = .ok (.ireturn, 1) := by decide +kernel
theorem gd_L_law_252 : decode F_L_law.2.1 252 = .ok (.iload 5, 2) := by decide +kernel
theorem gd_L_law_254 : decode F_L_law.2.1 254 = .ok (.ifCond .ne 15, 3) := by decide +kernel
theorem gd_L_law_257 : decode F_L_law.2.1 257 = .ok (.aload_n 3, 1) := by decide +kernel
theorem gd_L_law_258 : decode F_L_law.2.1 258 = .ok (.iconst 0, 1) := by decide +kernel
theorem gd_L_law_259 : decode F_L_law.2.1 259 = .ok (.laload, 1) := by decide +kernel
theorem gd_L_law_260 : decode F_L_law.2.1 260 = .ok (.iload 6, 2) := by decide +kernel
theorem gd_L_law_262 : decode F_L_law.2.1 262 = .ok (.i2l, 1) := by decide +kernel
theorem gd_L_law_263 : decode F_L_law.2.1 263 = .ok (.lcmp, 1) := by decide +kernel
theorem gd_L_law_264 : decode F_L_law.2.1 264 = .ok (.ifCond .eq 5, 3) := by decide +kernel
theorem gd_L_law_267 : decode F_L_law.2.1 267 = .ok (.iconst 0, 1) := by decide +kernel
theorem gd_L_law_268 : decode F_L_law.2.1 268 = .ok (.ireturn, 1) := by decide +kernel
theorem gd_L_law_269 : decode F_L_law.2.1 269 = .ok (.goto 1242, 3) := by decide +kernel
theorem gd_L_law_272 : decode F_L_law.2.1 272 = .ok (.aload_n 1, 1) := by decide +kernel
theorem gd_L_law_273 : decode F_L_law.2.1 273 = .ok (.aload_n 0, 1) := by decide +kernel
theorem gd_L_law_274 : decode F_L_law.2.1 274 = .ok (.iload 4, 2) := by decide +kernel
theorem gd_L_law_276 : decode F_L_law.2.1 276 = .ok (.iconst 1, 1) := by decide +kernel
theorem gd_L_law_277 : decode F_L_law.2.1 277 = .ok (.iadd, 1) := by decide +kernel
theorem gd_L_law_278 : decode F_L_law.2.1 278 = .ok (.iaload, 1) := by decide +kernel
theorem gd_L_law_279 : decode F_L_law.2.1 279 = .ok (.aload_n 0, 1) := by decide +kernel
theorem gd_L_law_280 : decode F_L_law.2.1 280 = .ok (.iload 4, 2) := by decide +kernel
theorem gd_L_law_282 : decode F_L_law.2.1 282 = .ok (.iconst 2, 1) := by decide +kernel
theorem gd_L_law_283 : decode F_L_law.2.1 283 = .ok (.iadd, 1) := by decide +kernel
theorem gd_L_law_284 : decode F_L_law.2.1 284 = .ok (.iaload, 1) := by decide +kernel
theorem gd_L_law_285 : decode F_L_law.2.1 285 = .ok (.aload_n 0, 1) := by decide +kernel
theorem gd_L_law_286 : decode F_L_law.2.1 286 = .ok (.iload 4, 2) := by decide +kernel
theorem gd_L_law_288 : decode F_L_law.2.1 288 = .ok (.iconst 3, 1) := by decide +kernel
theorem gd_L_law_289 : decode F_L_law.2.1 289 = .ok (.iadd, 1) := by decide +kernel
theorem gd_L_law_290 : decode F_L_law.2.1 290 = .ok (.iaload, 1) := by decide +kernel
theorem gd_L_law_291 : decode F_L_law.2.1 291 = .ok (.aload_n 0, 1) := by decide +kernel
theorem gd_L_law_292 : decode F_L_law.2.1 292 = .ok (.iload 4, 2) := by decide +kernel
theorem gd_L_law_294 : decode F_L_law.2.1 294 = .ok (.iconst 4, 1) := by decide +kernel
theorem gd_L_law_295 : decode F_L_law.2.1 295 = .ok (.iadd, 1) := by decide +kernel
theorem gd_L_law_296 : decode F_L_law.2.1 296 = .ok (.iaload, 1) := by decide +kernel
theorem gd_L_law_297 : decode F_L_law.2.1 297 = .ok (.aload_n 3, 1) := by decide +kernel
theorem gd_L_law_298 : decode F_L_law.2.1 298 = .ok (.invokestatic 103, 3) := by decide +kernel
theorem gd_L_law_301 : decode F_L_law.2.1 301 = .ok (.istore 5, 2) := by decide +kernel
theorem gd_L_law_303 : decode F_L_law.2.1 303 = .ok (.aload_n 2, 1) := by decide +kernel
theorem gd_L_law_304 : decode F_L_law.2.1 304 = .ok (.aload_n 0, 1) := by decide +kernel
theorem gd_L_law_305 : decode F_L_law.2.1 305 = .ok (.iload 4, 2) := by decide +kernel
theorem gd_L_law_307 : decode F_L_law.2.1 307 = .ok (.iconst 1, 1) := by decide +kernel
theorem gd_L_law_308 : decode F_L_law.2.1 308 = .ok (.iadd, 1) := by decide +kernel
theorem gd_L_law_309 : decode F_L_law.2.1 309 = .ok (.iaload, 1) := by decide +kernel
theorem gd_L_law_310 : decode F_L_law.2.1 310 = .ok (.aload_n 0, 1) := by decide +kernel
theorem gd_L_law_311 : decode F_L_law.2.1 311 = .ok (.iload 4, 2) := by decide +kernel
theorem gd_L_law_313 : decode F_L_law.2.1 313 = .ok (.iconst 2, 1) := by decide +kernel
theorem gd_L_law_314 : decode F_L_law.2.1 314 = .ok (.iadd, 1) := by decide +kernel
theorem gd_L_law_315 : decode F_L_law.2.1 315 = .ok (.iaload, 1) := by decide +kernel
theorem gd_L_law_316 : decode F_L_law.2.1 316 = .ok (.aload_n 0, 1) := by decide +kernel
theorem gd_L_law_317 : decode F_L_law.2.1 317 = .ok (.iload 4, 2) := by decide +kernel
theorem gd_L_law_319 : decode F_L_law.2.1 319 = .ok (.iconst 3, 1) := by decide +kernel
theorem gd_L_law_320 : decode F_L_law.2.1 320 = .ok (.iadd, 1) := by decide +kernel
theorem gd_L_law_321 : decode F_L_law.2.1 321 = .ok (.iaload, 1) := by decide +kernel
theorem gd_L_law_322 : decode F_L_law.2.1 322 = .ok (.aload_n 0, 1) := by decide +kernel
theorem gd_L_law_323 : decode F_L_law.2.1 323 = .ok (.iload 4, 2) := by decide +kernel
theorem gd_L_law_325 : decode F_L_law.2.1 325 = .ok (.iconst 4, 1) := by decide +kernel
theorem gd_L_law_326 : decode F_L_law.2.1 326 = .ok (.iadd, 1) := by decide +kernel
theorem gd_L_law_327 : decode F_L_law.2.1 327 = .ok (.iaload, 1) := by decide +kernel
theorem gd_L_law_328 : decode F_L_law.2.1 328 = .ok (.invokevirtual 106, 3) := by decide +kernel
theorem gd_L_law_331 : decode F_L_law.2.1 331 = .ok (.istore 6, 2) := by decide +kernel
theorem gd_L_law_333 : decode F_L_law.2.1 333 = .ok (.aload_n 2, 1) := by decide +kernel
theorem gd_L_law_334 : decode F_L_law.2.1 334 = .ok (.invokevirtual 95, 3) := by decide +kernel
theorem gd_L_law_337 : decode F_L_law.2.1 337 = .ok (.iload 5, 2) := by decide +kernel
theorem gd_L_law_339 : decode F_L_law.2.1 339 = .ok (.if_icmp .eq 5, 3) := by decide +kernel
theorem gd_L_law_342 : decode F_L_law.2.1 342 = .ok (.iconst 0, 1) := by decide +kernel
theorem gd_L_law_343 : decode F_L_law.2.1 343 = .ok (.ireturn, 1) := by decide +kernel
theorem gd_L_law_344 : decode F_L_law.2.1 344 = .ok (.iload 5, 2) := by decide +kernel
theorem gd_L_law_346 : decode F_L_law.2.1 346 = .ok (.ifCond .ne 15, 3) := by decide +kernel
theorem gd_L_law_349 : decode F_L_law.2.1 349 = .ok (.aload_n 3, 1) := by decide +kernel
theorem gd_L_law_350 : decode F_L_law.2.1 350 = .ok (.iconst 0, 1) := by decide +kernel
theorem gd_L_law_351 : decode F_L_law.2.1 351 = .ok (.laload, 1) := by decide +kernel
theorem gd_L_law_352 : decode F_L_law.2.1 352 = .ok (.iload 6, 2) := by decide +kernel
theorem gd_L_law_354 : decode F_L_law.2.1 354 = .ok (.i2l, 1) := by decide +kernel
theorem gd_L_law_355 : decode F_L_law.2.1 355 = .ok (.lcmp, 1) := by decide +kernel
theorem gd_L_law_356 : decode F_L_law.2.1 356 = .ok (.ifCond .eq 5, 3) := by decide +kernel
theorem gd_L_law_359 : decode F_L_law.2.1 359 = .ok (.iconst 0, 1) := by decide +kernel
theorem gd_L_law_360 : decode F_L_law.2.1 360 = .ok (.ireturn, 1) := by decide +kernel
theorem gd_L_law_361 : decode F_L_law.2.1 361 = .ok (.goto 1150, 3) := by decide +kernel
theorem gd_L_law_364 : decode F_L_law.2.1 364 = .ok (.aload_n 1, 1) := by decide +kernel
theorem gd_L_law_365 : decode F_L_law.2.1 365 = .ok (.aload_n 0, 1) := by decide +kernel
theorem gd_L_law_366 : decode F_L_law.2.1 366 = .ok (.iload 4, 2) := by decide +kernel
theorem gd_L_law_368 : decode F_L_law.2.1 368 = .ok (.iconst 1, 1) := by decide +kernel
theorem gd_L_law_369 : decode F_L_law.2.1 369 = .ok (.iadd, 1) := by decide +kernel
theorem gd_L_law_370 : decode F_L_law.2.1 370 = .ok (.iaload, 1) := by decide +kernel
theorem gd_L_law_371 : decode F_L_law.2.1 371 = .ok (.aload_n 0, 1) := by decide +kernel
theorem gd_L_law_372 : decode F_L_law.2.1 372 = .ok (.iload 4, 2) := by decide +kernel
theorem gd_L_law_374 : decode F_L_law.2.1 374 = .ok (.iconst 2, 1) := by decide +kernel
theorem gd_L_law_375 : decode F_L_law.2.1 375 = .ok (.iadd, 1) := by decide +kernel
theorem gd_L_law_376 : decode F_L_law.2.1 376 = .ok (.iaload, 1) := by decide +kernel
theorem gd_L_law_377 : decode F_L_law.2.1 377 = .ok (.aload_n 3, 1) := by decide +kernel
theorem gd_L_law_378 : decode F_L_law.2.1 378 = .ok (.invokestatic 107, 3) := by decide +kernel
theorem gd_L_law_381 : decode F_L_law.2.1 381 = .ok (.istore 5, 2) := by decide +kernel
theorem gd_L_law_383 : decode F_L_law.2.1 383 = .ok (.aload_n 2, 1) := by decide +kernel
theorem gd_L_law_384 : decode F_L_law.2.1 384 = .ok (.aload_n 0, 1) := by decide +kernel
theorem gd_L_law_385 : decode F_L_law.2.1 385 = .ok (.iload 4, 2) := by decide +kernel
theorem gd_L_law_387 : decode F_L_law.2.1 387 = .ok (.iconst 1, 1) := by decide +kernel
theorem gd_L_law_388 : decode F_L_law.2.1 388 = .ok (.iadd, 1) := by decide +kernel
theorem gd_L_law_389 : decode F_L_law.2.1 389 = .ok (.iaload, 1) := by decide +kernel
theorem gd_L_law_390 : decode F_L_law.2.1 390 = .ok (.aload_n 0, 1) := by decide +kernel
theorem gd_L_law_391 : decode F_L_law.2.1 391 = .ok (.iload 4, 2) := by decide +kernel
theorem gd_L_law_393 : decode F_L_law.2.1 393 = .ok (.iconst 2, 1) := by decide +kernel
theorem gd_L_law_394 : decode F_L_law.2.1 394 = .ok (.iadd, 1) := by decide +kernel
theorem gd_L_law_395 : decode F_L_law.2.1 395 = .ok (.iaload, 1) := by decide +kernel
theorem gd_L_law_396 : decode F_L_law.2.1 396 = .ok (.invokevirtual 109, 3) := by decide +kernel
theorem gd_L_law_399 : decode F_L_law.2.1 399 = .ok (.istore 6, 2) := by decide +kernel
theorem gd_L_law_401 : decode F_L_law.2.1 401 = .ok (.aload_n 2, 1) := by decide +kernel
theorem gd_L_law_402 : decode F_L_law.2.1 402 = .ok (.invokevirtual 95, 3) := by decide +kernel
theorem gd_L_law_405 : decode F_L_law.2.1 405 = .ok (.iload 5, 2) := by decide +kernel
theorem gd_L_law_407 : decode F_L_law.2.1 407 = .ok (.if_icmp .eq 5, 3) := by decide +kernel
theorem gd_L_law_410 : decode F_L_law.2.1 410 = .ok (.iconst 0, 1) := by decide +kernel
theorem gd_L_law_411 : decode F_L_law.2.1 411 = .ok (.ireturn, 1) := by decide +kernel
theorem gd_L_law_412 : decode F_L_law.2.1 412 = .ok (.iload 5, 2) := by decide +kernel
theorem gd_L_law_414 : decode F_L_law.2.1 414 = .ok (.ifCond .ne 15, 3) := by decide +kernel
theorem gd_L_law_417 : decode F_L_law.2.1 417 = .ok (.aload_n 3, 1) := by decide +kernel
theorem gd_L_law_418 : decode F_L_law.2.1 418 = .ok (.iconst 0, 1) := by decide +kernel
theorem gd_L_law_419 : decode F_L_law.2.1 419 = .ok (.laload, 1) := by decide +kernel
theorem gd_L_law_420 : decode F_L_law.2.1 420 = .ok (.iload 6, 2) := by decide +kernel
theorem gd_L_law_422 : decode F_L_law.2.1 422 = .ok (.i2l, 1) := by decide +kernel
theorem gd_L_law_423 : decode F_L_law.2.1 423 = .ok (.lcmp, 1) := by decide +kernel
theorem gd_L_law_424 : decode F_L_law.2.1 424 = .ok (.ifCond .eq 5, 3) := by decide +kernel
theorem gd_L_law_427 : decode F_L_law.2.1 427 = .ok (.iconst 0, 1) := by decide +kernel
theorem gd_L_law_428 : decode F_L_law.2.1 428 = .ok (.ireturn, 1) := by decide +kernel
theorem gd_L_law_429 : decode F_L_law.2.1 429 = .ok (.goto 1082, 3) := by decide +kernel
theorem gd_L_law_432 : decode F_L_law.2.1 432 = .ok (.aload_n 1, 1) := by decide +kernel
theorem gd_L_law_433 : decode F_L_law.2.1 433 = .ok (.aload_n 0, 1) := by decide +kernel
theorem gd_L_law_434 : decode F_L_law.2.1 434 = .ok (.iload 4, 2) := by decide +kernel
theorem gd_L_law_436 : decode F_L_law.2.1 436 = .ok (.iconst 1, 1) := by decide +kernel
theorem gd_L_law_437 : decode F_L_law.2.1 437 = .ok (.iadd, 1) := by decide +kernel
theorem gd_L_law_438 : decode F_L_law.2.1 438 = .ok (.iaload, 1) := by decide +kernel
theorem gd_L_law_439 : decode F_L_law.2.1 439 = .ok (.aload_n 3, 1) := by decide +kernel
theorem gd_L_law_440 : decode F_L_law.2.1 440 = .ok (.invokestatic 110, 3) := by decide +kernel
theorem gd_L_law_443 : decode F_L_law.2.1 443 = .ok (.istore 5, 2) := by decide +kernel
