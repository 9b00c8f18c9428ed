/-! THE LAW: its bytes, row by row -/
abbrev mL_law : rk_M := (⟨"TensorForgeLaw", "law", "([I)Z"⟩, code, 9, some .boolean, [])
theorem dL_law_0 : decode mL_law.2.1 0 = .ok (.new 8, 3) := by decide +kernel
theorem dL_law_3 : decode mL_law.2.1 3 = .ok (.dup, 1) := by decide +kernel
theorem dL_law_4 : decode mL_law.2.1 4 = .ok (.invokespecial 90, 3) := by decide +kernel
theorem dL_law_7 : decode mL_law.2.1 7 = .ok (.astore_n 1, 1) := by decide +kernel
theorem dL_law_8 : decode mL_law.2.1 8 = .ok (.new 91, 3) := by decide +kernel
theorem dL_law_11 : decode mL_law.2.1 11 = .ok (.dup, 1) := by decide +kernel
theorem dL_law_12 : decode mL_law.2.1 12 = .ok (.invokespecial 93, 3) := by decide +kernel
theorem dL_law_15 : decode mL_law.2.1 15 = .ok (.astore_n 2, 1) := by decide +kernel
theorem dL_law_16 : decode mL_law.2.1 16 = .ok (.iconst 1, 1) := by decide +kernel
theorem dL_law_17 : decode mL_law.2.1 17 = .ok (.newarray .long, 2) := by decide +kernel
theorem dL_law_19 : decode mL_law.2.1 19 = .ok (.astore_n 3, 1) := by decide +kernel
theorem dL_law_20 : decode mL_law.2.1 20 = .ok (.iconst 1, 1) := by decide +kernel
theorem dL_law_21 : decode mL_law.2.1 21 = .ok (.newarray .double, 2) := by decide +kernel
theorem dL_law_23 : decode mL_law.2.1 23 = .ok (.astore 4, 2) := by decide +kernel
theorem dL_law_25 : decode mL_law.2.1 25 = .ok (.iconst 0, 1) := by decide +kernel
theorem dL_law_26 : decode mL_law.2.1 26 = .ok (.istore 5, 2) := by decide +kernel
theorem dL_law_28 : decode mL_law.2.1 28 = .ok (.iload 5, 2) := by decide +kernel
theorem dL_law_30 : decode mL_law.2.1 30 = .ok (.aload_n 0, 1) := by decide +kernel
theorem dL_law_31 : decode mL_law.2.1 31 = .ok (.arraylength, 1) := by decide +kernel
theorem dL_law_32 : decode mL_law.2.1 32 = .ok (.bipush 6, 2) := by decide +kernel
theorem dL_law_34 : decode mL_law.2.1 34 = .ok (.isub, 1) := by decide +kernel
theorem dL_law_35 : decode mL_law.2.1 35 = .ok (.if_icmp .gt 1604, 3) := by decide +kernel
theorem dL_law_38 : decode mL_law.2.1 38 = .ok (.aload_n 0, 1) := by decide +kernel
theorem dL_law_39 : decode mL_law.2.1 39 = .ok (.iload 5, 2) := by decide +kernel
theorem dL_law_41 : decode mL_law.2.1 41 = .ok (.iaload, 1) := by decide +kernel
theorem dL_law_42 : decode mL_law.2.1 42 = .ok (.bipush 31, 2) := by decide +kernel
theorem dL_law_44 : decode mL_law.2.1 44 = .ok (.iand, 1) := by decide +kernel
theorem dL_law_45 : decode mL_law.2.1 45 = .ok (.tableswitch 1588 0 18 #[91, 191, 237, 339, 469, 571, 661, 729, 821, 917, 997, 1075, 1131, 1175, 1287, 1343, 1399, 1476, 1544], 91) := by decide +kernel
theorem dL_law_136 : decode mL_law.2.1 136 = .ok (.aload_n 1, 1) := by decide +kernel
theorem dL_law_137 : decode mL_law.2.1 137 = .ok (.aload_n 0, 1) := by decide +kernel
theorem dL_law_138 : decode mL_law.2.1 138 = .ok (.iload 5, 2) := by decide +kernel
theorem dL_law_140 : decode mL_law.2.1 140 = .ok (.iconst 1, 1) := by decide +kernel
theorem dL_law_141 : decode mL_law.2.1 141 = .ok (.iadd, 1) := by decide +kernel
theorem dL_law_142 : decode mL_law.2.1 142 = .ok (.iaload, 1) := by decide +kernel
theorem dL_law_143 : decode mL_law.2.1 143 = .ok (.aload_n 0, 1) := by decide +kernel
theorem dL_law_144 : decode mL_law.2.1 144 = .ok (.iload 5, 2) := by decide +kernel
theorem dL_law_146 : decode mL_law.2.1 146 = .ok (.iconst 2, 1) := by decide +kernel
theorem dL_law_147 : decode mL_law.2.1 147 = .ok (.iadd, 1) := by decide +kernel
theorem dL_law_148 : decode mL_law.2.1 148 = .ok (.iaload, 1) := by decide +kernel
theorem dL_law_149 : decode mL_law.2.1 149 = .ok (.i2l, 1) := by decide +kernel
theorem dL_law_150 : decode mL_law.2.1 150 = .ok (.bipush 32, 2) := by decide +kernel
theorem dL_law_152 : decode mL_law.2.1 152 = .ok (.lshl, 1) := by decide +kernel
theorem dL_law_153 : decode mL_law.2.1 153 = .ok (.aload_n 0, 1) := by decide +kernel
theorem dL_law_154 : decode mL_law.2.1 154 = .ok (.iload 5, 2) := by decide +kernel
theorem dL_law_156 : decode mL_law.2.1 156 = .ok (.iconst 3, 1) := by decide +kernel
theorem dL_law_157 : decode mL_law.2.1 157 = .ok (.iadd, 1) := by decide +kernel
theorem dL_law_158 : decode mL_law.2.1 158 = .ok (.iaload, 1) := by decide +kernel
theorem dL_law_159 : decode mL_law.2.1 159 = .ok (.i2l, 1) := by decide +kernel
theorem dL_law_160 : decode mL_law.2.1 160 = .ok (.ldc2_w 94, 3) := by decide +kernel
theorem dL_law_163 : decode mL_law.2.1 163 = .ok (.land, 1) := by decide +kernel
theorem dL_law_164 : decode mL_law.2.1 164 = .ok (.lor, 1) := by decide +kernel
theorem dL_law_165 : decode mL_law.2.1 165 = .ok (.aload_n 3, 1) := by decide +kernel
theorem dL_law_166 : decode mL_law.2.1 166 = .ok (.invokestatic 96, 3) := by decide +kernel
theorem dL_law_169 : decode mL_law.2.1 169 = .ok (.istore 6, 2) := by decide +kernel
theorem dL_law_171 : decode mL_law.2.1 171 = .ok (.aload_n 2, 1) := by decide +kernel
theorem dL_law_172 : decode mL_law.2.1 172 = .ok (.aload_n 0, 1) := by decide +kernel
theorem dL_law_173 : decode mL_law.2.1 173 = .ok (.iload 5, 2) := by decide +kernel
theorem dL_law_175 : decode mL_law.2.1 175 = .ok (.iconst 1, 1) := by decide +kernel
theorem dL_law_176 : decode mL_law.2.1 176 = .ok (.iadd, 1) := by decide +kernel
theorem dL_law_177 : decode mL_law.2.1 177 = .ok (.iaload, 1) := by decide +kernel
theorem dL_law_178 : decode mL_law.2.1 178 = .ok (.aload_n 0, 1) := by decide +kernel
theorem dL_law_179 : decode mL_law.2.1 179 = .ok (.iload 5, 2) := by decide +kernel
theorem dL_law_181 : decode mL_law.2.1 181 = .ok (.iconst 2, 1) := by decide +kernel
theorem dL_law_182 : decode mL_law.2.1 182 = .ok (.iadd, 1) := by decide +kernel
theorem dL_law_183 : decode mL_law.2.1 183 = .ok (.iaload, 1) := by decide +kernel
theorem dL_law_184 : decode mL_law.2.1 184 = .ok (.i2l, 1) := by decide +kernel
theorem dL_law_185 : decode mL_law.2.1 185 = .ok (.bipush 32, 2) := by decide +kernel
theorem dL_law_187 : decode mL_law.2.1 187 = .ok (.lshl, 1) := by decide +kernel
theorem dL_law_188 : decode mL_law.2.1 188 = .ok (.aload_n 0, 1) := by decide +kernel
theorem dL_law_189 : decode mL_law.2.1 189 = .ok (.iload 5, 2) := by decide +kernel
theorem dL_law_191 : decode mL_law.2.1 191 = .ok (.iconst 3, 1) := by decide +kernel
theorem dL_law_192 : decode mL_law.2.1 192 = .ok (.iadd, 1) := by decide +kernel
theorem dL_law_193 : decode mL_law.2.1 193 = .ok (.iaload, 1) := by decide +kernel
theorem dL_law_194 : decode mL_law.2.1 194 = .ok (.i2l, 1) := by decide +kernel
theorem dL_law_195 : decode mL_law.2.1 195 = .ok (.ldc2_w 94, 3) := by decide +kernel
theorem dL_law_198 : decode mL_law.2.1 198 = .ok (.land, 1) := by decide +kernel
theorem dL_law_199 : decode mL_law.2.1 199 = .ok (.lor, 1) := by decide +kernel
theorem dL_law_200 : decode mL_law.2.1 200 = .ok (.invokevirtual 101, 3) := by decide +kernel
theorem dL_law_203 : decode mL_law.2.1 203 = .ok (.istore 7, 2) := by decide +kernel
theorem dL_law_205 : decode mL_law.2.1 205 = .ok (.aload_n 2, 1) := by decide +kernel
theorem dL_law_206 : decode mL_law.2.1 206 = .ok (.invokevirtual 102, 3) := by decide +kernel
theorem dL_law_209 : decode mL_law.2.1 209 = .ok (.iload 6, 2) := by decide +kernel
theorem dL_law_211 : decode mL_law.2.1 211 = .ok (.if_icmp .eq 5, 3) := by decide +kernel
theorem dL_law_214 : decode mL_law.2.1 214 = .ok (.iconst 0, 1) := by decide +kernel
theorem dL_law_215 : decode mL_law.2.1 215 = .ok (.ireturn, 1) := by decide +kernel
theorem dL_law_216 : decode mL_law.2.1 216 = .ok (.iload 6, 2) := by decide +kernel
theorem dL_law_218 : decode mL_law.2.1 218 = .ok (.ifCond .ne 15, 3) := by decide +kernel
theorem dL_law_221 : decode mL_law.2.1 221 = .ok (.aload_n 3, 1) := by decide +kernel
theorem dL_law_222 : decode mL_law.2.1 222 = .ok (.iconst 0, 1) := by decide +kernel
theorem dL_law_223 : decode mL_law.2.1 223 = .ok (.laload, 1) := by decide +kernel
theorem dL_law_224 : decode mL_law.2.1 224 = .ok (.iload 7, 2) := by decide +kernel
theorem dL_law_226 : decode mL_law.2.1 226 = .ok (.i2l, 1) := by decide +kernel
theorem dL_law_227 : decode mL_law.2.1 227 = .ok (.lcmp, 1) := by decide +kernel
theorem dL_law_228 : decode mL_law.2.1 228 = .ok (.ifCond .eq 5, 3) := by decide +kernel
theorem dL_law_231 : decode mL_law.2.1 231 = .ok (.iconst 0, 1) := by decide +kernel
theorem dL_law_232 : decode mL_law.2.1 232 = .ok (.ireturn, 1) := by decide +kernel
theorem dL_law_233 : decode mL_law.2.1 233 = .ok (.goto 1400, 3) := by decide +kernel
theorem dL_law_236 : decode mL_law.2.1 236 = .ok (.aload_n 1, 1) := by decide +kernel
theorem dL_law_237 : decode mL_law.2.1 237 = .ok (.aload_n 0, 1) := by decide +kernel
theorem dL_law_238 : decode mL_law.2.1 238 = .ok (.iload 5, 2) := by decide +kernel
theorem dL_law_240 : decode mL_law.2.1 240 = .ok (.iconst 1, 1) := by decide +kernel
theorem dL_law_241 : decode mL_law.2.1 241 = .ok (.iadd, 1) := by decide +kernel
theorem dL_law_242 : decode mL_law.2.1 242 = .ok (.iaload, 1) := by decide +kernel
theorem dL_law_243 : decode mL_law.2.1 243 = .ok (.i2d, 1) := by decide +kernel
theorem dL_law_244 : decode mL_law.2.1 244 = .ok (.ldc2_w 105, 3) := by decide +kernel
theorem dL_law_247 : decode mL_law.2.1 247 = .ok (.dmul, 1) := by decide +kernel
theorem dL_law_248 : decode mL_law.2.1 248 = .ok (.invokestatic 107, 3) := by decide +kernel
theorem dL_law_251 : decode mL_law.2.1 251 = .ok (.istore 6, 2) := by decide +kernel
theorem dL_law_253 : decode mL_law.2.1 253 = .ok (.aload_n 2, 1) := by decide +kernel
theorem dL_law_254 : decode mL_law.2.1 254 = .ok (.aload_n 0, 1) := by decide +kernel
theorem dL_law_255 : decode mL_law.2.1 255 = .ok (.iload 5, 2) := by decide +kernel
theorem dL_law_257 : decode mL_law.2.1 257 = .ok (.iconst 1, 1) := by decide +kernel
theorem dL_law_258 : decode mL_law.2.1 258 = .ok (.iadd, 1) := by decide +kernel
theorem dL_law_259 : decode mL_law.2.1 259 = .ok (.iaload, 1) := by decide +kernel
theorem dL_law_260 : decode mL_law.2.1 260 = .ok (.i2d, 1) := by decide +kernel
theorem dL_law_261 : decode mL_law.2.1 261 = .ok (.ldc2_w 105, 3) := by decide +kernel
theorem dL_law_264 : decode mL_law.2.1 264 = .ok (.dmul, 1) := by decide +kernel
theorem dL_law_265 : decode mL_law.2.1 265 = .ok (.invokevirtual 110, 3) := by decide +kernel
theorem dL_law_268 : decode mL_law.2.1 268 = .ok (.aload_n 2, 1) := by decide +kernel
theorem dL_law_269 : decode mL_law.2.1 269 = .ok (.invokevirtual 102, 3) := by decide +kernel
theorem dL_law_272 : decode mL_law.2.1 272 = .ok (.iload 6, 2) := by decide +kernel
theorem dL_law_274 : decode mL_law.2.1 274 = .ok (.if_icmp .eq 5, 3) := by decide +kernel
theorem dL_law_277 : decode mL_law.2.1 277 = .ok (.iconst 0, 1) := by decide +kernel
theorem dL_law_278 : decode mL_law.2.1 278 = .ok (.ireturn, 1) := by decide +kernel
theorem dL_law_279 : decode mL_law.2.1 279 = .ok (.goto 1354, 3) := by decide +kernel
theorem dL_law_282 : decode mL_law.2.1 282 = .ok (.aload_n 1, 1) := by decide +kernel
theorem dL_law_283 : decode mL_law.2.1 283 = .ok (.aload_n 0, 1) := by decide +kernel
theorem dL_law_284 : decode mL_law.2.1 284 = .ok (.iload 5, 2) := by decide +kernel
theorem dL_law_286 : decode mL_law.2.1 286 = .ok (.iconst 1, 1) := by decide +kernel
theorem dL_law_287 : decode mL_law.2.1 287 = .ok (.iadd, 1) := by decide +kernel
theorem dL_law_288 : decode mL_law.2.1 288 = .ok (.iaload, 1) := by decide +kernel
theorem dL_law_289 : decode mL_law.2.1 289 = .ok (.aload_n 0, 1) := by decide +kernel
theorem dL_law_290 : decode mL_law.2.1 290 = .ok (.iload 5, 2) := by decide +kernel
theorem dL_law_292 : decode mL_law.2.1 292 = .ok (.iconst 2, 1) := by decide +kernel
theorem dL_law_293 : decode mL_law.2.1 293 = .ok (.iadd, 1) := by decide +kernel
theorem dL_law_294 : decode mL_law.2.1 294 = .ok (.iaload, 1) := by decide +kernel
theorem dL_law_295 : decode mL_law.2.1 295 = .ok (.aload_n 0, 1) := by decide +kernel
theorem dL_law_296 : decode mL_law.2.1 296 = .ok (.iload 5, 2) := by decide +kernel
theorem dL_law_298 : decode mL_law.2.1 298 = .ok (.iconst 3, 1) := by decide +kernel
theorem dL_law_299 : decode mL_law.2.1 299 = .ok (.iadd, 1) := by decide +kernel
theorem dL_law_300 : decode mL_law.2.1 300 = .ok (.iaload, 1) := by decide +kernel
theorem dL_law_301 : decode mL_law.2.1 301 = .ok (.aload_n 0, 1) := by decide +kernel
theorem dL_law_302 : decode mL_law.2.1 302 = .ok (.iload 5, 2) := by decide +kernel
theorem dL_law_304 : decode mL_law.2.1 304 = .ok (.iconst 4, 1) := by decide +kernel
theorem dL_law_305 : decode mL_law.2.1 305 = .ok (.iadd, 1) := by decide +kernel
theorem dL_law_306 : decode mL_law.2.1 306 = .ok (.iaload, 1) := by decide +kernel
theorem dL_law_307 : decode mL_law.2.1 307 = .ok (.i2d, 1) := by decide +kernel
theorem dL_law_308 : decode mL_law.2.1 308 = .ok (.ldc2_w 105, 3) := by decide +kernel
theorem dL_law_311 : decode mL_law.2.1 311 = .ok (.dmul, 1) := by decide +kernel
theorem dL_law_312 : decode mL_law.2.1 312 = .ok (.aload_n 3, 1) := by decide +kernel
theorem dL_law_313 : decode mL_law.2.1 313 = .ok (.invokestatic 111, 3) := by decide +kernel
theorem dL_law_316 : decode mL_law.2.1 316 = .ok (.istore 6, 2) := by decide +kernel
theorem dL_law_318 : decode mL_law.2.1 318 = .ok (.aload_n 2, 1) := by decide +kernel
theorem dL_law_319 : decode mL_law.2.1 319 = .ok (.aload_n 0, 1) := by decide +kernel
theorem dL_law_320 : decode mL_law.2.1 320 = .ok (.iload 5, 2) := by decide +kernel
theorem dL_law_322 : decode mL_law.2.1 322 = .ok (.iconst 1, 1) := by decide +kernel
theorem dL_law_323 : decode mL_law.2.1 323 = .ok (.iadd, 1) := by decide +kernel
theorem dL_law_324 : decode mL_law.2.1 324 = .ok (.iaload, 1) := by decide +kernel
theorem dL_law_325 : decode mL_law.2.1 325 = .ok (.aload_n 0, 1) := by decide +kernel
theorem dL_law_326 : decode mL_law.2.1 326 = .ok (.iload 5, 2) := by decide +kernel
theorem dL_law_328 : decode mL_law.2.1 328 = .ok (.iconst 2, 1) := by decide +kernel
theorem dL_law_329 : decode mL_law.2.1 329 = .ok (.iadd, 1) := by decide +kernel
theorem dL_law_330 : decode mL_law.2.1 330 = .ok (.iaload, 1) := by decide +kernel
theorem dL_law_331 : decode mL_law.2.1 331 = .ok (.aload_n 0, 1) := by decide +kernel
theorem dL_law_332 : decode mL_law.2.1 332 = .ok (.iload 5, 2) := by decide +kernel
theorem dL_law_334 : decode mL_law.2.1 334 = .ok (.iconst 3, 1) := by decide +kernel
theorem dL_law_335 : decode mL_law.2.1 335 = .ok (.iadd, 1) := by decide +kernel
theorem dL_law_336 : decode mL_law.2.1 336 = .ok (.iaload, 1) := by decide +kernel
theorem dL_law_337 : decode mL_law.2.1 337 = .ok (.aload_n 0, 1) := by decide +kernel
theorem dL_law_338 : decode mL_law.2.1 338 = .ok (.iload 5, 2) := by decide +kernel
theorem dL_law_340 : decode mL_law.2.1 340 = .ok (.iconst 4, 1) := by decide +kernel
theorem dL_law_341 : decode mL_law.2.1 341 = .ok (.iadd, 1) := by decide +kernel
theorem dL_law_342 : decode mL_law.2.1 342 = .ok (.iaload, 1) := by decide +kernel
theorem dL_law_343 : decode mL_law.2.1 343 = .ok (.i2d, 1) := by decide +kernel
theorem dL_law_344 : decode mL_law.2.1 344 = .ok (.ldc2_w 105, 3) := by decide +kernel
theorem dL_law_347 : decode mL_law.2.1 347 = .ok (.dmul, 1) := by decide +kernel
theorem dL_law_348 : decode mL_law.2.1 348 = .ok (.invokevirtual 114, 3) := by decide +kernel
theorem dL_law_351 : decode mL_law.2.1 351 = .ok (.istore 7, 2) := by decide +kernel
theorem dL_law_353 : decode mL_law.2.1 353 = .ok (.aload_n 2, 1) := by decide +kernel
theorem dL_law_354 : decode mL_law.2.1 354 = .ok (.invokevirtual 102, 3) := by decide +kernel
theorem dL_law_357 : decode mL_law.2.1 357 = .ok (.iload 6, 2) := by decide +kernel
theorem dL_law_359 : decode mL_law.2.1 359 = .ok (.if_icmp .eq 5, 3) := by decide +kernel
theorem dL_law_362 : decode mL_law.2.1 362 = .ok (.iconst 0, 1) := by decide +kernel
theorem dL_law_363 : decode mL_law.2.1 363 = .ok (.ireturn, 1) := by decide +kernel
theorem dL_law_364 : decode mL_law.2.1 364 = .ok (.iload 6, 2) := by decide +kernel
theorem dL_law_366 : decode mL_law.2.1 366 = .ok (.ifCond .ne 15, 3) := by decide +kernel
theorem dL_law_369 : decode mL_law.2.1 369 = .ok (.aload_n 3, 1) := by decide +kernel
theorem dL_law_370 : decode mL_law.2.1 370 = .ok (.iconst 0, 1) := by decide +kernel
theorem dL_law_371 : decode mL_law.2.1 371 = .ok (.laload, 1) := by decide +kernel
theorem dL_law_372 : decode mL_law.2.1 372 = .ok (.iload 7, 2) := by decide +kernel
theorem dL_law_374 : decode mL_law.2.1 374 = .ok (.i2l, 1) := by decide +kernel
theorem dL_law_375 : decode mL_law.2.1 375 = .ok (.lcmp, 1) := by decide +kernel
theorem dL_law_376 : decode mL_law.2.1 376 = .ok (.ifCond .eq 5, 3) := by decide +kernel
theorem dL_law_379 : decode mL_law.2.1 379 = .ok (.iconst 0, 1) := by decide +kernel
theorem dL_law_380 : decode mL_law.2.1 380 = .ok (.ireturn, 1) := by decide +kernel
theorem dL_law_381 : decode mL_law.2.1 381 = .ok (.goto 1252, 3) := by decide +kernel
theorem dL_law_384 : decode mL_law.2.1 384 = .ok (.aload_n 1, 1) := by decide +kernel
theorem dL_law_385 : decode mL_law.2.1 385 = .ok (.aload_n 0, 1) := by decide +kernel
theorem dL_law_386 : decode mL_law.2.1 386 = .ok (.iload 5, 2) := by decide +kernel
theorem dL_law_388 : decode mL_law.2.1 388 = .ok (.iconst 1, 1) := by decide +kernel
theorem dL_law_389 : decode mL_law.2.1 389 = .ok (.iadd, 1) := by decide +kernel
theorem dL_law_390 : decode mL_law.2.1 390 = .ok (.iaload, 1) := by decide +kernel
theorem dL_law_391 : decode mL_law.2.1 391 = .ok (.aload_n 0, 1) := by decide +kernel
theorem dL_law_392 : decode mL_law.2.1 392 = .ok (.iload 5, 2) := by decide +kernel
theorem dL_law_394 : decode mL_law.2.1 394 = .ok (.iconst 2, 1) := by decide +kernel
theorem dL_law_395 : decode mL_law.2.1 395 = .ok (.iadd, 1) := by decide +kernel
theorem dL_law_396 : decode mL_law.2.1 396 = .ok (.iaload, 1) := by decide +kernel
theorem dL_law_397 : decode mL_law.2.1 397 = .ok (.aload_n 0, 1) := by decide +kernel
theorem dL_law_398 : decode mL_law.2.1 398 = .ok (.iload 5, 2) := by decide +kernel
theorem dL_law_400 : decode mL_law.2.1 400 = .ok (.iconst 3, 1) := by decide +kernel
theorem dL_law_401 : decode mL_law.2.1 401 = .ok (.iadd, 1) := by decide +kernel
theorem dL_law_402 : decode mL_law.2.1 402 = .ok (.iaload, 1) := by decide +kernel
theorem dL_law_403 : decode mL_law.2.1 403 = .ok (.ifCond .eq 7, 3) := by decide +kernel
theorem dL_law_406 : decode mL_law.2.1 406 = .ok (.iconst 1, 1) := by decide +kernel
theorem dL_law_407 : decode mL_law.2.1 407 = .ok (.goto 4, 3) := by decide +kernel
theorem dL_law_410 : decode mL_law.2.1 410 = .ok (.iconst 0, 1) := by decide +kernel
theorem dL_law_411 : decode mL_law.2.1 411 = .ok (.aload_n 0, 1) := by decide +kernel
theorem dL_law_412 : decode mL_law.2.1 412 = .ok (.iload 5, 2) := by decide +kernel
theorem dL_law_414 : decode mL_law.2.1 414 = .ok (.iconst 4, 1) := by decide +kernel
theorem dL_law_415 : decode mL_law.2.1 415 = .ok (.iadd, 1) := by decide +kernel
theorem dL_law_416 : decode mL_law.2.1 416 = .ok (.iaload, 1) := by decide +kernel
theorem dL_law_417 : decode mL_law.2.1 417 = .ok (.aload_n 0, 1) := by decide +kernel
theorem dL_law_418 : decode mL_law.2.1 418 = .ok (.iload 5, 2) := by decide +kernel
theorem dL_law_420 : decode mL_law.2.1 420 = .ok (.iconst 5, 1) := by decide +kernel
theorem dL_law_421 : decode mL_law.2.1 421 = .ok (.iadd, 1) := by decide +kernel
theorem dL_law_422 : decode mL_law.2.1 422 = .ok (.iaload, 1) := by decide +kernel
theorem dL_law_423 : decode mL_law.2.1 423 = .ok (.i2d, 1) := by decide +kernel
theorem dL_law_424 : decode mL_law.2.1 424 = .ok (.ldc2_w 105, 3) := by decide +kernel
theorem dL_law_427 : decode mL_law.2.1 427 = .ok (.dmul, 1) := by decide +kernel
theorem dL_law_428 : decode mL_law.2.1 428 = .ok (.aload_n 3, 1) := by decide +kernel
theorem dL_law_429 : decode mL_law.2.1 429 = .ok (.invokestatic 115, 3) := by decide +kernel
theorem dL_law_432 : decode mL_law.2.1 432 = .ok (.istore 6, 2) := by decide +kernel
theorem dL_law_434 : decode mL_law.2.1 434 = .ok (.aload_n 2, 1) := by decide +kernel
theorem dL_law_435 : decode mL_law.2.1 435 = .ok (.aload_n 0, 1) := by decide +kernel
theorem dL_law_436 : decode mL_law.2.1 436 = .ok (.iload 5, 2) := by decide +kernel
theorem dL_law_438 : decode mL_law.2.1 438 = .ok (.iconst 1, 1) := by decide +kernel
theorem dL_law_439 : decode mL_law.2.1 439 = .ok (.iadd, 1) := by decide +kernel
theorem dL_law_440 : decode mL_law.2.1 440 = .ok (.iaload, 1) := by decide +kernel
theorem dL_law_441 : decode mL_law.2.1 441 = .ok (.aload_n 0, 1) := by decide +kernel
theorem dL_law_442 : decode mL_law.2.1 442 = .ok (.iload 5, 2) := by decide +kernel
theorem dL_law_444 : decode mL_law.2.1 444 = .ok (.iconst 2, 1) := by decide +kernel
theorem dL_law_445 : decode mL_law.2.1 445 = .ok (.iadd, 1) := by decide +kernel
theorem dL_law_446 : decode mL_law.2.1 446 = .ok (.iaload, 1) := by decide +kernel
theorem dL_law_447 : decode mL_law.2.1 447 = .ok (.aload_n 0, 1) := by decide +kernel
theorem dL_law_448 : decode mL_law.2.1 448 = .ok (.iload 5, 2) := by decide +kernel
theorem dL_law_450 : decode mL_law.2.1 450 = .ok (.iconst 3, 1) := by decide +kernel
theorem dL_law_451 : decode mL_law.2.1 451 = .ok (.iadd, 1) := by decide +kernel
theorem dL_law_452 : decode mL_law.2.1 452 = .ok (.iaload, 1) := by decide +kernel
theorem dL_law_453 : decode mL_law.2.1 453 = .ok (.ifCond .eq 7, 3) := by decide +kernel
theorem dL_law_456 : decode mL_law.2.1 456 = .ok (.iconst 1, 1) := by decide +kernel
theorem dL_law_457 : decode mL_law.2.1 457 = .ok (.goto 4, 3) := by decide +kernel
theorem dL_law_460 : decode mL_law.2.1 460 = .ok (.iconst 0, 1) := by decide +kernel
theorem dL_law_461 : decode mL_law.2.1 461 = .ok (.aload_n 0, 1) := by decide +kernel
theorem dL_law_462 : decode mL_law.2.1 462 = .ok (.iload 5, 2) := by decide +kernel
theorem dL_law_464 : decode mL_law.2.1 464 = .ok (.iconst 4, 1) := by decide +kernel
theorem dL_law_465 : decode mL_law.2.1 465 = .ok (.iadd, 1) := by decide +kernel
theorem dL_law_466 : decode mL_law.2.1 466 = .ok (.iaload, 1) := by decide +kernel
theorem dL_law_467 : decode mL_law.2.1 467 = .ok (.aload_n 0, 1) := by decide +kernel
theorem dL_law_468 : decode mL_law.2.1 468 = .ok (.iload 5, 2) := by decide +kernel
theorem dL_law_470 : decode mL_law.2.1 470 = .ok (.iconst 5, 1) := by decide +kernel
theorem dL_law_471 : decode mL_law.2.1 471 = .ok (.iadd, 1) := by decide +kernel
theorem dL_law_472 : decode mL_law.2.1 472 = .ok (.iaload, 1) := by decide +kernel
theorem dL_law_473 : decode mL_law.2.1 473 = .ok (.i2d, 1) := by decide +kernel
theorem dL_law_474 : decode mL_law.2.1 474 = .ok (.ldc2_w 105, 3) := by decide +kernel
theorem dL_law_477 : decode mL_law.2.1 477 = .ok (.dmul, 1) := by decide +kernel
theorem dL_law_478 : decode mL_law.2.1 478 = .ok (.invokevirtual 118, 3) := by decide +kernel
theorem dL_law_481 : decode mL_law.2.1 481 = .ok (.istore 7, 2) := by decide +kernel
theorem dL_law_483 : decode mL_law.2.1 483 = .ok (.aload_n 2, 1) := by decide +kernel
theorem dL_law_484 : decode mL_law.2.1 484 = .ok (.invokevirtual 102, 3) := by decide +kernel
theorem dL_law_487 : decode mL_law.2.1 487 = .ok (.iload 6, 2) := by decide +kernel
theorem dL_law_489 : decode mL_law.2.1 489 = .ok (.if_icmp .eq 5, 3) := by decide +kernel
theorem dL_law_492 : decode mL_law.2.1 492 = .ok (.iconst 0, 1) := by decide +kernel
theorem dL_law_493 : decode mL_law.2.1 493 = .ok (.ireturn, 1) := by decide +kernel
theorem dL_law_494 : decode mL_law.2.1 494 = .ok (.iload 6, 2) := by decide +kernel
theorem dL_law_496 : decode mL_law.2.1 496 = .ok (.ifCond .ne 15, 3) := by decide +kernel
theorem dL_law_499 : decode mL_law.2.1 499 = .ok (.aload_n 3, 1) := by decide +kernel
theorem dL_law_500 : decode mL_law.2.1 500 = .ok (.iconst 0, 1) := by decide +kernel
theorem dL_law_501 : decode mL_law.2.1 501 = .ok (.laload, 1) := by decide +kernel
theorem dL_law_502 : decode mL_law.2.1 502 = .ok (.iload 7, 2) := by decide +kernel
theorem dL_law_504 : decode mL_law.2.1 504 = .ok (.i2l, 1) := by decide +kernel
theorem dL_law_505 : decode mL_law.2.1 505 = .ok (.lcmp, 1) := by decide +kernel
theorem dL_law_506 : decode mL_law.2.1 506 = .ok (.ifCond .eq 5, 3) := by decide +kernel
theorem dL_law_509 : decode mL_law.2.1 509 = .ok (.iconst 0, 1) := by decide +kernel
theorem dL_law_510 : decode mL_law.2.1 510 = .ok (.ireturn, 1) := by decide +kernel
theorem dL_law_511 : decode mL_law.2.1 511 = .ok (.goto 1122, 3) := by decide +kernel
theorem dL_law_514 : decode mL_law.2.1 514 = .ok (.aload_n 1, 1) := by decide +kernel
theorem dL_law_515 : decode mL_law.2.1 515 = .ok (.aload_n 0, 1) := by decide +kernel
theorem dL_law_516 : decode mL_law.2.1 516 = .ok (.iload 5, 2) := by decide +kernel
theorem dL_law_518 : decode mL_law.2.1 518 = .ok (.iconst 1, 1) := by decide +kernel
theorem dL_law_519 : decode mL_law.2.1 519 = .ok (.iadd, 1) := by decide +kernel
theorem dL_law_520 : decode mL_law.2.1 520 = .ok (.iaload, 1) := by decide +kernel
theorem dL_law_521 : decode mL_law.2.1 521 = .ok (.aload_n 0, 1) := by decide +kernel
theorem dL_law_522 : decode mL_law.2.1 522 = .ok (.iload 5, 2) := by decide +kernel
theorem dL_law_524 : decode mL_law.2.1 524 = .ok (.iconst 2, 1) := by decide +kernel
theorem dL_law_525 : decode mL_law.2.1 525 = .ok (.iadd, 1) := by decide +kernel
theorem dL_law_526 : decode mL_law.2.1 526 = .ok (.iaload, 1) := by decide +kernel
theorem dL_law_527 : decode mL_law.2.1 527 = .ok (.aload_n 0, 1) := by decide +kernel
theorem dL_law_528 : decode mL_law.2.1 528 = .ok (.iload 5, 2) := by decide +kernel
theorem dL_law_530 : decode mL_law.2.1 530 = .ok (.iconst 3, 1) := by decide +kernel
theorem dL_law_531 : decode mL_law.2.1 531 = .ok (.iadd, 1) := by decide +kernel
theorem dL_law_532 : decode mL_law.2.1 532 = .ok (.iaload, 1) := by decide +kernel
theorem dL_law_533 : decode mL_law.2.1 533 = .ok (.aload_n 0, 1) := by decide +kernel
theorem dL_law_534 : decode mL_law.2.1 534 = .ok (.iload 5, 2) := by decide +kernel
theorem dL_law_536 : decode mL_law.2.1 536 = .ok (.iconst 4, 1) := by decide +kernel
theorem dL_law_537 : decode mL_law.2.1 537 = .ok (.iadd, 1) := by decide +kernel
theorem dL_law_538 : decode mL_law.2.1 538 = .ok (.iaload, 1) := by decide +kernel
theorem dL_law_539 : decode mL_law.2.1 539 = .ok (.i2d, 1) := by decide +kernel
theorem dL_law_540 : decode mL_law.2.1 540 = .ok (.ldc2_w 105, 3) := by decide +kernel
theorem dL_law_543 : decode mL_law.2.1 543 = .ok (.dmul, 1) := by decide +kernel
theorem dL_law_544 : decode mL_law.2.1 544 = .ok (.aload_n 3, 1) := by decide +kernel
theorem dL_law_545 : decode mL_law.2.1 545 = .ok (.invokestatic 119, 3) := by decide +kernel
theorem dL_law_548 : decode mL_law.2.1 548 = .ok (.istore 6, 2) := by decide +kernel
theorem dL_law_550 : decode mL_law.2.1 550 = .ok (.aload_n 2, 1) := by decide +kernel
theorem dL_law_551 : decode mL_law.2.1 551 = .ok (.aload_n 0, 1) := by decide +kernel
theorem dL_law_552 : decode mL_law.2.1 552 = .ok (.iload 5, 2) := by decide +kernel
theorem dL_law_554 : decode mL_law.2.1 554 = .ok (.iconst 1, 1) := by decide +kernel
theorem dL_law_555 : decode mL_law.2.1 555 = .ok (.iadd, 1) := by decide +kernel
theorem dL_law_556 : decode mL_law.2.1 556 = .ok (.iaload, 1) := by decide +kernel
theorem dL_law_557 : decode mL_law.2.1 557 = .ok (.aload_n 0, 1) := by decide +kernel
theorem dL_law_558 : decode mL_law.2.1 558 = .ok (.iload 5, 2) := by decide +kernel
theorem dL_law_560 : decode mL_law.2.1 560 = .ok (.iconst 2, 1) := by decide +kernel
theorem dL_law_561 : decode mL_law.2.1 561 = .ok (.iadd, 1) := by decide +kernel
theorem dL_law_562 : decode mL_law.2.1 562 = .ok (.iaload, 1) := by decide +kernel
theorem dL_law_563 : decode mL_law.2.1 563 = .ok (.aload_n 0, 1) := by decide +kernel
theorem dL_law_564 : decode mL_law.2.1 564 = .ok (.iload 5, 2) := by decide +kernel
theorem dL_law_566 : decode mL_law.2.1 566 = .ok (.iconst 3, 1) := by decide +kernel
theorem dL_law_567 : decode mL_law.2.1 567 = .ok (.iadd, 1) := by decide +kernel
theorem dL_law_568 : decode mL_law.2.1 568 = .ok (.iaload, 1) := by decide +kernel
theorem dL_law_569 : decode mL_law.2.1 569 = .ok (.aload_n 0, 1) := by decide +kernel
theorem dL_law_570 : decode mL_law.2.1 570 = .ok (.iload 5, 2) := by decide +kernel
theorem dL_law_572 : decode mL_law.2.1 572 = .ok (.iconst 4, 1) := by decide +kernel
theorem dL_law_573 : decode mL_law.2.1 573 = .ok (.iadd, 1) := by decide +kernel
theorem dL_law_574 : decode mL_law.2.1 574 = .ok (.iaload, 1) := by decide +kernel
theorem dL_law_575 : decode mL_law.2.1 575 = .ok (.i2d, 1) := by decide +kernel
theorem dL_law_576 : decode mL_law.2.1 576 = .ok (.ldc2_w 105, 3) := by decide +kernel
theorem dL_law_579 : decode mL_law.2.1 579 = .ok (.dmul, 1) := by decide +kernel
theorem dL_law_580 : decode mL_law.2.1 580 = .ok (.invokevirtual 121, 3) := by decide +kernel
theorem dL_law_583 : decode mL_law.2.1 583 = .ok (.istore 7, 2) := by decide +kernel
theorem dL_law_585 : decode mL_law.2.1 585 = .ok (.aload_n 2, 1) := by decide +kernel
theorem dL_law_586 : decode mL_law.2.1 586 = .ok (.invokevirtual 102, 3) := by decide +kernel
theorem dL_law_589 : decode mL_law.2.1 589 = .ok (.iload 6, 2) := by decide +kernel
theorem dL_law_591 : decode mL_law.2.1 591 = .ok (.if_icmp .eq 5, 3) := by decide +kernel
theorem dL_law_594 : decode mL_law.2.1 594 = .ok (.iconst 0, 1) := by decide +kernel
theorem dL_law_595 : decode mL_law.2.1 595 = .ok (.ireturn, 1) := by decide +kernel
theorem dL_law_596 : decode mL_law.2.1 596 = .ok (.iload 6, 2) := by decide +kernel
theorem dL_law_598 : decode mL_law.2.1 598 = .ok (.ifCond .ne 15, 3) := by decide +kernel
theorem dL_law_601 : decode mL_law.2.1 601 = .ok (.aload_n 3, 1) := by decide +kernel
theorem dL_law_602 : decode mL_law.2.1 602 = .ok (.iconst 0, 1) := by decide +kernel
theorem dL_law_603 : decode mL_law.2.1 603 = .ok (.laload, 1) := by decide +kernel
theorem dL_law_604 : decode mL_law.2.1 604 = .ok (.iload 7, 2) := by decide +kernel
theorem dL_law_606 : decode mL_law.2.1 606 = .ok (.i2l, 1) := by decide +kernel
theorem dL_law_607 : decode mL_law.2.1 607 = .ok (.lcmp, 1) := by decide +kernel
theorem dL_law_608 : decode mL_law.2.1 608 = .ok (.ifCond .eq 5, 3) := by decide +kernel
theorem dL_law_611 : decode mL_law.2.1 611 = .ok (.iconst 0, 1) := by decide +kernel
theorem dL_law_612 : decode mL_law.2.1 612 = .ok (.ireturn, 1) := by decide +kernel
theorem dL_law_613 : decode mL_law.2.1 613 = .ok (.goto 1020, 3) := by decide +kernel
theorem dL_law_616 : decode mL_law.2.1 616 = .ok (.aload_n 1, 1) := by decide +kernel
theorem dL_law_617 : decode mL_law.2.1 617 = .ok (.aload_n 0, 1) := by decide +kernel
theorem dL_law_618 : decode mL_law.2.1 618 = .ok (.iload 5, 2) := by decide +kernel
theorem dL_law_620 : decode mL_law.2.1 620 = .ok (.iconst 1, 1) := by decide +kernel
theorem dL_law_621 : decode mL_law.2.1 621 = .ok (.iadd, 1) := by decide +kernel
theorem dL_law_622 : decode mL_law.2.1 622 = .ok (.iaload, 1) := by decide +kernel
theorem dL_law_623 : decode mL_law.2.1 623 = .ok (.aload_n 0, 1) := by decide +kernel
theorem dL_law_624 : decode mL_law.2.1 624 = .ok (.iload 5, 2) := by decide +kernel
theorem dL_law_626 : decode mL_law.2.1 626 = .ok (.iconst 2, 1) := by decide +kernel
theorem dL_law_627 : decode mL_law.2.1 627 = .ok (.iadd, 1) := by decide +kernel
theorem dL_law_628 : decode mL_law.2.1 628 = .ok (.iaload, 1) := by decide +kernel
theorem dL_law_629 : decode mL_law.2.1 629 = .ok (.aload_n 0, 1) := by decide +kernel
theorem dL_law_630 : decode mL_law.2.1 630 = .ok (.iload 5, 2) := by decide +kernel
theorem dL_law_632 : decode mL_law.2.1 632 = .ok (.iconst 3, 1) := by decide +kernel
theorem dL_law_633 : decode mL_law.2.1 633 = .ok (.iadd, 1) := by decide +kernel
theorem dL_law_634 : decode mL_law.2.1 634 = .ok (.iaload, 1) := by decide +kernel
theorem dL_law_635 : decode mL_law.2.1 635 = .ok (.i2d, 1) := by decide +kernel
theorem dL_law_636 : decode mL_law.2.1 636 = .ok (.ldc2_w 105, 3) := by decide +kernel
theorem dL_law_639 : decode mL_law.2.1 639 = .ok (.dmul, 1) := by decide +kernel
theorem dL_law_640 : decode mL_law.2.1 640 = .ok (.aload_n 3, 1) := by decide +kernel
theorem dL_law_641 : decode mL_law.2.1 641 = .ok (.invokestatic 122, 3) := by decide +kernel
theorem dL_law_644 : decode mL_law.2.1 644 = .ok (.istore 6, 2) := by decide +kernel
theorem dL_law_646 : decode mL_law.2.1 646 = .ok (.aload_n 2, 1) := by decide +kernel
theorem dL_law_647 : decode mL_law.2.1 647 = .ok (.aload_n 0, 1) := by decide +kernel
theorem dL_law_648 : decode mL_law.2.1 648 = .ok (.iload 5, 2) := by decide +kernel
theorem dL_law_650 : decode mL_law.2.1 650 = .ok (.iconst 1, 1) := by decide +kernel
theorem dL_law_651 : decode mL_law.2.1 651 = .ok (.iadd, 1) := by decide +kernel
theorem dL_law_652 : decode mL_law.2.1 652 = .ok (.iaload, 1) := by decide +kernel
theorem dL_law_653 : decode mL_law.2.1 653 = .ok (.aload_n 0, 1) := by decide +kernel
theorem dL_law_654 : decode mL_law.2.1 654 = .ok (.iload 5, 2) := by decide +kernel
theorem dL_law_656 : decode mL_law.2.1 656 = .ok (.iconst 2, 1) := by decide +kernel
theorem dL_law_657 : decode mL_law.2.1 657 = .ok (.iadd, 1) := by decide +kernel
theorem dL_law_658 : decode mL_law.2.1 658 = .ok (.iaload, 1) := by decide +kernel
theorem dL_law_659 : decode mL_law.2.1 659 = .ok (.aload_n 0, 1) := by decide +kernel
theorem dL_law_660 : decode mL_law.2.1 660 = .ok (.iload 5, 2) := by decide +kernel
theorem dL_law_662 : decode mL_law.2.1 662 = .ok (.iconst 3, 1) := by decide +kernel
theorem dL_law_663 : decode mL_law.2.1 663 = .ok (.iadd, 1) := by decide +kernel
theorem dL_law_664 : decode mL_law.2.1 664 = .ok (.iaload, 1) := by decide +kernel
theorem dL_law_665 : decode mL_law.2.1 665 = .ok (.i2d, 1) := by decide +kernel
theorem dL_law_666 : decode mL_law.2.1 666 = .ok (.ldc2_w 105, 3) := by decide +kernel
theorem dL_law_669 : decode mL_law.2.1 669 = .ok (.dmul, 1) := by decide +kernel
theorem dL_law_670 : decode mL_law.2.1 670 = .ok (.invokevirtual 125, 3) := by decide +kernel
theorem dL_law_673 : decode mL_law.2.1 673 = .ok (.istore 7, 2) := by decide +kernel
theorem dL_law_675 : decode mL_law.2.1 675 = .ok (.aload_n 2, 1) := by decide +kernel
theorem dL_law_676 : decode mL_law.2.1 676 = .ok (.invokevirtual 102, 3) := by decide +kernel
theorem dL_law_679 : decode mL_law.2.1 679 = .ok (.iload 6, 2) := by decide +kernel
theorem dL_law_681 : decode mL_law.2.1 681 = .ok (.if_icmp .eq 5, 3) := by decide +kernel
theorem dL_law_684 : decode mL_law.2.1 684 = .ok (.iconst 0, 1) := by decide +kernel
theorem dL_law_685 : decode mL_law.2.1 685 = .ok (.ireturn, 1) := by decide +kernel
theorem dL_law_686 : decode mL_law.2.1 686 = .ok (.iload 6, 2) := by decide +kernel
theorem dL_law_688 : decode mL_law.2.1 688 = .ok (.ifCond .ne 15, 3) := by decide +kernel
theorem dL_law_691 : decode mL_law.2.1 691 = .ok (.aload_n 3, 1) := by decide +kernel
theorem dL_law_692 : decode mL_law.2.1 692 = .ok (.iconst 0, 1) := by decide +kernel
theorem dL_law_693 : decode mL_law.2.1 693 = .ok (.laload, 1) := by decide +kernel
theorem dL_law_694 : decode mL_law.2.1 694 = .ok (.iload 7, 2) := by decide +kernel
theorem dL_law_696 : decode mL_law.2.1 696 = .ok (.i2l, 1) := by decide +kernel
theorem dL_law_697 : decode mL_law.2.1 697 = .ok (.lcmp, 1) := by decide +kernel
theorem dL_law_698 : decode mL_law.2.1 698 = .ok (.ifCond .eq 5, 3) := by decide +kernel
theorem dL_law_701 : decode mL_law.2.1 701 = .ok (.iconst 0, 1) := by decide +kernel
theorem dL_law_702 : decode mL_law.2.1 702 = .ok (.ireturn, 1) := by decide +kernel
theorem dL_law_703 : decode mL_law.2.1 703 = .ok (.goto 930, 3) := by decide +kernel
theorem dL_law_706 : decode mL_law.2.1 706 = .ok (.aload_n 1, 1) := by decide +kernel
theorem dL_law_707 : decode mL_law.2.1 707 = .ok (.aload_n 0, 1) := by decide +kernel
theorem dL_law_708 : decode mL_law.2.1 708 = .ok (.iload 5, 2) := by decide +kernel
theorem dL_law_710 : decode mL_law.2.1 710 = .ok (.iconst 1, 1) := by decide +kernel
theorem dL_law_711 : decode mL_law.2.1 711 = .ok (.iadd, 1) := by decide +kernel
theorem dL_law_712 : decode mL_law.2.1 712 = .ok (.iaload, 1) := by decide +kernel
theorem dL_law_713 : decode mL_law.2.1 713 = .ok (.aload_n 0, 1) := by decide +kernel
theorem dL_law_714 : decode mL_law.2.1 714 = .ok (.iload 5, 2) := by decide +kernel
theorem dL_law_716 : decode mL_law.2.1 716 = .ok (.iconst 2, 1) := by decide +kernel
theorem dL_law_717 : decode mL_law.2.1 717 = .ok (.iadd, 1) := by decide +kernel
theorem dL_law_718 : decode mL_law.2.1 718 = .ok (.iaload, 1) := by decide +kernel
theorem dL_law_719 : decode mL_law.2.1 719 = .ok (.aload_n 3, 1) := by decide +kernel
theorem dL_law_720 : decode mL_law.2.1 720 = .ok (.invokestatic 126, 3) := by decide +kernel
theorem dL_law_723 : decode mL_law.2.1 723 = .ok (.istore 6, 2) := by decide +kernel
theorem dL_law_725 : decode mL_law.2.1 725 = .ok (.aload_n 2, 1) := by decide +kernel
theorem dL_law_726 : decode mL_law.2.1 726 = .ok (.aload_n 0, 1) := by decide +kernel
theorem dL_law_727 : decode mL_law.2.1 727 = .ok (.iload 5, 2) := by decide +kernel
theorem dL_law_729 : decode mL_law.2.1 729 = .ok (.iconst 1, 1) := by decide +kernel
theorem dL_law_730 : decode mL_law.2.1 730 = .ok (.iadd, 1) := by decide +kernel
theorem dL_law_731 : decode mL_law.2.1 731 = .ok (.iaload, 1) := by decide +kernel
theorem dL_law_732 : decode mL_law.2.1 732 = .ok (.aload_n 0, 1) := by decide +kernel
theorem dL_law_733 : decode mL_law.2.1 733 = .ok (.iload 5, 2) := by decide +kernel
theorem dL_law_735 : decode mL_law.2.1 735 = .ok (.iconst 2, 1) := by decide +kernel
theorem dL_law_736 : decode mL_law.2.1 736 = .ok (.iadd, 1) := by decide +kernel
theorem dL_law_737 : decode mL_law.2.1 737 = .ok (.iaload, 1) := by decide +kernel
theorem dL_law_738 : decode mL_law.2.1 738 = .ok (.invokevirtual 129, 3) := by decide +kernel
theorem dL_law_741 : decode mL_law.2.1 741 = .ok (.istore 7, 2) := by decide +kernel
theorem dL_law_743 : decode mL_law.2.1 743 = .ok (.aload_n 2, 1) := by decide +kernel
theorem dL_law_744 : decode mL_law.2.1 744 = .ok (.invokevirtual 102, 3) := by decide +kernel
theorem dL_law_747 : decode mL_law.2.1 747 = .ok (.iload 6, 2) := by decide +kernel
theorem dL_law_749 : decode mL_law.2.1 749 = .ok (.if_icmp .eq 5, 3) := by decide +kernel
theorem dL_law_752 : decode mL_law.2.1 752 = .ok (.iconst 0, 1) := by decide +kernel
theorem dL_law_753 : decode mL_law.2.1 753 = .ok (.ireturn, 1) := by decide +kernel
theorem dL_law_754 : decode mL_law.2.1 754 = .ok (.iload 6, 2) := by decide +kernel
theorem dL_law_756 : decode mL_law.2.1 756 = .ok (.ifCond .ne 15, 3) := by decide +kernel
theorem dL_law_759 : decode mL_law.2.1 759 = .ok (.aload_n 3, 1) := by decide +kernel
theorem dL_law_760 : decode mL_law.2.1 760 = .ok (.iconst 0, 1) := by decide +kernel
theorem dL_law_761 : decode mL_law.2.1 761 = .ok (.laload, 1) := by decide +kernel
theorem dL_law_762 : decode mL_law.2.1 762 = .ok (.iload 7, 2) := by decide +kernel
theorem dL_law_764 : decode mL_law.2.1 764 = .ok (.i2l, 1) := by decide +kernel
theorem dL_law_765 : decode mL_law.2.1 765 = .ok (.lcmp, 1) := by decide +kernel
theorem dL_law_766 : decode mL_law.2.1 766 = .ok (.ifCond .eq 5, 3) := by decide +kernel
theorem dL_law_769 : decode mL_law.2.1 769 = .ok (.iconst 0, 1) := by decide +kernel
theorem dL_law_770 : decode mL_law.2.1 770 = .ok (.ireturn, 1) := by decide +kernel
theorem dL_law_771 : decode mL_law.2.1 771 = .ok (.goto 862, 3) := by decide +kernel
theorem dL_law_774 : decode mL_law.2.1 774 = .ok (.aload_n 1, 1) := by decide +kernel
theorem dL_law_775 : decode mL_law.2.1 775 = .ok (.aload_n 0, 1) := by decide +kernel
theorem dL_law_776 : decode mL_law.2.1 776 = .ok (.iload 5, 2) := by decide +kernel
theorem dL_law_778 : decode mL_law.2.1 778 = .ok (.iconst 1, 1) := by decide +kernel
theorem dL_law_779 : decode mL_law.2.1 779 = .ok (.iadd, 1) := by decide +kernel
theorem dL_law_780 : decode mL_law.2.1 780 = .ok (.iaload, 1) := by decide +kernel
theorem dL_law_781 : decode mL_law.2.1 781 = .ok (.aload_n 0, 1) := by decide +kernel
theorem dL_law_782 : decode mL_law.2.1 782 = .ok (.iload 5, 2) := by decide +kernel
theorem dL_law_784 : decode mL_law.2.1 784 = .ok (.iconst 2, 1) := by decide +kernel
theorem dL_law_785 : decode mL_law.2.1 785 = .ok (.iadd, 1) := by decide +kernel
theorem dL_law_786 : decode mL_law.2.1 786 = .ok (.iaload, 1) := by decide +kernel
theorem dL_law_787 : decode mL_law.2.1 787 = .ok (.aload_n 0, 1) := by decide +kernel
theorem dL_law_788 : decode mL_law.2.1 788 = .ok (.iload 5, 2) := by decide +kernel
theorem dL_law_790 : decode mL_law.2.1 790 = .ok (.iconst 3, 1) := by decide +kernel
theorem dL_law_791 : decode mL_law.2.1 791 = .ok (.iadd, 1) := by decide +kernel
theorem dL_law_792 : decode mL_law.2.1 792 = .ok (.iaload, 1) := by decide +kernel
theorem dL_law_793 : decode mL_law.2.1 793 = .ok (.aload_n 0, 1) := by decide +kernel
theorem dL_law_794 : decode mL_law.2.1 794 = .ok (.iload 5, 2) := by decide +kernel
theorem dL_law_796 : decode mL_law.2.1 796 = .ok (.iconst 4, 1) := by decide +kernel
theorem dL_law_797 : decode mL_law.2.1 797 = .ok (.iadd, 1) := by decide +kernel
theorem dL_law_798 : decode mL_law.2.1 798 = .ok (.iaload, 1) := by decide +kernel
theorem dL_law_799 : decode mL_law.2.1 799 = .ok (.aload_n 3, 1) := by decide +kernel
theorem dL_law_800 : decode mL_law.2.1 800 = .ok (.invokestatic 130, 3) := by decide +kernel
theorem dL_law_803 : decode mL_law.2.1 803 = .ok (.istore 6, 2) := by decide +kernel
theorem dL_law_805 : decode mL_law.2.1 805 = .ok (.aload_n 2, 1) := by decide +kernel
theorem dL_law_806 : decode mL_law.2.1 806 = .ok (.aload_n 0, 1) := by decide +kernel
theorem dL_law_807 : decode mL_law.2.1 807 = .ok (.iload 5, 2) := by decide +kernel
theorem dL_law_809 : decode mL_law.2.1 809 = .ok (.iconst 1, 1) := by decide +kernel
theorem dL_law_810 : decode mL_law.2.1 810 = .ok (.iadd, 1) := by decide +kernel
theorem dL_law_811 : decode mL_law.2.1 811 = .ok (.iaload, 1) := by decide +kernel
theorem dL_law_812 : decode mL_law.2.1 812 = .ok (.aload_n 0, 1) := by decide +kernel
theorem dL_law_813 : decode mL_law.2.1 813 = .ok (.iload 5, 2) := by decide +kernel
theorem dL_law_815 : decode mL_law.2.1 815 = .ok (.iconst 2, 1) := by decide +kernel
theorem dL_law_816 : decode mL_law.2.1 816 = .ok (.iadd, 1) := by decide +kernel
theorem dL_law_817 : decode mL_law.2.1 817 = .ok (.iaload, 1) := by decide +kernel
theorem dL_law_818 : decode mL_law.2.1 818 = .ok (.aload_n 0, 1) := by decide +kernel
theorem dL_law_819 : decode mL_law.2.1 819 = .ok (.iload 5, 2) := by decide +kernel
theorem dL_law_821 : decode mL_law.2.1 821 = .ok (.iconst 3, 1) := by decide +kernel
theorem dL_law_822 : decode mL_law.2.1 822 = .ok (.iadd, 1) := by decide +kernel
theorem dL_law_823 : decode mL_law.2.1 823 = .ok (.iaload, 1) := by decide +kernel
theorem dL_law_824 : decode mL_law.2.1 824 = .ok (.aload_n 0, 1) := by decide +kernel
theorem dL_law_825 : decode mL_law.2.1 825 = .ok (.iload 5, 2) := by decide +kernel
theorem dL_law_827 : decode mL_law.2.1 827 = .ok (.iconst 4, 1) := by decide +kernel
theorem dL_law_828 : decode mL_law.2.1 828 = .ok (.iadd, 1) := by decide +kernel
theorem dL_law_829 : decode mL_law.2.1 829 = .ok (.iaload, 1) := by decide +kernel
theorem dL_law_830 : decode mL_law.2.1 830 = .ok (.invokevirtual 133, 3) := by decide +kernel
theorem dL_law_833 : decode mL_law.2.1 833 = .ok (.istore 7, 2) := by decide +kernel
theorem dL_law_835 : decode mL_law.2.1 835 = .ok (.aload_n 2, 1) := by decide +kernel
theorem dL_law_836 : decode mL_law.2.1 836 = .ok (.invokevirtual 102, 3) := by decide +kernel
theorem dL_law_839 : decode mL_law.2.1 839 = .ok (.iload 6, 2) := by decide +kernel
theorem dL_law_841 : decode mL_law.2.1 841 = .ok (.if_icmp .eq 5, 3) := by decide +kernel
theorem dL_law_844 : decode mL_law.2.1 844 = .ok (.iconst 0, 1) := by decide +kernel
theorem dL_law_845 : decode mL_law.2.1 845 = .ok (.ireturn, 1) := by decide +kernel
theorem dL_law_846 : decode mL_law.2.1 846 = .ok (.iload 6, 2) := by decide +kernel
theorem dL_law_848 : decode mL_law.2.1 848 = .ok (.ifCond .ne 15, 3) := by decide +kernel
theorem dL_law_851 : decode mL_law.2.1 851 = .ok (.aload_n 3, 1) := by decide +kernel
theorem dL_law_852 : decode mL_law.2.1 852 = .ok (.iconst 0, 1) := by decide +kernel
theorem dL_law_853 : decode mL_law.2.1 853 = .ok (.laload, 1) := by decide +kernel
theorem dL_law_854 : decode mL_law.2.1 854 = .ok (.iload 7, 2) := by decide +kernel
theorem dL_law_856 : decode mL_law.2.1 856 = .ok (.i2l, 1) := by decide +kernel
theorem dL_law_857 : decode mL_law.2.1 857 = .ok (.lcmp, 1) := by decide +kernel
theorem dL_law_858 : decode mL_law.2.1 858 = .ok (.ifCond .eq 5, 3) := by decide +kernel
theorem dL_law_861 : decode mL_law.2.1 861 = .ok (.iconst 0, 1) := by decide +kernel
theorem dL_law_862 : decode mL_law.2.1 862 = .ok (.ireturn, 1) := by decide +kernel
theorem dL_law_863 : decode mL_law.2.1 863 = .ok (.goto 770, 3) := by decide +kernel
theorem dL_law_866 : decode mL_law.2.1 866 = .ok (.aload_n 1, 1) := by decide +kernel
theorem dL_law_867 : decode mL_law.2.1 867 = .ok (.aload_n 0, 1) := by decide +kernel
theorem dL_law_868 : decode mL_law.2.1 868 = .ok (.iload 5, 2) := by decide +kernel
theorem dL_law_870 : decode mL_law.2.1 870 = .ok (.iconst 1, 1) := by decide +kernel
theorem dL_law_871 : decode mL_law.2.1 871 = .ok (.iadd, 1) := by decide +kernel
theorem dL_law_872 : decode mL_law.2.1 872 = .ok (.iaload, 1) := by decide +kernel
theorem dL_law_873 : decode mL_law.2.1 873 = .ok (.aload_n 0, 1) := by decide +kernel
theorem dL_law_874 : decode mL_law.2.1 874 = .ok (.iload 5, 2) := by decide +kernel
theorem dL_law_876 : decode mL_law.2.1 876 = .ok (.iconst 2, 1) := by decide +kernel
theorem dL_law_877 : decode mL_law.2.1 877 = .ok (.iadd, 1) := by decide +kernel
theorem dL_law_878 : decode mL_law.2.1 878 = .ok (.iaload, 1) := by decide +kernel
theorem dL_law_879 : decode mL_law.2.1 879 = .ok (.aload_n 0, 1) := by decide +kernel
theorem dL_law_880 : decode mL_law.2.1 880 = .ok (.iload 5, 2) := by decide +kernel
theorem dL_law_882 : decode mL_law.2.1 882 = .ok (.iconst 3, 1) := by decide +kernel
theorem dL_law_883 : decode mL_law.2.1 883 = .ok (.iadd, 1) := by decide +kernel
theorem dL_law_884 : decode mL_law.2.1 884 = .ok (.iaload, 1) := by decide +kernel
theorem dL_law_885 : decode mL_law.2.1 885 = .ok (.ifCond .eq 7, 3) := by decide +kernel
theorem dL_law_888 : decode mL_law.2.1 888 = .ok (.iconst 1, 1) := by decide +kernel
theorem dL_law_889 : decode mL_law.2.1 889 = .ok (.goto 4, 3) := by decide +kernel
theorem dL_law_892 : decode mL_law.2.1 892 = .ok (.iconst 0, 1) := by decide +kernel
theorem dL_law_893 : decode mL_law.2.1 893 = .ok (.aload_n 3, 1) := by decide +kernel
theorem dL_law_894 : decode mL_law.2.1 894 = .ok (.invokestatic 134, 3) := by decide +kernel
theorem dL_law_897 : decode mL_law.2.1 897 = .ok (.istore 6, 2) := by decide +kernel
theorem dL_law_899 : decode mL_law.2.1 899 = .ok (.aload_n 2, 1) := by decide +kernel
theorem dL_law_900 : decode mL_law.2.1 900 = .ok (.aload_n 0, 1) := by decide +kernel
theorem dL_law_901 : decode mL_law.2.1 901 = .ok (.iload 5, 2) := by decide +kernel
theorem dL_law_903 : decode mL_law.2.1 903 = .ok (.iconst 1, 1) := by decide +kernel
theorem dL_law_904 : decode mL_law.2.1 904 = .ok (.iadd, 1) := by decide +kernel
theorem dL_law_905 : decode mL_law.2.1 905 = .ok (.iaload, 1) := by decide +kernel
theorem dL_law_906 : decode mL_law.2.1 906 = .ok (.aload_n 0, 1) := by decide +kernel
theorem dL_law_907 : decode mL_law.2.1 907 = .ok (.iload 5, 2) := by decide +kernel
theorem dL_law_909 : decode mL_law.2.1 909 = .ok (.iconst 2, 1) := by decide +kernel
theorem dL_law_910 : decode mL_law.2.1 910 = .ok (.iadd, 1) := by decide +kernel
theorem dL_law_911 : decode mL_law.2.1 911 = .ok (.iaload, 1) := by decide +kernel
theorem dL_law_912 : decode mL_law.2.1 912 = .ok (.aload_n 0, 1) := by decide +kernel
theorem dL_law_913 : decode mL_law.2.1 913 = .ok (.iload 5, 2) := by decide +kernel
theorem dL_law_915 : decode mL_law.2.1 915 = .ok (.iconst 3, 1) := by decide +kernel
theorem dL_law_916 : decode mL_law.2.1 916 = .ok (.iadd, 1) := by decide +kernel
theorem dL_law_917 : decode mL_law.2.1 917 = .ok (.iaload, 1) := by decide +kernel
theorem dL_law_918 : decode mL_law.2.1 918 = .ok (.ifCond .eq 7, 3) := by decide +kernel
theorem dL_law_921 : decode mL_law.2.1 921 = .ok (.iconst 1, 1) := by decide +kernel
theorem dL_law_922 : decode mL_law.2.1 922 = .ok (.goto 4, 3) := by decide +kernel
theorem dL_law_925 : decode mL_law.2.1 925 = .ok (.iconst 0, 1) := by decide +kernel
theorem dL_law_926 : decode mL_law.2.1 926 = .ok (.invokevirtual 137, 3) := by decide +kernel
theorem dL_law_929 : decode mL_law.2.1 929 = .ok (.istore 7, 2) := by decide +kernel
theorem dL_law_931 : decode mL_law.2.1 931 = .ok (.aload_n 2, 1) := by decide +kernel
theorem dL_law_932 : decode mL_law.2.1 932 = .ok (.invokevirtual 102, 3) := by decide +kernel
theorem dL_law_935 : decode mL_law.2.1 935 = .ok (.iload 6, 2) := by decide +kernel
theorem dL_law_937 : decode mL_law.2.1 937 = .ok (.if_icmp .eq 5, 3) := by decide +kernel
theorem dL_law_940 : decode mL_law.2.1 940 = .ok (.iconst 0, 1) := by decide +kernel
theorem dL_law_941 : decode mL_law.2.1 941 = .ok (.ireturn, 1) := by decide +kernel
theorem dL_law_942 : decode mL_law.2.1 942 = .ok (.iload 6, 2) := by decide +kernel
theorem dL_law_944 : decode mL_law.2.1 944 = .ok (.ifCond .ne 15, 3) := by decide +kernel
theorem dL_law_947 : decode mL_law.2.1 947 = .ok (.aload_n 3, 1) := by decide +kernel
theorem dL_law_948 : decode mL_law.2.1 948 = .ok (.iconst 0, 1) := by decide +kernel
theorem dL_law_949 : decode mL_law.2.1 949 = .ok (.laload, 1) := by decide +kernel
theorem dL_law_950 : decode mL_law.2.1 950 = .ok (.iload 7, 2) := by decide +kernel
theorem dL_law_952 : decode mL_law.2.1 952 = .ok (.i2l, 1) := by decide +kernel
theorem dL_law_953 : decode mL_law.2.1 953 = .ok (.lcmp, 1) := by decide +kernel
theorem dL_law_954 : decode mL_law.2.1 954 = .ok (.ifCond .eq 5, 3) := by decide +kernel
theorem dL_law_957 : decode mL_law.2.1 957 = .ok (.iconst 0, 1) := by decide +kernel
theorem dL_law_958 : decode mL_law.2.1 958 = .ok (.ireturn, 1) := by decide +kernel
theorem dL_law_959 : decode mL_law.2.1 959 = .ok (.goto 674, 3) := by decide +kernel
theorem dL_law_962 : decode mL_law.2.1 962 = .ok (.aload_n 1, 1) := by decide +kernel
theorem dL_law_963 : decode mL_law.2.1 963 = .ok (.aload_n 0, 1) := by decide +kernel
theorem dL_law_964 : decode mL_law.2.1 964 = .ok (.iload 5, 2) := by decide +kernel
theorem dL_law_966 : decode mL_law.2.1 966 = .ok (.iconst 1, 1) := by decide +kernel
theorem dL_law_967 : decode mL_law.2.1 967 = .ok (.iadd, 1) := by decide +kernel
theorem dL_law_968 : decode mL_law.2.1 968 = .ok (.iaload, 1) := by decide +kernel
theorem dL_law_969 : decode mL_law.2.1 969 = .ok (.aload_n 0, 1) := by decide +kernel
theorem dL_law_970 : decode mL_law.2.1 970 = .ok (.iload 5, 2) := by decide +kernel
theorem dL_law_972 : decode mL_law.2.1 972 = .ok (.iconst 2, 1) := by decide +kernel
theorem dL_law_973 : decode mL_law.2.1 973 = .ok (.iadd, 1) := by decide +kernel
theorem dL_law_974 : decode mL_law.2.1 974 = .ok (.iaload, 1) := by decide +kernel
theorem dL_law_975 : decode mL_law.2.1 975 = .ok (.aload_n 0, 1) := by decide +kernel
theorem dL_law_976 : decode mL_law.2.1 976 = .ok (.iload 5, 2) := by decide +kernel
theorem dL_law_978 : decode mL_law.2.1 978 = .ok (.iconst 3, 1) := by decide +kernel
theorem dL_law_979 : decode mL_law.2.1 979 = .ok (.iadd, 1) := by decide +kernel
theorem dL_law_980 : decode mL_law.2.1 980 = .ok (.iaload, 1) := by decide +kernel
theorem dL_law_981 : decode mL_law.2.1 981 = .ok (.aload_n 3, 1) := by decide +kernel
theorem dL_law_982 : decode mL_law.2.1 982 = .ok (.invokestatic 138, 3) := by decide +kernel
theorem dL_law_985 : decode mL_law.2.1 985 = .ok (.istore 6, 2) := by decide +kernel
theorem dL_law_987 : decode mL_law.2.1 987 = .ok (.aload_n 2, 1) := by decide +kernel
theorem dL_law_988 : decode mL_law.2.1 988 = .ok (.aload_n 0, 1) := by decide +kernel
theorem dL_law_989 : decode mL_law.2.1 989 = .ok (.iload 5, 2) := by decide +kernel
theorem dL_law_991 : decode mL_law.2.1 991 = .ok (.iconst 1, 1) := by decide +kernel
theorem dL_law_992 : decode mL_law.2.1 992 = .ok (.iadd, 1) := by decide +kernel
theorem dL_law_993 : decode mL_law.2.1 993 = .ok (.iaload, 1) := by decide +kernel
theorem dL_law_994 : decode mL_law.2.1 994 = .ok (.aload_n 0, 1) := by decide +kernel
theorem dL_law_995 : decode mL_law.2.1 995 = .ok (.iload 5, 2) := by decide +kernel
theorem dL_law_997 : decode mL_law.2.1 997 = .ok (.iconst 2, 1) := by decide +kernel
theorem dL_law_998 : decode mL_law.2.1 998 = .ok (.iadd, 1) := by decide +kernel
theorem dL_law_999 : decode mL_law.2.1 999 = .ok (.iaload, 1) := by decide +kernel
theorem dL_law_1000 : decode mL_law.2.1 1000 = .ok (.aload_n 0, 1) := by decide +kernel
theorem dL_law_1001 : decode mL_law.2.1 1001 = .ok (.iload 5, 2) := by decide +kernel
theorem dL_law_1003 : decode mL_law.2.1 1003 = .ok (.iconst 3, 1) := by decide +kernel
theorem dL_law_1004 : decode mL_law.2.1 1004 = .ok (.iadd, 1) := by decide +kernel
theorem dL_law_1005 : decode mL_law.2.1 1005 = .ok (.iaload, 1) := by decide +kernel
theorem dL_law_1006 : decode mL_law.2.1 1006 = .ok (.invokevirtual 141, 3) := by decide +kernel
theorem dL_law_1009 : decode mL_law.2.1 1009 = .ok (.istore 7, 2) := by decide +kernel
theorem dL_law_1011 : decode mL_law.2.1 1011 = .ok (.aload_n 2, 1) := by decide +kernel
theorem dL_law_1012 : decode mL_law.2.1 1012 = .ok (.invokevirtual 102, 3) := by decide +kernel
theorem dL_law_1015 : decode mL_law.2.1 1015 = .ok (.iload 6, 2) := by decide +kernel
theorem dL_law_1017 : decode mL_law.2.1 1017 = .ok (.if_icmp .eq 5, 3) := by decide +kernel
theorem dL_law_1020 : decode mL_law.2.1 1020 = .ok (.iconst 0, 1) := by decide +kernel
theorem dL_law_1021 : decode mL_law.2.1 1021 = .ok (.ireturn, 1) := by decide +kernel
theorem dL_law_1022 : decode mL_law.2.1 1022 = .ok (.iload 6, 2) := by decide +kernel
theorem dL_law_1024 : decode mL_law.2.1 1024 = .ok (.ifCond .ne 15, 3) := by decide +kernel
theorem dL_law_1027 : decode mL_law.2.1 1027 = .ok (.aload_n 3, 1) := by decide +kernel
theorem dL_law_1028 : decode mL_law.2.1 1028 = .ok (.iconst 0, 1) := by decide +kernel
theorem dL_law_1029 : decode mL_law.2.1 1029 = .ok (.laload, 1) := by decide +kernel
theorem dL_law_1030 : decode mL_law.2.1 1030 = .ok (.iload 7, 2) := by decide +kernel
theorem dL_law_1032 : decode mL_law.2.1 1032 = .ok (.i2l, 1) := by decide +kernel
theorem dL_law_1033 : decode mL_law.2.1 1033 = .ok (.lcmp, 1) := by decide +kernel
theorem dL_law_1034 : decode mL_law.2.1 1034 = .ok (.ifCond .eq 5, 3) := by decide +kernel
theorem dL_law_1037 : decode mL_law.2.1 1037 = .ok (.iconst 0, 1) := by decide +kernel
theorem dL_law_1038 : decode mL_law.2.1 1038 = .ok (.ireturn, 1) := by decide +kernel
theorem dL_law_1039 : decode mL_law.2.1 1039 = .ok (.goto 594, 3) := by decide +kernel
theorem dL_law_1042 : decode mL_law.2.1 1042 = .ok (.aload_n 1, 1) := by decide +kernel
theorem dL_law_1043 : decode mL_law.2.1 1043 = .ok (.aload_n 0, 1) := by decide +kernel
theorem dL_law_1044 : decode mL_law.2.1 1044 = .ok (.iload 5, 2) := by decide +kernel
theorem dL_law_1046 : decode mL_law.2.1 1046 = .ok (.iconst 1, 1) := by decide +kernel
theorem dL_law_1047 : decode mL_law.2.1 1047 = .ok (.iadd, 1) := by decide +kernel
theorem dL_law_1048 : decode mL_law.2.1 1048 = .ok (.iaload, 1) := by decide +kernel
theorem dL_law_1049 : decode mL_law.2.1 1049 = .ok (.aload_n 0, 1) := by decide +kernel
theorem dL_law_1050 : decode mL_law.2.1 1050 = .ok (.iload 5, 2) := by decide +kernel
theorem dL_law_1052 : decode mL_law.2.1 1052 = .ok (.iconst 2, 1) := by decide +kernel
theorem dL_law_1053 : decode mL_law.2.1 1053 = .ok (.iadd, 1) := by decide +kernel
theorem dL_law_1054 : decode mL_law.2.1 1054 = .ok (.iaload, 1) := by decide +kernel
theorem dL_law_1055 : decode mL_law.2.1 1055 = .ok (.i2d, 1) := by decide +kernel
theorem dL_law_1056 : decode mL_law.2.1 1056 = .ok (.ldc2_w 105, 3) := by decide +kernel
theorem dL_law_1059 : decode mL_law.2.1 1059 = .ok (.dmul, 1) := by decide +kernel
theorem dL_law_1060 : decode mL_law.2.1 1060 = .ok (.aload_n 3, 1) := by decide +kernel
theorem dL_law_1061 : decode mL_law.2.1 1061 = .ok (.invokestatic 142, 3) := by decide +kernel
theorem dL_law_1064 : decode mL_law.2.1 1064 = .ok (.istore 6, 2) := by decide +kernel
theorem dL_law_1066 : decode mL_law.2.1 1066 = .ok (.aload_n 2, 1) := by decide +kernel
theorem dL_law_1067 : decode mL_law.2.1 1067 = .ok (.aload_n 0, 1) := by decide +kernel
theorem dL_law_1068 : decode mL_law.2.1 1068 = .ok (.iload 5, 2) := by decide +kernel
theorem dL_law_1070 : decode mL_law.2.1 1070 = .ok (.iconst 1, 1) := by decide +kernel
theorem dL_law_1071 : decode mL_law.2.1 1071 = .ok (.iadd, 1) := by decide +kernel
theorem dL_law_1072 : decode mL_law.2.1 1072 = .ok (.iaload, 1) := by decide +kernel
theorem dL_law_1073 : decode mL_law.2.1 1073 = .ok (.aload_n 0, 1) := by decide +kernel
theorem dL_law_1074 : decode mL_law.2.1 1074 = .ok (.iload 5, 2) := by decide +kernel
theorem dL_law_1076 : decode mL_law.2.1 1076 = .ok (.iconst 2, 1) := by decide +kernel
theorem dL_law_1077 : decode mL_law.2.1 1077 = .ok (.iadd, 1) := by decide +kernel
theorem dL_law_1078 : decode mL_law.2.1 1078 = .ok (.iaload, 1) := by decide +kernel
theorem dL_law_1079 : decode mL_law.2.1 1079 = .ok (.i2d, 1) := by decide +kernel
theorem dL_law_1080 : decode mL_law.2.1 1080 = .ok (.ldc2_w 105, 3) := by decide +kernel
theorem dL_law_1083 : decode mL_law.2.1 1083 = .ok (.dmul, 1) := by decide +kernel
theorem dL_law_1084 : decode mL_law.2.1 1084 = .ok (.invokevirtual 145, 3) := by decide +kernel
theorem dL_law_1087 : decode mL_law.2.1 1087 = .ok (.istore 7, 2) := by decide +kernel
theorem dL_law_1089 : decode mL_law.2.1 1089 = .ok (.aload_n 2, 1) := by decide +kernel
theorem dL_law_1090 : decode mL_law.2.1 1090 = .ok (.invokevirtual 102, 3) := by decide +kernel
theorem dL_law_1093 : decode mL_law.2.1 1093 = .ok (.iload 6, 2) := by decide +kernel
theorem dL_law_1095 : decode mL_law.2.1 1095 = .ok (.if_icmp .eq 5, 3) := by decide +kernel
theorem dL_law_1098 : decode mL_law.2.1 1098 = .ok (.iconst 0, 1) := by decide +kernel
theorem dL_law_1099 : decode mL_law.2.1 1099 = .ok (.ireturn, 1) := by decide +kernel
theorem dL_law_1100 : decode mL_law.2.1 1100 = .ok (.iload 6, 2) := by decide +kernel
theorem dL_law_1102 : decode mL_law.2.1 1102 = .ok (.ifCond .ne 15, 3) := by decide +kernel
theorem dL_law_1105 : decode mL_law.2.1 1105 = .ok (.aload_n 3, 1) := by decide +kernel
theorem dL_law_1106 : decode mL_law.2.1 1106 = .ok (.iconst 0, 1) := by decide +kernel
theorem dL_law_1107 : decode mL_law.2.1 1107 = .ok (.laload, 1) := by decide +kernel
theorem dL_law_1108 : decode mL_law.2.1 1108 = .ok (.iload 7, 2) := by decide +kernel
theorem dL_law_1110 : decode mL_law.2.1 1110 = .ok (.i2l, 1) := by decide +kernel
theorem dL_law_1111 : decode mL_law.2.1 1111 = .ok (.lcmp, 1) := by decide +kernel
theorem dL_law_1112 : decode mL_law.2.1 1112 = .ok (.ifCond .eq 5, 3) := by decide +kernel
theorem dL_law_1115 : decode mL_law.2.1 1115 = .ok (.iconst 0, 1) := by decide +kernel
theorem dL_law_1116 : decode mL_law.2.1 1116 = .ok (.ireturn, 1) := by decide +kernel
theorem dL_law_1117 : decode mL_law.2.1 1117 = .ok (.goto 516, 3) := by decide +kernel
theorem dL_law_1120 : decode mL_law.2.1 1120 = .ok (.aload_n 1, 1) := by decide +kernel
theorem dL_law_1121 : decode mL_law.2.1 1121 = .ok (.aload_n 0, 1) := by decide +kernel
theorem dL_law_1122 : decode mL_law.2.1 1122 = .ok (.iload 5, 2) := by decide +kernel
theorem dL_law_1124 : decode mL_law.2.1 1124 = .ok (.iconst 1, 1) := by decide +kernel
theorem dL_law_1125 : decode mL_law.2.1 1125 = .ok (.iadd, 1) := by decide +kernel
theorem dL_law_1126 : decode mL_law.2.1 1126 = .ok (.iaload, 1) := by decide +kernel
theorem dL_law_1127 : decode mL_law.2.1 1127 = .ok (.aload_n 3, 1) := by decide +kernel
theorem dL_law_1128 : decode mL_law.2.1 1128 = .ok (.invokestatic 146, 3) := by decide +kernel
theorem dL_law_1131 : decode mL_law.2.1 1131 = .ok (.istore 6, 2) := by decide +kernel
theorem dL_law_1133 : decode mL_law.2.1 1133 = .ok (.aload_n 2, 1) := by decide +kernel
theorem dL_law_1134 : decode mL_law.2.1 1134 = .ok (.aload_n 0, 1) := by decide +kernel
theorem dL_law_1135 : decode mL_law.2.1 1135 = .ok (.iload 5, 2) := by decide +kernel
theorem dL_law_1137 : decode mL_law.2.1 1137 = .ok (.iconst 1, 1) := by decide +kernel
theorem dL_law_1138 : decode mL_law.2.1 1138 = .ok (.iadd, 1) := by decide +kernel
theorem dL_law_1139 : decode mL_law.2.1 1139 = .ok (.iaload, 1) := by decide +kernel
theorem dL_law_1140 : decode mL_law.2.1 1140 = .ok (.invokevirtual 149, 3) := by decide +kernel
theorem dL_law_1143 : decode mL_law.2.1 1143 = .ok (.istore 7, 2) := by decide +kernel
theorem dL_law_1145 : decode mL_law.2.1 1145 = .ok (.aload_n 2, 1) := by decide +kernel
theorem dL_law_1146 : decode mL_law.2.1 1146 = .ok (.invokevirtual 102, 3) := by decide +kernel
theorem dL_law_1149 : decode mL_law.2.1 1149 = .ok (.iload 6, 2) := by decide +kernel
theorem dL_law_1151 : decode mL_law.2.1 1151 = .ok (.if_icmp .eq 5, 3) := by decide +kernel
theorem dL_law_1154 : decode mL_law.2.1 1154 = .ok (.iconst 0, 1) := by decide +kernel
theorem dL_law_1155 : decode mL_law.2.1 1155 = .ok (.ireturn, 1) := by decide +kernel
theorem dL_law_1156 : decode mL_law.2.1 1156 = .ok (.iload 6, 2) := by decide +kernel
theorem dL_law_1158 : decode mL_law.2.1 1158 = .ok (.ifCond .ne 15, 3) := by decide +kernel
theorem dL_law_1161 : decode mL_law.2.1 1161 = .ok (.aload_n 3, 1) := by decide +kernel
theorem dL_law_1162 : decode mL_law.2.1 1162 = .ok (.iconst 0, 1) := by decide +kernel
theorem dL_law_1163 : decode mL_law.2.1 1163 = .ok (.laload, 1) := by decide +kernel
theorem dL_law_1164 : decode mL_law.2.1 1164 = .ok (.iload 7, 2) := by decide +kernel
theorem dL_law_1166 : decode mL_law.2.1 1166 = .ok (.i2l, 1) := by decide +kernel
theorem dL_law_1167 : decode mL_law.2.1 1167 = .ok (.lcmp, 1) := by decide +kernel
theorem dL_law_1168 : decode mL_law.2.1 1168 = .ok (.ifCond .eq 5, 3) := by decide +kernel
theorem dL_law_1171 : decode mL_law.2.1 1171 = .ok (.iconst 0, 1) := by decide +kernel
theorem dL_law_1172 : decode mL_law.2.1 1172 = .ok (.ireturn, 1) := by decide +kernel
theorem dL_law_1173 : decode mL_law.2.1 1173 = .ok (.goto 460, 3) := by decide +kernel
theorem dL_law_1176 : decode mL_law.2.1 1176 = .ok (.aload_n 1, 1) := by decide +kernel
theorem dL_law_1177 : decode mL_law.2.1 1177 = .ok (.aload_n 3, 1) := by decide +kernel
theorem dL_law_1178 : decode mL_law.2.1 1178 = .ok (.invokestatic 150, 3) := by decide +kernel
theorem dL_law_1181 : decode mL_law.2.1 1181 = .ok (.istore 6, 2) := by decide +kernel
theorem dL_law_1183 : decode mL_law.2.1 1183 = .ok (.aload_n 2, 1) := by decide +kernel
theorem dL_law_1184 : decode mL_law.2.1 1184 = .ok (.invokevirtual 153, 3) := by decide +kernel
theorem dL_law_1187 : decode mL_law.2.1 1187 = .ok (.istore 7, 2) := by decide +kernel
theorem dL_law_1189 : decode mL_law.2.1 1189 = .ok (.aload_n 2, 1) := by decide +kernel
theorem dL_law_1190 : decode mL_law.2.1 1190 = .ok (.invokevirtual 102, 3) := by decide +kernel
theorem dL_law_1193 : decode mL_law.2.1 1193 = .ok (.iload 6, 2) := by decide +kernel
theorem dL_law_1195 : decode mL_law.2.1 1195 = .ok (.if_icmp .eq 5, 3) := by decide +kernel
theorem dL_law_1198 : decode mL_law.2.1 1198 = .ok (.iconst 0, 1) := by decide +kernel
theorem dL_law_1199 : decode mL_law.2.1 1199 = .ok (.ireturn, 1) := by decide +kernel
theorem dL_law_1200 : decode mL_law.2.1 1200 = .ok (.iload 6, 2) := by decide +kernel
theorem dL_law_1202 : decode mL_law.2.1 1202 = .ok (.ifCond .ne 15, 3) := by decide +kernel
theorem dL_law_1205 : decode mL_law.2.1 1205 = .ok (.aload_n 3, 1) := by decide +kernel
theorem dL_law_1206 : decode mL_law.2.1 1206 = .ok (.iconst 0, 1) := by decide +kernel
theorem dL_law_1207 : decode mL_law.2.1 1207 = .ok (.laload, 1) := by decide +kernel
theorem dL_law_1208 : decode mL_law.2.1 1208 = .ok (.iload 7, 2) := by decide +kernel
theorem dL_law_1210 : decode mL_law.2.1 1210 = .ok (.i2l, 1) := by decide +kernel
theorem dL_law_1211 : decode mL_law.2.1 1211 = .ok (.lcmp, 1) := by decide +kernel
theorem dL_law_1212 : decode mL_law.2.1 1212 = .ok (.ifCond .eq 5, 3) := by decide +kernel
theorem dL_law_1215 : decode mL_law.2.1 1215 = .ok (.iconst 0, 1) := by decide +kernel
theorem dL_law_1216 : decode mL_law.2.1 1216 = .ok (.ireturn, 1) := by decide +kernel
theorem dL_law_1217 : decode mL_law.2.1 1217 = .ok (.goto 416, 3) := by decide +kernel
theorem dL_law_1220 : decode mL_law.2.1 1220 = .ok (.aload_n 1, 1) := by decide +kernel
theorem dL_law_1221 : decode mL_law.2.1 1221 = .ok (.aload_n 0, 1) := by decide +kernel
theorem dL_law_1222 : decode mL_law.2.1 1222 = .ok (.iload 5, 2) := by decide +kernel
theorem dL_law_1224 : decode mL_law.2.1 1224 = .ok (.iconst 1, 1) := by decide +kernel
theorem dL_law_1225 : decode mL_law.2.1 1225 = .ok (.iadd, 1) := by decide +kernel
theorem dL_law_1226 : decode mL_law.2.1 1226 = .ok (.iaload, 1) := by decide +kernel
theorem dL_law_1227 : decode mL_law.2.1 1227 = .ok (.aload_n 0, 1) := by decide +kernel
theorem dL_law_1228 : decode mL_law.2.1 1228 = .ok (.iload 5, 2) := by decide +kernel
theorem dL_law_1230 : decode mL_law.2.1 1230 = .ok (.iconst 2, 1) := by decide +kernel
theorem dL_law_1231 : decode mL_law.2.1 1231 = .ok (.iadd, 1) := by decide +kernel
theorem dL_law_1232 : decode mL_law.2.1 1232 = .ok (.iaload, 1) := by decide +kernel
theorem dL_law_1233 : decode mL_law.2.1 1233 = .ok (.aload_n 0, 1) := by decide +kernel
theorem dL_law_1234 : decode mL_law.2.1 1234 = .ok (.iload 5, 2) := by decide +kernel
theorem dL_law_1236 : decode mL_law.2.1 1236 = .ok (.iconst 3, 1) := by decide +kernel
theorem dL_law_1237 : decode mL_law.2.1 1237 = .ok (.iadd, 1) := by decide +kernel
theorem dL_law_1238 : decode mL_law.2.1 1238 = .ok (.iaload, 1) := by decide +kernel
theorem dL_law_1239 : decode mL_law.2.1 1239 = .ok (.i2l, 1) := by decide +kernel
theorem dL_law_1240 : decode mL_law.2.1 1240 = .ok (.bipush 32, 2) := by decide +kernel
theorem dL_law_1242 : decode mL_law.2.1 1242 = .ok (.lshl, 1) := by decide +kernel
theorem dL_law_1243 : decode mL_law.2.1 1243 = .ok (.aload_n 0, 1) := by decide +kernel
theorem dL_law_1244 : decode mL_law.2.1 1244 = .ok (.iload 5, 2) := by decide +kernel
theorem dL_law_1246 : decode mL_law.2.1 1246 = .ok (.iconst 4, 1) := by decide +kernel
theorem dL_law_1247 : decode mL_law.2.1 1247 = .ok (.iadd, 1) := by decide +kernel
theorem dL_law_1248 : decode mL_law.2.1 1248 = .ok (.iaload, 1) := by decide +kernel
theorem dL_law_1249 : decode mL_law.2.1 1249 = .ok (.i2l, 1) := by decide +kernel
theorem dL_law_1250 : decode mL_law.2.1 1250 = .ok (.ldc2_w 94, 3) := by decide +kernel
theorem dL_law_1253 : decode mL_law.2.1 1253 = .ok (.land, 1) := by decide +kernel
theorem dL_law_1254 : decode mL_law.2.1 1254 = .ok (.lor, 1) := by decide +kernel
theorem dL_law_1255 : decode mL_law.2.1 1255 = .ok (.aload_n 3, 1) := by decide +kernel
theorem dL_law_1256 : decode mL_law.2.1 1256 = .ok (.invokestatic 154, 3) := by decide +kernel
theorem dL_law_1259 : decode mL_law.2.1 1259 = .ok (.istore 6, 2) := by decide +kernel
theorem dL_law_1261 : decode mL_law.2.1 1261 = .ok (.aload_n 2, 1) := by decide +kernel
theorem dL_law_1262 : decode mL_law.2.1 1262 = .ok (.aload_n 0, 1) := by decide +kernel
theorem dL_law_1263 : decode mL_law.2.1 1263 = .ok (.iload 5, 2) := by decide +kernel
theorem dL_law_1265 : decode mL_law.2.1 1265 = .ok (.iconst 1, 1) := by decide +kernel
theorem dL_law_1266 : decode mL_law.2.1 1266 = .ok (.iadd, 1) := by decide +kernel
theorem dL_law_1267 : decode mL_law.2.1 1267 = .ok (.iaload, 1) := by decide +kernel
theorem dL_law_1268 : decode mL_law.2.1 1268 = .ok (.aload_n 0, 1) := by decide +kernel
theorem dL_law_1269 : decode mL_law.2.1 1269 = .ok (.iload 5, 2) := by decide +kernel
theorem dL_law_1271 : decode mL_law.2.1 1271 = .ok (.iconst 2, 1) := by decide +kernel
theorem dL_law_1272 : decode mL_law.2.1 1272 = .ok (.iadd, 1) := by decide +kernel
theorem dL_law_1273 : decode mL_law.2.1 1273 = .ok (.iaload, 1) := by decide +kernel
theorem dL_law_1274 : decode mL_law.2.1 1274 = .ok (.aload_n 0, 1) := by decide +kernel
theorem dL_law_1275 : decode mL_law.2.1 1275 = .ok (.iload 5, 2) := by decide +kernel
theorem dL_law_1277 : decode mL_law.2.1 1277 = .ok (.iconst 3, 1) := by decide +kernel
theorem dL_law_1278 : decode mL_law.2.1 1278 = .ok (.iadd, 1) := by decide +kernel
theorem dL_law_1279 : decode mL_law.2.1 1279 = .ok (.iaload, 1) := by decide +kernel
theorem dL_law_1280 : decode mL_law.2.1 1280 = .ok (.i2l, 1) := by decide +kernel
theorem dL_law_1281 : decode mL_law.2.1 1281 = .ok (.bipush 32, 2) := by decide +kernel
theorem dL_law_1283 : decode mL_law.2.1 1283 = .ok (.lshl, 1) := by decide +kernel
theorem dL_law_1284 : decode mL_law.2.1 1284 = .ok (.aload_n 0, 1) := by decide +kernel
theorem dL_law_1285 : decode mL_law.2.1 1285 = .ok (.iload 5, 2) := by decide +kernel
theorem dL_law_1287 : decode mL_law.2.1 1287 = .ok (.iconst 4, 1) := by decide +kernel
theorem dL_law_1288 : decode mL_law.2.1 1288 = .ok (.iadd, 1) := by decide +kernel
theorem dL_law_1289 : decode mL_law.2.1 1289 = .ok (.iaload, 1) := by decide +kernel
theorem dL_law_1290 : decode mL_law.2.1 1290 = .ok (.i2l, 1) := by decide +kernel
theorem dL_law_1291 : decode mL_law.2.1 1291 = .ok (.ldc2_w 94, 3) := by decide +kernel
theorem dL_law_1294 : decode mL_law.2.1 1294 = .ok (.land, 1) := by decide +kernel
theorem dL_law_1295 : decode mL_law.2.1 1295 = .ok (.lor, 1) := by decide +kernel
theorem dL_law_1296 : decode mL_law.2.1 1296 = .ok (.invokevirtual 157, 3) := by decide +kernel
theorem dL_law_1299 : decode mL_law.2.1 1299 = .ok (.istore 7, 2) := by decide +kernel
theorem dL_law_1301 : decode mL_law.2.1 1301 = .ok (.aload_n 2, 1) := by decide +kernel
theorem dL_law_1302 : decode mL_law.2.1 1302 = .ok (.invokevirtual 102, 3) := by decide +kernel
theorem dL_law_1305 : decode mL_law.2.1 1305 = .ok (.iload 6, 2) := by decide +kernel
theorem dL_law_1307 : decode mL_law.2.1 1307 = .ok (.if_icmp .eq 5, 3) := by decide +kernel
theorem dL_law_1310 : decode mL_law.2.1 1310 = .ok (.iconst 0, 1) := by decide +kernel
theorem dL_law_1311 : decode mL_law.2.1 1311 = .ok (.ireturn, 1) := by decide +kernel
theorem dL_law_1312 : decode mL_law.2.1 1312 = .ok (.iload 6, 2) := by decide +kernel
theorem dL_law_1314 : decode mL_law.2.1 1314 = .ok (.ifCond .ne 15, 3) := by decide +kernel
theorem dL_law_1317 : decode mL_law.2.1 1317 = .ok (.aload_n 3, 1) := by decide +kernel
theorem dL_law_1318 : decode mL_law.2.1 1318 = .ok (.iconst 0, 1) := by decide +kernel
theorem dL_law_1319 : decode mL_law.2.1 1319 = .ok (.laload, 1) := by decide +kernel
theorem dL_law_1320 : decode mL_law.2.1 1320 = .ok (.iload 7, 2) := by decide +kernel
theorem dL_law_1322 : decode mL_law.2.1 1322 = .ok (.i2l, 1) := by decide +kernel
theorem dL_law_1323 : decode mL_law.2.1 1323 = .ok (.lcmp, 1) := by decide +kernel
theorem dL_law_1324 : decode mL_law.2.1 1324 = .ok (.ifCond .eq 5, 3) := by decide +kernel
theorem dL_law_1327 : decode mL_law.2.1 1327 = .ok (.iconst 0, 1) := by decide +kernel
theorem dL_law_1328 : decode mL_law.2.1 1328 = .ok (.ireturn, 1) := by decide +kernel
theorem dL_law_1329 : decode mL_law.2.1 1329 = .ok (.goto 304, 3) := by decide +kernel
theorem dL_law_1332 : decode mL_law.2.1 1332 = .ok (.aload_n 1, 1) := by decide +kernel
theorem dL_law_1333 : decode mL_law.2.1 1333 = .ok (.aload_n 0, 1) := by decide +kernel
theorem dL_law_1334 : decode mL_law.2.1 1334 = .ok (.iload 5, 2) := by decide +kernel
theorem dL_law_1336 : decode mL_law.2.1 1336 = .ok (.iconst 1, 1) := by decide +kernel
theorem dL_law_1337 : decode mL_law.2.1 1337 = .ok (.iadd, 1) := by decide +kernel
theorem dL_law_1338 : decode mL_law.2.1 1338 = .ok (.iaload, 1) := by decide +kernel
theorem dL_law_1339 : decode mL_law.2.1 1339 = .ok (.aload_n 3, 1) := by decide +kernel
theorem dL_law_1340 : decode mL_law.2.1 1340 = .ok (.invokestatic 158, 3) := by decide +kernel
theorem dL_law_1343 : decode mL_law.2.1 1343 = .ok (.istore 6, 2) := by decide +kernel
theorem dL_law_1345 : decode mL_law.2.1 1345 = .ok (.aload_n 2, 1) := by decide +kernel
theorem dL_law_1346 : decode mL_law.2.1 1346 = .ok (.aload_n 0, 1) := by decide +kernel
theorem dL_law_1347 : decode mL_law.2.1 1347 = .ok (.iload 5, 2) := by decide +kernel
theorem dL_law_1349 : decode mL_law.2.1 1349 = .ok (.iconst 1, 1) := by decide +kernel
theorem dL_law_1350 : decode mL_law.2.1 1350 = .ok (.iadd, 1) := by decide +kernel
theorem dL_law_1351 : decode mL_law.2.1 1351 = .ok (.iaload, 1) := by decide +kernel
theorem dL_law_1352 : decode mL_law.2.1 1352 = .ok (.invokevirtual 160, 3) := by decide +kernel
theorem dL_law_1355 : decode mL_law.2.1 1355 = .ok (.istore 7, 2) := by decide +kernel
theorem dL_law_1357 : decode mL_law.2.1 1357 = .ok (.aload_n 2, 1) := by decide +kernel
theorem dL_law_1358 : decode mL_law.2.1 1358 = .ok (.invokevirtual 102, 3) := by decide +kernel
theorem dL_law_1361 : decode mL_law.2.1 1361 = .ok (.iload 6, 2) := by decide +kernel
theorem dL_law_1363 : decode mL_law.2.1 1363 = .ok (.if_icmp .eq 5, 3) := by decide +kernel
theorem dL_law_1366 : decode mL_law.2.1 1366 = .ok (.iconst 0, 1) := by decide +kernel
theorem dL_law_1367 : decode mL_law.2.1 1367 = .ok (.ireturn, 1) := by decide +kernel
theorem dL_law_1368 : decode mL_law.2.1 1368 = .ok (.iload 6, 2) := by decide +kernel
theorem dL_law_1370 : decode mL_law.2.1 1370 = .ok (.ifCond .ne 15, 3) := by decide +kernel
theorem dL_law_1373 : decode mL_law.2.1 1373 = .ok (.aload_n 3, 1) := by decide +kernel
theorem dL_law_1374 : decode mL_law.2.1 1374 = .ok (.iconst 0, 1) := by decide +kernel
theorem dL_law_1375 : decode mL_law.2.1 1375 = .ok (.laload, 1) := by decide +kernel
theorem dL_law_1376 : decode mL_law.2.1 1376 = .ok (.iload 7, 2) := by decide +kernel
theorem dL_law_1378 : decode mL_law.2.1 1378 = .ok (.i2l, 1) := by decide +kernel
theorem dL_law_1379 : decode mL_law.2.1 1379 = .ok (.lcmp, 1) := by decide +kernel
theorem dL_law_1380 : decode mL_law.2.1 1380 = .ok (.ifCond .eq 5, 3) := by decide +kernel
theorem dL_law_1383 : decode mL_law.2.1 1383 = .ok (.iconst 0, 1) := by decide +kernel
theorem dL_law_1384 : decode mL_law.2.1 1384 = .ok (.ireturn, 1) := by decide +kernel
theorem dL_law_1385 : decode mL_law.2.1 1385 = .ok (.goto 248, 3) := by decide +kernel
theorem dL_law_1388 : decode mL_law.2.1 1388 = .ok (.aload_n 1, 1) := by decide +kernel
theorem dL_law_1389 : decode mL_law.2.1 1389 = .ok (.aload_n 0, 1) := by decide +kernel
theorem dL_law_1390 : decode mL_law.2.1 1390 = .ok (.iload 5, 2) := by decide +kernel
theorem dL_law_1392 : decode mL_law.2.1 1392 = .ok (.iconst 1, 1) := by decide +kernel
theorem dL_law_1393 : decode mL_law.2.1 1393 = .ok (.iadd, 1) := by decide +kernel
theorem dL_law_1394 : decode mL_law.2.1 1394 = .ok (.iaload, 1) := by decide +kernel
theorem dL_law_1395 : decode mL_law.2.1 1395 = .ok (.aload_n 3, 1) := by decide +kernel
theorem dL_law_1396 : decode mL_law.2.1 1396 = .ok (.invokestatic 161, 3) := by decide +kernel
theorem dL_law_1399 : decode mL_law.2.1 1399 = .ok (.istore 6, 2) := by decide +kernel
theorem dL_law_1401 : decode mL_law.2.1 1401 = .ok (.aload_n 2, 1) := by decide +kernel
theorem dL_law_1402 : decode mL_law.2.1 1402 = .ok (.aload_n 0, 1) := by decide +kernel
theorem dL_law_1403 : decode mL_law.2.1 1403 = .ok (.iload 5, 2) := by decide +kernel
theorem dL_law_1405 : decode mL_law.2.1 1405 = .ok (.iconst 1, 1) := by decide +kernel
theorem dL_law_1406 : decode mL_law.2.1 1406 = .ok (.iadd, 1) := by decide +kernel
theorem dL_law_1407 : decode mL_law.2.1 1407 = .ok (.iaload, 1) := by decide +kernel
theorem dL_law_1408 : decode mL_law.2.1 1408 = .ok (.invokevirtual 163, 3) := by decide +kernel
theorem dL_law_1411 : decode mL_law.2.1 1411 = .ok (.istore 7, 2) := by decide +kernel
theorem dL_law_1413 : decode mL_law.2.1 1413 = .ok (.aload_n 2, 1) := by decide +kernel
theorem dL_law_1414 : decode mL_law.2.1 1414 = .ok (.invokevirtual 102, 3) := by decide +kernel
theorem dL_law_1417 : decode mL_law.2.1 1417 = .ok (.iload 6, 2) := by decide +kernel
theorem dL_law_1419 : decode mL_law.2.1 1419 = .ok (.if_icmp .eq 5, 3) := by decide +kernel
theorem dL_law_1422 : decode mL_law.2.1 1422 = .ok (.iconst 0, 1) := by decide +kernel
theorem dL_law_1423 : decode mL_law.2.1 1423 = .ok (.ireturn, 1) := by decide +kernel
theorem dL_law_1424 : decode mL_law.2.1 1424 = .ok (.iload 6, 2) := by decide +kernel
theorem dL_law_1426 : decode mL_law.2.1 1426 = .ok (.ifCond .ne 15, 3) := by decide +kernel
theorem dL_law_1429 : decode mL_law.2.1 1429 = .ok (.aload_n 3, 1) := by decide +kernel
theorem dL_law_1430 : decode mL_law.2.1 1430 = .ok (.iconst 0, 1) := by decide +kernel
theorem dL_law_1431 : decode mL_law.2.1 1431 = .ok (.laload, 1) := by decide +kernel
theorem dL_law_1432 : decode mL_law.2.1 1432 = .ok (.iload 7, 2) := by decide +kernel
theorem dL_law_1434 : decode mL_law.2.1 1434 = .ok (.i2l, 1) := by decide +kernel
theorem dL_law_1435 : decode mL_law.2.1 1435 = .ok (.lcmp, 1) := by decide +kernel
theorem dL_law_1436 : decode mL_law.2.1 1436 = .ok (.ifCond .eq 5, 3) := by decide +kernel
theorem dL_law_1439 : decode mL_law.2.1 1439 = .ok (.iconst 0, 1) := by decide +kernel
theorem dL_law_1440 : decode mL_law.2.1 1440 = .ok (.ireturn, 1) := by decide +kernel
theorem dL_law_1441 : decode mL_law.2.1 1441 = .ok (.goto 192, 3) := by decide +kernel
theorem dL_law_1444 : decode mL_law.2.1 1444 = .ok (.aload_n 1, 1) := by decide +kernel
theorem dL_law_1445 : decode mL_law.2.1 1445 = .ok (.aload_n 0, 1) := by decide +kernel
theorem dL_law_1446 : decode mL_law.2.1 1446 = .ok (.iload 5, 2) := by decide +kernel
theorem dL_law_1448 : decode mL_law.2.1 1448 = .ok (.iconst 1, 1) := by decide +kernel
theorem dL_law_1449 : decode mL_law.2.1 1449 = .ok (.iadd, 1) := by decide +kernel
theorem dL_law_1450 : decode mL_law.2.1 1450 = .ok (.iaload, 1) := by decide +kernel
theorem dL_law_1451 : decode mL_law.2.1 1451 = .ok (.aload 4, 2) := by decide +kernel
theorem dL_law_1453 : decode mL_law.2.1 1453 = .ok (.invokestatic 164, 3) := by decide +kernel
theorem dL_law_1456 : decode mL_law.2.1 1456 = .ok (.istore 6, 2) := by decide +kernel
theorem dL_law_1458 : decode mL_law.2.1 1458 = .ok (.aload_n 2, 1) := by decide +kernel
theorem dL_law_1459 : decode mL_law.2.1 1459 = .ok (.aload_n 0, 1) := by decide +kernel
theorem dL_law_1460 : decode mL_law.2.1 1460 = .ok (.iload 5, 2) := by decide +kernel
theorem dL_law_1462 : decode mL_law.2.1 1462 = .ok (.iconst 1, 1) := by decide +kernel
theorem dL_law_1463 : decode mL_law.2.1 1463 = .ok (.iadd, 1) := by decide +kernel
theorem dL_law_1464 : decode mL_law.2.1 1464 = .ok (.iaload, 1) := by decide +kernel
theorem dL_law_1465 : decode mL_law.2.1 1465 = .ok (.invokevirtual 167, 3) := by decide +kernel
theorem dL_law_1468 : decode mL_law.2.1 1468 = .ok (.dstore 7, 2) := by decide +kernel
theorem dL_law_1470 : decode mL_law.2.1 1470 = .ok (.aload_n 2, 1) := by decide +kernel
theorem dL_law_1471 : decode mL_law.2.1 1471 = .ok (.invokevirtual 102, 3) := by decide +kernel
theorem dL_law_1474 : decode mL_law.2.1 1474 = .ok (.iload 6, 2) := by decide +kernel
theorem dL_law_1476 : decode mL_law.2.1 1476 = .ok (.if_icmp .eq 5, 3) := by decide +kernel
theorem dL_law_1479 : decode mL_law.2.1 1479 = .ok (.iconst 0, 1) := by decide +kernel
theorem dL_law_1480 : decode mL_law.2.1 1480 = .ok (.ireturn, 1) := by decide +kernel
theorem dL_law_1481 : decode mL_law.2.1 1481 = .ok (.iload 6, 2) := by decide +kernel
theorem dL_law_1483 : decode mL_law.2.1 1483 = .ok (.ifCond .ne 35, 3) := by decide +kernel
theorem dL_law_1486 : decode mL_law.2.1 1486 = .ok (.aload 4, 2) := by decide +kernel
theorem dL_law_1488 : decode mL_law.2.1 1488 = .ok (.iconst 0, 1) := by decide +kernel
theorem dL_law_1489 : decode mL_law.2.1 1489 = .ok (.daload, 1) := by decide +kernel
theorem dL_law_1490 : decode mL_law.2.1 1490 = .ok (.dload 7, 2) := by decide +kernel
theorem dL_law_1492 : decode mL_law.2.1 1492 = .ok (.dcmp .l, 1) := by decide +kernel
theorem dL_law_1493 : decode mL_law.2.1 1493 = .ok (.ifCond .eq 25, 3) := by decide +kernel
theorem dL_law_1496 : decode mL_law.2.1 1496 = .ok (.aload 4, 2) := by decide +kernel
theorem dL_law_1498 : decode mL_law.2.1 1498 = .ok (.iconst 0, 1) := by decide +kernel
theorem dL_law_1499 : decode mL_law.2.1 1499 = .ok (.daload, 1) := by decide +kernel
theorem dL_law_1500 : decode mL_law.2.1 1500 = .ok (.aload 4, 2) := by decide +kernel
theorem dL_law_1502 : decode mL_law.2.1 1502 = .ok (.iconst 0, 1) := by decide +kernel
theorem dL_law_1503 : decode mL_law.2.1 1503 = .ok (.daload, 1) := by decide +kernel
theorem dL_law_1504 : decode mL_law.2.1 1504 = .ok (.dcmp .l, 1) := by decide +kernel
theorem dL_law_1505 : decode mL_law.2.1 1505 = .ok (.ifCond .eq 11, 3) := by decide +kernel
theorem dL_law_1508 : decode mL_law.2.1 1508 = .ok (.dload 7, 2) := by decide +kernel
theorem dL_law_1510 : decode mL_law.2.1 1510 = .ok (.dload 7, 2) := by decide +kernel
theorem dL_law_1512 : decode mL_law.2.1 1512 = .ok (.dcmp .l, 1) := by decide +kernel
theorem dL_law_1513 : decode mL_law.2.1 1513 = .ok (.ifCond .ne 5, 3) := by decide +kernel
theorem dL_law_1516 : decode mL_law.2.1 1516 = .ok (.iconst 0, 1) := by decide +kernel
theorem dL_law_1517 : decode mL_law.2.1 1517 = .ok (.ireturn, 1) := by decide +kernel
theorem dL_law_1518 : decode mL_law.2.1 1518 = .ok (.goto 115, 3) := by decide +kernel
theorem dL_law_1521 : decode mL_law.2.1 1521 = .ok (.aload_n 1, 1) := by decide +kernel
theorem dL_law_1522 : decode mL_law.2.1 1522 = .ok (.aload_n 0, 1) := by decide +kernel
theorem dL_law_1523 : decode mL_law.2.1 1523 = .ok (.iload 5, 2) := by decide +kernel
theorem dL_law_1525 : decode mL_law.2.1 1525 = .ok (.iconst 1, 1) := by decide +kernel
theorem dL_law_1526 : decode mL_law.2.1 1526 = .ok (.iadd, 1) := by decide +kernel
theorem dL_law_1527 : decode mL_law.2.1 1527 = .ok (.iaload, 1) := by decide +kernel
theorem dL_law_1528 : decode mL_law.2.1 1528 = .ok (.aload_n 0, 1) := by decide +kernel
theorem dL_law_1529 : decode mL_law.2.1 1529 = .ok (.iload 5, 2) := by decide +kernel
theorem dL_law_1531 : decode mL_law.2.1 1531 = .ok (.iconst 2, 1) := by decide +kernel
theorem dL_law_1532 : decode mL_law.2.1 1532 = .ok (.iadd, 1) := by decide +kernel
theorem dL_law_1533 : decode mL_law.2.1 1533 = .ok (.iaload, 1) := by decide +kernel
theorem dL_law_1534 : decode mL_law.2.1 1534 = .ok (.aload_n 3, 1) := by decide +kernel
theorem dL_law_1535 : decode mL_law.2.1 1535 = .ok (.invokestatic 168, 3) := by decide +kernel
theorem dL_law_1538 : decode mL_law.2.1 1538 = .ok (.istore 6, 2) := by decide +kernel
theorem dL_law_1540 : decode mL_law.2.1 1540 = .ok (.aload_n 2, 1) := by decide +kernel
theorem dL_law_1541 : decode mL_law.2.1 1541 = .ok (.aload_n 0, 1) := by decide +kernel
theorem dL_law_1542 : decode mL_law.2.1 1542 = .ok (.iload 5, 2) := by decide +kernel
theorem dL_law_1544 : decode mL_law.2.1 1544 = .ok (.iconst 1, 1) := by decide +kernel
theorem dL_law_1545 : decode mL_law.2.1 1545 = .ok (.iadd, 1) := by decide +kernel
theorem dL_law_1546 : decode mL_law.2.1 1546 = .ok (.iaload, 1) := by decide +kernel
theorem dL_law_1547 : decode mL_law.2.1 1547 = .ok (.aload_n 0, 1) := by decide +kernel
theorem dL_law_1548 : decode mL_law.2.1 1548 = .ok (.iload 5, 2) := by decide +kernel
theorem dL_law_1550 : decode mL_law.2.1 1550 = .ok (.iconst 2, 1) := by decide +kernel
theorem dL_law_1551 : decode mL_law.2.1 1551 = .ok (.iadd, 1) := by decide +kernel
theorem dL_law_1552 : decode mL_law.2.1 1552 = .ok (.iaload, 1) := by decide +kernel
theorem dL_law_1553 : decode mL_law.2.1 1553 = .ok (.invokevirtual 170, 3) := by decide +kernel
theorem dL_law_1556 : decode mL_law.2.1 1556 = .ok (.istore 7, 2) := by decide +kernel
theorem dL_law_1558 : decode mL_law.2.1 1558 = .ok (.aload_n 2, 1) := by decide +kernel
theorem dL_law_1559 : decode mL_law.2.1 1559 = .ok (.invokevirtual 102, 3) := by decide +kernel
theorem dL_law_1562 : decode mL_law.2.1 1562 = .ok (.iload 6, 2) := by decide +kernel
theorem dL_law_1564 : decode mL_law.2.1 1564 = .ok (.if_icmp .eq 5, 3) := by decide +kernel
theorem dL_law_1567 : decode mL_law.2.1 1567 = .ok (.iconst 0, 1) := by decide +kernel
theorem dL_law_1568 : decode mL_law.2.1 1568 = .ok (.ireturn, 1) := by decide +kernel
theorem dL_law_1569 : decode mL_law.2.1 1569 = .ok (.iload 6, 2) := by decide +kernel
theorem dL_law_1571 : decode mL_law.2.1 1571 = .ok (.ifCond .ne 15, 3) := by decide +kernel
theorem dL_law_1574 : decode mL_law.2.1 1574 = .ok (.aload_n 3, 1) := by decide +kernel
theorem dL_law_1575 : decode mL_law.2.1 1575 = .ok (.iconst 0, 1) := by decide +kernel
theorem dL_law_1576 : decode mL_law.2.1 1576 = .ok (.laload, 1) := by decide +kernel
theorem dL_law_1577 : decode mL_law.2.1 1577 = .ok (.iload 7, 2) := by decide +kernel
theorem dL_law_1579 : decode mL_law.2.1 1579 = .ok (.i2l, 1) := by decide +kernel
theorem dL_law_1580 : decode mL_law.2.1 1580 = .ok (.lcmp, 1) := by decide +kernel
theorem dL_law_1581 : decode mL_law.2.1 1581 = .ok (.ifCond .eq 5, 3) := by decide +kernel
theorem dL_law_1584 : decode mL_law.2.1 1584 = .ok (.iconst 0, 1) := by decide +kernel
theorem dL_law_1585 : decode mL_law.2.1 1585 = .ok (.ireturn, 1) := by decide +kernel
theorem dL_law_1586 : decode mL_law.2.1 1586 = .ok (.goto 47, 3) := by decide +kernel
theorem dL_law_1589 : decode mL_law.2.1 1589 = .ok (.aload_n 1, 1) := by decide +kernel
theorem dL_law_1590 : decode mL_law.2.1 1590 = .ok (.aload_n 3, 1) := by decide +kernel
theorem dL_law_1591 : decode mL_law.2.1 1591 = .ok (.invokestatic 171, 3) := by decide +kernel
theorem dL_law_1594 : decode mL_law.2.1 1594 = .ok (.istore 6, 2) := by decide +kernel
theorem dL_law_1596 : decode mL_law.2.1 1596 = .ok (.aload_n 2, 1) := by decide +kernel
theorem dL_law_1597 : decode mL_law.2.1 1597 = .ok (.invokevirtual 173, 3) := by decide +kernel
theorem dL_law_1600 : decode mL_law.2.1 1600 = .ok (.istore 7, 2) := by decide +kernel
theorem dL_law_1602 : decode mL_law.2.1 1602 = .ok (.aload_n 2, 1) := by decide +kernel
theorem dL_law_1603 : decode mL_law.2.1 1603 = .ok (.invokevirtual 102, 3) := by decide +kernel
theorem dL_law_1606 : decode mL_law.2.1 1606 = .ok (.iload 6, 2) := by decide +kernel
theorem dL_law_1608 : decode mL_law.2.1 1608 = .ok (.if_icmp .eq 5, 3) := by decide +kernel
theorem dL_law_1611 : decode mL_law.2.1 1611 = .ok (.iconst 0, 1) := by decide +kernel
theorem dL_law_1612 : decode mL_law.2.1 1612 = .ok (.ireturn, 1) := by decide +kernel
theorem dL_law_1613 : decode mL_law.2.1 1613 = .ok (.iload 6, 2) := by decide +kernel
theorem dL_law_1615 : decode mL_law.2.1 1615 = .ok (.ifCond .ne 15, 3) := by decide +kernel
theorem dL_law_1618 : decode mL_law.2.1 1618 = .ok (.aload_n 3, 1) := by decide +kernel
theorem dL_law_1619 : decode mL_law.2.1 1619 = .ok (.iconst 0, 1) := by decide +kernel
theorem dL_law_1620 : decode mL_law.2.1 1620 = .ok (.laload, 1) := by decide +kernel
theorem dL_law_1621 : decode mL_law.2.1 1621 = .ok (.iload 7, 2) := by decide +kernel
theorem dL_law_1623 : decode mL_law.2.1 1623 = .ok (.i2l, 1) := by decide +kernel
theorem dL_law_1624 : decode mL_law.2.1 1624 = .ok (.lcmp, 1) := by decide +kernel
theorem dL_law_1625 : decode mL_law.2.1 1625 = .ok (.ifCond .eq 5, 3) := by decide +kernel
theorem dL_law_1628 : decode mL_law.2.1 1628 = .ok (.iconst 0, 1) := by decide +kernel
theorem dL_law_1629 : decode mL_law.2.1 1629 = .ok (.ireturn, 1) := by decide +kernel
theorem dL_law_1630 : decode mL_law.2.1 1630 = .ok (.goto 3, 3) := by decide +kernel
theorem dL_law_1633 : decode mL_law.2.1 1633 = .ok (.iinc 5 6, 3) := by decide +kernel
theorem dL_law_1636 : decode mL_law.2.1 1636 = .ok (.goto (-1608), 3) := by decide +kernel
theorem dL_law_1639 : decode mL_law.2.1 1639 = .ok (.iconst 1, 1) := by decide +kernel
theorem dL_law_1640 : decode mL_law.2.1 1640 = .ok (.ireturn, 1) := by decide +kernel
theorem hL_13 : Cond.classLink "TensorForgeLaw" 13 "java/lang/IllegalArgumentException" ∈ rk_tbl := (in_t1 198 rfl rfl)
theorem hL_23 : Cond.classLink "TensorForgeLaw" 23 "java/lang/IllegalStateException" ∈ rk_tbl := (in_t2 59 rfl rfl)
theorem hL_29 : Cond.classLink "TensorForgeLaw" 29 "java/lang/ArithmeticException" ∈ rk_tbl := (in_t2 191 rfl rfl)
theorem hL_73 : Cond.classLink "TensorForgeLaw" 73 "java/lang/UnsupportedOperationException" ∈ rk_tbl := (in_t3 191 rfl rfl)
theorem hL_78 : Cond.classLink "TensorForgeLaw" 78 "java/util/NoSuchElementException" ∈ rk_tbl := (in_t4 101 rfl rfl)
