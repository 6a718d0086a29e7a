theorem dX11_init_149 : decode cX11_init 149 = .ok (.bipush 10, 2) := by decide +kernel
theorem dX11_init_151 : decode cX11_init 151 = .ok (.newarray .int, 2) := by decide +kernel
theorem dX11_init_153 : decode cX11_init 153 = .ok (.putfield 64, 3) := by decide +kernel
theorem dX11_init_156 : decode cX11_init 156 = .ok (.aload_n 0, 1) := by decide +kernel
theorem dX11_init_157 : decode cX11_init 157 = .ok (.bipush (-6), 2) := by decide +kernel
theorem dX11_init_159 : decode cX11_init 159 = .ok (.putfield 67, 3) := by decide +kernel
theorem dX11_init_162 : decode cX11_init 162 = .ok (.aload_n 0, 1) := by decide +kernel
theorem dX11_init_163 : decode cX11_init 163 = .ok (.bipush 10, 2) := by decide +kernel
theorem dX11_init_165 : decode cX11_init 165 = .ok (.newarray .int, 2) := by decide +kernel
theorem dX11_init_167 : decode cX11_init 167 = .ok (.putfield 71, 3) := by decide +kernel
theorem dX11_init_170 : decode cX11_init 170 = .ok (.aload_n 0, 1) := by decide +kernel
theorem dX11_init_171 : decode cX11_init 171 = .ok (.bipush 10, 2) := by decide +kernel
theorem dX11_init_173 : decode cX11_init 173 = .ok (.newarray .int, 2) := by decide +kernel
theorem dX11_init_175 : decode cX11_init 175 = .ok (.putfield 74, 3) := by decide +kernel
theorem dX11_init_178 : decode cX11_init 178 = .ok (.aload_n 0, 1) := by decide +kernel
theorem dX11_init_179 : decode cX11_init 179 = .ok (.bipush 10, 2) := by decide +kernel
theorem dX11_init_181 : decode cX11_init 181 = .ok (.newarray .int, 2) := by decide +kernel
theorem dX11_init_183 : decode cX11_init 183 = .ok (.putfield 77, 3) := by decide +kernel
theorem dX11_init_186 : decode cX11_init 186 = .ok (.aload_n 0, 1) := by decide +kernel
theorem dX11_init_187 : decode cX11_init 187 = .ok (.bipush 12, 2) := by decide +kernel
theorem dX11_init_189 : decode cX11_init 189 = .ok (.newarray .int, 2) := by decide +kernel
theorem dX11_init_191 : decode cX11_init 191 = .ok (.putfield 80, 3) := by decide +kernel
theorem dX11_init_194 : decode cX11_init 194 = .ok (.aload_n 0, 1) := by decide +kernel
theorem dX11_init_195 : decode cX11_init 195 = .ok (.bipush 12, 2) := by decide +kernel
theorem dX11_init_197 : decode cX11_init 197 = .ok (.newarray .int, 2) := by decide +kernel
theorem dX11_init_199 : decode cX11_init 199 = .ok (.putfield 83, 3) := by decide +kernel
theorem dX11_init_202 : decode cX11_init 202 = .ok (.aload_n 0, 1) := by decide +kernel
theorem dX11_init_203 : decode cX11_init 203 = .ok (.bipush 10, 2) := by decide +kernel
theorem dX11_init_205 : decode cX11_init 205 = .ok (.newarray .int, 2) := by decide +kernel
theorem dX11_init_207 : decode cX11_init 207 = .ok (.putfield 86, 3) := by decide +kernel
theorem dX11_init_210 : decode cX11_init 210 = .ok (.aload_n 0, 1) := by decide +kernel
theorem dX11_init_211 : decode cX11_init 211 = .ok (.bipush 10, 2) := by decide +kernel
theorem dX11_init_213 : decode cX11_init 213 = .ok (.newarray .int, 2) := by decide +kernel
theorem dX11_init_215 : decode cX11_init 215 = .ok (.putfield 89, 3) := by decide +kernel
theorem dX11_init_218 : decode cX11_init 218 = .ok (.aload_n 0, 1) := by decide +kernel
theorem dX11_init_219 : decode cX11_init 219 = .ok (.bipush 10, 2) := by decide +kernel
theorem dX11_init_221 : decode cX11_init 221 = .ok (.newarray .int, 2) := by decide +kernel
theorem dX11_init_223 : decode cX11_init 223 = .ok (.putfield 92, 3) := by decide +kernel
theorem dX11_init_226 : decode cX11_init 226 = .ok (.aload_n 0, 1) := by decide +kernel
theorem dX11_init_227 : decode cX11_init 227 = .ok (.bipush 10, 2) := by decide +kernel
theorem dX11_init_229 : decode cX11_init 229 = .ok (.newarray .int, 2) := by decide +kernel
theorem dX11_init_231 : decode cX11_init 231 = .ok (.putfield 95, 3) := by decide +kernel
theorem dX11_init_234 : decode cX11_init 234 = .ok (.aload_n 0, 1) := by decide +kernel
theorem dX11_init_235 : decode cX11_init 235 = .ok (.bipush 40, 2) := by decide +kernel
theorem dX11_init_237 : decode cX11_init 237 = .ok (.newarray .int, 2) := by decide +kernel
theorem dX11_init_239 : decode cX11_init 239 = .ok (.putfield 98, 3) := by decide +kernel
theorem dX11_init_242 : decode cX11_init 242 = .ok (.aload_n 0, 1) := by decide +kernel
theorem dX11_init_243 : decode cX11_init 243 = .ok (.bipush 40, 2) := by decide +kernel
theorem dX11_init_245 : decode cX11_init 245 = .ok (.newarray .int, 2) := by decide +kernel
theorem dX11_init_247 : decode cX11_init 247 = .ok (.putfield 101, 3) := by decide +kernel
theorem dX11_init_250 : decode cX11_init 250 = .ok (.aload_n 0, 1) := by decide +kernel
theorem dX11_init_251 : decode cX11_init 251 = .ok (.bipush 13, 2) := by decide +kernel
theorem dX11_init_253 : decode cX11_init 253 = .ok (.newarray .long, 2) := by decide +kernel
theorem dX11_init_255 : decode cX11_init 255 = .ok (.putfield 104, 3) := by decide +kernel
theorem dX11_init_258 : decode cX11_init 258 = .ok (.aload_n 0, 1) := by decide +kernel
theorem dX11_init_259 : decode cX11_init 259 = .ok (.bipush 13, 2) := by decide +kernel
theorem dX11_init_261 : decode cX11_init 261 = .ok (.newarray .long, 2) := by decide +kernel
theorem dX11_init_263 : decode cX11_init 263 = .ok (.putfield 108, 3) := by decide +kernel
theorem dX11_init_266 : decode cX11_init 266 = .ok (.aload_n 0, 1) := by decide +kernel
theorem dX11_init_267 : decode cX11_init 267 = .ok (.bipush 40, 2) := by decide +kernel
theorem dX11_init_269 : decode cX11_init 269 = .ok (.newarray .int, 2) := by decide +kernel
theorem dX11_init_271 : decode cX11_init 271 = .ok (.putfield 111, 3) := by decide +kernel
theorem dX11_init_274 : decode cX11_init 274 = .ok (.aload_n 0, 1) := by decide +kernel
theorem dX11_init_275 : decode cX11_init 275 = .ok (.bipush 40, 2) := by decide +kernel
theorem dX11_init_277 : decode cX11_init 277 = .ok (.newarray .int, 2) := by decide +kernel
theorem dX11_init_279 : decode cX11_init 279 = .ok (.putfield 114, 3) := by decide +kernel
theorem dX11_init_282 : decode cX11_init 282 = .ok (.aload_n 0, 1) := by decide +kernel
theorem dX11_init_283 : decode cX11_init 283 = .ok (.bipush 40, 2) := by decide +kernel
theorem dX11_init_285 : decode cX11_init 285 = .ok (.newarray .int, 2) := by decide +kernel
theorem dX11_init_287 : decode cX11_init 287 = .ok (.putfield 117, 3) := by decide +kernel
theorem dX11_init_290 : decode cX11_init 290 = .ok (.aload_n 0, 1) := by decide +kernel
theorem dX11_init_291 : decode cX11_init 291 = .ok (.bipush 10, 2) := by decide +kernel
theorem dX11_init_293 : decode cX11_init 293 = .ok (.newarray .int, 2) := by decide +kernel
theorem dX11_init_295 : decode cX11_init 295 = .ok (.putfield 120, 3) := by decide +kernel
theorem dX11_init_298 : decode cX11_init 298 = .ok (.aload_n 0, 1) := by decide +kernel
theorem dX11_init_299 : decode cX11_init 299 = .ok (.bipush 10, 2) := by decide +kernel
theorem dX11_init_301 : decode cX11_init 301 = .ok (.newarray .int, 2) := by decide +kernel
theorem dX11_init_303 : decode cX11_init 303 = .ok (.putfield 123, 3) := by decide +kernel
theorem dX11_init_306 : decode cX11_init 306 = .ok (.aload_n 0, 1) := by decide +kernel
theorem dX11_init_307 : decode cX11_init 307 = .ok (.bipush 30, 2) := by decide +kernel
theorem dX11_init_309 : decode cX11_init 309 = .ok (.newarray .int, 2) := by decide +kernel
theorem dX11_init_311 : decode cX11_init 311 = .ok (.putfield 126, 3) := by decide +kernel
theorem dX11_init_314 : decode cX11_init 314 = .ok (.aload_n 0, 1) := by decide +kernel
theorem dX11_init_315 : decode cX11_init 315 = .ok (.bipush 12, 2) := by decide +kernel
theorem dX11_init_317 : decode cX11_init 317 = .ok (.newarray .int, 2) := by decide +kernel
theorem dX11_init_319 : decode cX11_init 319 = .ok (.putfield 129, 3) := by decide +kernel
theorem dX11_init_322 : decode cX11_init 322 = .ok (.aload_n 0, 1) := by decide +kernel
theorem dX11_init_323 : decode cX11_init 323 = .ok (.bipush 8, 2) := by decide +kernel
theorem dX11_init_325 : decode cX11_init 325 = .ok (.newarray .int, 2) := by decide +kernel
theorem dX11_init_327 : decode cX11_init 327 = .ok (.putfield 132, 3) := by decide +kernel
theorem dX11_init_330 : decode cX11_init 330 = .ok (.aload_n 0, 1) := by decide +kernel
theorem dX11_init_331 : decode cX11_init 331 = .ok (.bipush 12, 2) := by decide +kernel
theorem dX11_init_333 : decode cX11_init 333 = .ok (.newarray .int, 2) := by decide +kernel
theorem dX11_init_335 : decode cX11_init 335 = .ok (.putfield 135, 3) := by decide +kernel
theorem dX11_init_338 : decode cX11_init 338 = .ok (.iconst 0, 1) := by decide +kernel
theorem dX11_init_339 : decode cX11_init 339 = .ok (.istore_n 1, 1) := by decide +kernel
theorem dX11_init_340 : decode cX11_init 340 = .ok (.iload_n 1, 1) := by decide +kernel
theorem dX11_init_341 : decode cX11_init 341 = .ok (.bipush 8, 2) := by decide +kernel
theorem dX11_init_343 : decode cX11_init 343 = .ok (.if_icmp .ge 17, 3) := by decide +kernel
theorem dX11_init_346 : decode cX11_init 346 = .ok (.aload_n 0, 1) := by decide +kernel
theorem dX11_init_347 : decode cX11_init 347 = .ok (.getfield 7, 3) := by decide +kernel
theorem dX11_init_350 : decode cX11_init 350 = .ok (.iload_n 1, 1) := by decide +kernel
theorem dX11_init_351 : decode cX11_init 351 = .ok (.bipush 50, 2) := by decide +kernel
theorem dX11_init_353 : decode cX11_init 353 = .ok (.iastore, 1) := by decide +kernel
theorem dX11_init_354 : decode cX11_init 354 = .ok (.iinc 1 1, 3) := by decide +kernel
theorem dX11_init_357 : decode cX11_init 357 = .ok (.goto (-17), 3) := by decide +kernel
theorem dX11_init_360 : decode cX11_init 360 = .ok (.iconst 0, 1) := by decide +kernel
theorem dX11_init_361 : decode cX11_init 361 = .ok (.istore_n 1, 1) := by decide +kernel
theorem dX11_init_362 : decode cX11_init 362 = .ok (.iload_n 1, 1) := by decide +kernel
theorem dX11_init_363 : decode cX11_init 363 = .ok (.bipush 10, 2) := by decide +kernel
theorem dX11_init_365 : decode cX11_init 365 = .ok (.if_icmp .ge 16, 3) := by decide +kernel
theorem dX11_init_368 : decode cX11_init 368 = .ok (.aload_n 0, 1) := by decide +kernel
theorem dX11_init_369 : decode cX11_init 369 = .ok (.getfield 64, 3) := by decide +kernel
theorem dX11_init_372 : decode cX11_init 372 = .ok (.iload_n 1, 1) := by decide +kernel
theorem dX11_init_373 : decode cX11_init 373 = .ok (.iload_n 1, 1) := by decide +kernel
theorem dX11_init_374 : decode cX11_init 374 = .ok (.iastore, 1) := by decide +kernel
theorem dX11_init_375 : decode cX11_init 375 = .ok (.iinc 1 1, 3) := by decide +kernel
theorem dX11_init_378 : decode cX11_init 378 = .ok (.goto (-16), 3) := by decide +kernel
theorem dX11_init_381 : decode cX11_init 381 = .ok (.aload_n 0, 1) := by decide +kernel
theorem dX11_init_382 : decode cX11_init 382 = .ok (.getfield 37, 3) := by decide +kernel
theorem dX11_init_385 : decode cX11_init 385 = .ok (.iconst 0, 1) := by decide +kernel
theorem dX11_init_386 : decode cX11_init 386 = .ok (.bipush 20, 2) := by decide +kernel
theorem dX11_init_388 : decode cX11_init 388 = .ok (.iastore, 1) := by decide +kernel
theorem dX11_init_389 : decode cX11_init 389 = .ok (.aload_n 0, 1) := by decide +kernel
theorem dX11_init_390 : decode cX11_init 390 = .ok (.getfield 37, 3) := by decide +kernel
theorem dX11_init_393 : decode cX11_init 393 = .ok (.iconst 1, 1) := by decide +kernel
theorem dX11_init_394 : decode cX11_init 394 = .ok (.iconst 3, 1) := by decide +kernel
theorem dX11_init_395 : decode cX11_init 395 = .ok (.iastore, 1) := by decide +kernel
theorem dX11_init_396 : decode cX11_init 396 = .ok (.aload_n 0, 1) := by decide +kernel
theorem dX11_init_397 : decode cX11_init 397 = .ok (.getfield 37, 3) := by decide +kernel
theorem dX11_init_400 : decode cX11_init 400 = .ok (.iconst 2, 1) := by decide +kernel
theorem dX11_init_401 : decode cX11_init 401 = .ok (.iconst 2, 1) := by decide +kernel
theorem dX11_init_402 : decode cX11_init 402 = .ok (.iastore, 1) := by decide +kernel
theorem dX11_init_403 : decode cX11_init 403 = .ok (.aload_n 0, 1) := by decide +kernel
theorem dX11_init_404 : decode cX11_init 404 = .ok (.getfield 37, 3) := by decide +kernel
theorem dX11_init_407 : decode cX11_init 407 = .ok (.iconst 3, 1) := by decide +kernel
theorem dX11_init_408 : decode cX11_init 408 = .ok (.iconst 2, 1) := by decide +kernel
theorem dX11_init_409 : decode cX11_init 409 = .ok (.iastore, 1) := by decide +kernel
theorem dX11_init_410 : decode cX11_init 410 = .ok (.aload_n 0, 1) := by decide +kernel
theorem dX11_init_411 : decode cX11_init 411 = .ok (.getfield 37, 3) := by decide +kernel
theorem dX11_init_414 : decode cX11_init 414 = .ok (.iconst 4, 1) := by decide +kernel
theorem dX11_init_415 : decode cX11_init 415 = .ok (.iconst 2, 1) := by decide +kernel
theorem dX11_init_416 : decode cX11_init 416 = .ok (.iastore, 1) := by decide +kernel
theorem dX11_init_417 : decode cX11_init 417 = .ok (.return_, 1) := by decide +kernel
theorem dX11_in_0 : decode cX11_in 0 = .ok (.iload_n 0, 1) := by decide +kernel
theorem dX11_in_1 : decode cX11_in 1 = .ok (.iload_n 1, 1) := by decide +kernel
theorem dX11_in_2 : decode cX11_in 2 = .ok (.if_icmp .lt 12, 3) := by decide +kernel
theorem dX11_in_5 : decode cX11_in 5 = .ok (.iload_n 0, 1) := by decide +kernel
theorem dX11_in_6 : decode cX11_in 6 = .ok (.iload_n 2, 1) := by decide +kernel
theorem dX11_in_7 : decode cX11_in 7 = .ok (.if_icmp .gt 7, 3) := by decide +kernel
theorem dX11_in_10 : decode cX11_in 10 = .ok (.iconst 1, 1) := by decide +kernel
theorem dX11_in_11 : decode cX11_in 11 = .ok (.goto 4, 3) := by decide +kernel
theorem dX11_in_14 : decode cX11_in 14 = .ok (.iconst 0, 1) := by decide +kernel
theorem dX11_in_15 : decode cX11_in 15 = .ok (.ireturn, 1) := by decide +kernel
set_option maxRecDepth 20000 in
theorem ggX11_isSide_X11_in : GoodIn wsX11_isSide wsX11_in := goodIn_r _ [4] (by decide +kernel) (by decide +kernel)
set_option maxRecDepth 20000 in
theorem gX11_isSide_X11_in : GoodIn wsX11_isSide (va_wsS RX11 138 yX11_in wsX11_in) := goodIn_app (goodIn_of _ (by decide +kernel)) ggX11_isSide_X11_in
theorem dX11_isSide_0 : decode cX11_isSide 0 = .ok (.iload_n 0, 1) := by decide +kernel
theorem dX11_isSide_1 : decode cX11_isSide 1 = .ok (.iconst 0, 1) := by decide +kernel
theorem dX11_isSide_2 : decode cX11_isSide 2 = .ok (.bipush 7, 2) := by decide +kernel
theorem dX11_isSide_4 : decode cX11_isSide 4 = .ok (.invokestatic 138, 3) := by decide +kernel
theorem dX11_isSide_7 : decode cX11_isSide 7 = .ok (.ireturn, 1) := by decide +kernel
set_option maxRecDepth 20000 in
theorem ggX11_isTen_X11_in : GoodIn wsX11_isTen wsX11_in := goodIn_r _ [4] (by decide +kernel) (by decide +kernel)
set_option maxRecDepth 20000 in
theorem gX11_isTen_X11_in : GoodIn wsX11_isTen (va_wsS RX11 138 yX11_in wsX11_in) := goodIn_app (goodIn_of _ (by decide +kernel)) ggX11_isTen_X11_in
theorem dX11_isTen_0 : decode cX11_isTen 0 = .ok (.iload_n 0, 1) := by decide +kernel
theorem dX11_isTen_1 : decode cX11_isTen 1 = .ok (.iconst 0, 1) := by decide +kernel
theorem dX11_isTen_2 : decode cX11_isTen 2 = .ok (.bipush 9, 2) := by decide +kernel
theorem dX11_isTen_4 : decode cX11_isTen 4 = .ok (.invokestatic 138, 3) := by decide +kernel
theorem dX11_isTen_7 : decode cX11_isTen 7 = .ok (.ireturn, 1) := by decide +kernel
set_option maxRecDepth 20000 in
theorem ggX11_isMatch_X11_in : GoodIn wsX11_isMatch wsX11_in := goodIn_r _ [5] (by decide +kernel) (by decide +kernel)
set_option maxRecDepth 20000 in
theorem gX11_isMatch_X11_in : GoodIn wsX11_isMatch (va_wsS RX11 138 yX11_in wsX11_in) := goodIn_app (goodIn_of _ (by decide +kernel)) ggX11_isMatch_X11_in
theorem dX11_isMatch_0 : decode cX11_isMatch 0 = .ok (.iload_n 1, 1) := by decide +kernel
theorem dX11_isMatch_1 : decode cX11_isMatch 1 = .ok (.iconst 0, 1) := by decide +kernel
theorem dX11_isMatch_2 : decode cX11_isMatch 2 = .ok (.aload_n 0, 1) := by decide +kernel
theorem dX11_isMatch_3 : decode cX11_isMatch 3 = .ok (.getfield 142, 3) := by decide +kernel
theorem dX11_isMatch_6 : decode cX11_isMatch 6 = .ok (.iconst 1, 1) := by decide +kernel
theorem dX11_isMatch_7 : decode cX11_isMatch 7 = .ok (.isub, 1) := by decide +kernel
theorem dX11_isMatch_8 : decode cX11_isMatch 8 = .ok (.invokestatic 138, 3) := by decide +kernel
theorem dX11_isMatch_11 : decode cX11_isMatch 11 = .ok (.ireturn, 1) := by decide +kernel
theorem dX11_common_0 : decode cX11_common 0 = .ok (.lload_n 0, 1) := by decide +kernel
theorem dX11_common_1 : decode cX11_common 1 = .ok (.lstore 4, 2) := by decide +kernel
theorem dX11_common_3 : decode cX11_common 3 = .ok (.lload_n 2, 1) := by decide +kernel
theorem dX11_common_4 : decode cX11_common 4 = .ok (.lstore 6, 2) := by decide +kernel
theorem dX11_common_6 : decode cX11_common 6 = .ok (.lload 6, 2) := by decide +kernel
theorem dX11_common_8 : decode cX11_common 8 = .ok (.lconst 0, 1) := by decide +kernel
theorem dX11_common_9 : decode cX11_common 9 = .ok (.lcmp, 1) := by decide +kernel
theorem dX11_common_10 : decode cX11_common 10 = .ok (.ifCond .eq 21, 3) := by decide +kernel
theorem dX11_common_13 : decode cX11_common 13 = .ok (.lload 4, 2) := by decide +kernel
theorem dX11_common_15 : decode cX11_common 15 = .ok (.lload 6, 2) := by decide +kernel
theorem dX11_common_17 : decode cX11_common 17 = .ok (.lrem, 1) := by decide +kernel
theorem dX11_common_18 : decode cX11_common 18 = .ok (.lstore 8, 2) := by decide +kernel
theorem dX11_common_20 : decode cX11_common 20 = .ok (.lload 6, 2) := by decide +kernel
theorem dX11_common_22 : decode cX11_common 22 = .ok (.lstore 4, 2) := by decide +kernel
theorem dX11_common_24 : decode cX11_common 24 = .ok (.lload 8, 2) := by decide +kernel
theorem dX11_common_26 : decode cX11_common 26 = .ok (.lstore 6, 2) := by decide +kernel
theorem dX11_common_28 : decode cX11_common 28 = .ok (.goto (-22), 3) := by decide +kernel
theorem dX11_common_31 : decode cX11_common 31 = .ok (.lload 4, 2) := by decide +kernel
theorem dX11_common_33 : decode cX11_common 33 = .ok (.lreturn, 1) := by decide +kernel
set_option maxRecDepth 20000 in
theorem ggX11_term_X11_common : GoodIn wsX11_term wsX11_common := goodIn_r _ [4] (by decide +kernel) (by decide +kernel)
set_option maxRecDepth 20000 in
theorem gX11_term_X11_common : GoodIn wsX11_term (va_wsS RX11 145 yX11_common wsX11_common) := goodIn_app (goodIn_of _ (by decide +kernel)) ggX11_term_X11_common
theorem dX11_term_0 : decode cX11_term 0 = .ok (.lload_n 0, 1) := by decide +kernel
theorem dX11_term_1 : decode cX11_term 1 = .ok (.lload_n 2, 1) := by decide +kernel
theorem dX11_term_2 : decode cX11_term 2 = .ok (.invokestatic 145, 3) := by decide +kernel
theorem dX11_term_5 : decode cX11_term 5 = .ok (.lstore 5, 2) := by decide +kernel
theorem dX11_term_7 : decode cX11_term 7 = .ok (.iload 4, 2) := by decide +kernel
theorem dX11_term_9 : decode cX11_term 9 = .ok (.ifCond .ne 10, 3) := by decide +kernel
theorem dX11_term_12 : decode cX11_term 12 = .ok (.lload_n 0, 1) := by decide +kernel
theorem dX11_term_13 : decode cX11_term 13 = .ok (.lload 5, 2) := by decide +kernel
theorem dX11_term_15 : decode cX11_term 15 = .ok (.ldiv, 1) := by decide +kernel
theorem dX11_term_16 : decode cX11_term 16 = .ok (.goto 7, 3) := by decide +kernel
theorem dX11_term_19 : decode cX11_term 19 = .ok (.lload_n 2, 1) := by decide +kernel
theorem dX11_term_20 : decode cX11_term 20 = .ok (.lload 5, 2) := by decide +kernel
theorem dX11_term_22 : decode cX11_term 22 = .ok (.ldiv, 1) := by decide +kernel
theorem dX11_term_23 : decode cX11_term 23 = .ok (.lreturn, 1) := by decide +kernel
set_option maxRecDepth 20000 in
theorem ggX11_skill_X11_isSide : GoodIn wsX11_skill wsX11_isSide := goodIn_r _ [5, 6, 7, 4, 8] (by decide +kernel) (by decide +kernel)
set_option maxRecDepth 20000 in
theorem gX11_skill_X11_isSide : GoodIn wsX11_skill (va_wsS RX11 149 yX11_isSide wsX11_isSide) := goodIn_app (goodIn_of _ (by decide +kernel)) ggX11_skill_X11_isSide
set_option maxRecDepth 20000 in
theorem ggX11_skill_X11_in : GoodIn wsX11_skill wsX11_in := goodIn_r _ [8] (by decide +kernel) (by decide +kernel)
set_option maxRecDepth 20000 in
theorem gX11_skill_X11_in : GoodIn wsX11_skill (va_wsS RX11 138 yX11_in wsX11_in) := goodIn_app (goodIn_of _ (by decide +kernel)) ggX11_skill_X11_in
theorem dX11_skill_0 : decode cX11_skill 0 = .ok (.iload_n 1, 1) := by decide +kernel
theorem dX11_skill_1 : decode cX11_skill 1 = .ok (.invokestatic 149, 3) := by decide +kernel
theorem dX11_skill_4 : decode cX11_skill 4 = .ok (.ifCond .ne 5, 3) := by decide +kernel
theorem dX11_skill_7 : decode cX11_skill 7 = .ok (.iconst (-1), 1) := by decide +kernel
theorem dX11_skill_8 : decode cX11_skill 8 = .ok (.ireturn, 1) := by decide +kernel
theorem dX11_skill_9 : decode cX11_skill 9 = .ok (.iload_n 2, 1) := by decide +kernel
theorem dX11_skill_10 : decode cX11_skill 10 = .ok (.iconst 0, 1) := by decide +kernel
theorem dX11_skill_11 : decode cX11_skill 11 = .ok (.bipush 99, 2) := by decide +kernel
theorem dX11_skill_13 : decode cX11_skill 13 = .ok (.invokestatic 138, 3) := by decide +kernel
theorem dX11_skill_16 : decode cX11_skill 16 = .ok (.ifCond .ne 6, 3) := by decide +kernel
theorem dX11_skill_19 : decode cX11_skill 19 = .ok (.bipush (-2), 2) := by decide +kernel
theorem dX11_skill_21 : decode cX11_skill 21 = .ok (.ireturn, 1) := by decide +kernel
theorem dX11_skill_22 : decode cX11_skill 22 = .ok (.aload_n 0, 1) := by decide +kernel
theorem dX11_skill_23 : decode cX11_skill 23 = .ok (.getfield 7, 3) := by decide +kernel
theorem dX11_skill_26 : decode cX11_skill 26 = .ok (.iload_n 1, 1) := by decide +kernel
theorem dX11_skill_27 : decode cX11_skill 27 = .ok (.iaload, 1) := by decide +kernel
theorem dX11_skill_28 : decode cX11_skill 28 = .ok (.istore_n 3, 1) := by decide +kernel
theorem dX11_skill_29 : decode cX11_skill 29 = .ok (.aload_n 0, 1) := by decide +kernel
theorem dX11_skill_30 : decode cX11_skill 30 = .ok (.getfield 7, 3) := by decide +kernel
theorem dX11_skill_33 : decode cX11_skill 33 = .ok (.iload_n 1, 1) := by decide +kernel
theorem dX11_skill_34 : decode cX11_skill 34 = .ok (.iload_n 2, 1) := by decide +kernel
theorem dX11_skill_35 : decode cX11_skill 35 = .ok (.iastore, 1) := by decide +kernel
theorem dX11_skill_36 : decode cX11_skill 36 = .ok (.iload_n 3, 1) := by decide +kernel
theorem dX11_skill_37 : decode cX11_skill 37 = .ok (.ireturn, 1) := by decide +kernel
set_option maxRecDepth 20000 in
theorem ggX11_match_X11_isSide : GoodIn wsX11_match wsX11_isSide := goodIn_r _ [9, 10, 11, 8, 12] (by decide +kernel) (by decide +kernel)
set_option maxRecDepth 20000 in
theorem gX11_match_X11_isSide : GoodIn wsX11_match (va_wsS RX11 149 yX11_isSide wsX11_isSide) := goodIn_app (goodIn_of _ (by decide +kernel)) ggX11_match_X11_isSide
set_option maxRecDepth 20000 in
theorem ggX11_match_X11_in : GoodIn wsX11_match wsX11_in := goodIn_r _ [12] (by decide +kernel) (by decide +kernel)
set_option maxRecDepth 20000 in
theorem gX11_match_X11_in : GoodIn wsX11_match (va_wsS RX11 138 yX11_in wsX11_in) := goodIn_app (goodIn_of _ (by decide +kernel)) ggX11_match_X11_in
theorem dX11_match_0 : decode cX11_match 0 = .ok (.iload_n 1, 1) := by decide +kernel
theorem dX11_match_1 : decode cX11_match 1 = .ok (.invokestatic 149, 3) := by decide +kernel
theorem dX11_match_4 : decode cX11_match 4 = .ok (.ifCond .eq 15, 3) := by decide +kernel
theorem dX11_match_7 : decode cX11_match 7 = .ok (.iload_n 2, 1) := by decide +kernel
theorem dX11_match_8 : decode cX11_match 8 = .ok (.invokestatic 149, 3) := by decide +kernel
theorem dX11_match_11 : decode cX11_match 11 = .ok (.ifCond .eq 8, 3) := by decide +kernel
theorem dX11_match_14 : decode cX11_match 14 = .ok (.iload_n 1, 1) := by decide +kernel
theorem dX11_match_15 : decode cX11_match 15 = .ok (.iload_n 2, 1) := by decide +kernel
theorem dX11_match_16 : decode cX11_match 16 = .ok (.if_icmp .ne 5, 3) := by decide +kernel
theorem dX11_match_19 : decode cX11_match 19 = .ok (.iconst (-1), 1) := by decide +kernel
theorem dX11_match_20 : decode cX11_match 20 = .ok (.ireturn, 1) := by decide +kernel
theorem dX11_match_21 : decode cX11_match 21 = .ok (.iload_n 3, 1) := by decide +kernel
theorem dX11_match_22 : decode cX11_match 22 = .ok (.iconst 0, 1) := by decide +kernel
theorem dX11_match_23 : decode cX11_match 23 = .ok (.iconst 5, 1) := by decide +kernel
theorem dX11_match_24 : decode cX11_match 24 = .ok (.invokestatic 138, 3) := by decide +kernel
theorem dX11_match_27 : decode cX11_match 27 = .ok (.ifCond .ne 6, 3) := by decide +kernel
theorem dX11_match_30 : decode cX11_match 30 = .ok (.bipush (-2), 2) := by decide +kernel
theorem dX11_match_32 : decode cX11_match 32 = .ok (.ireturn, 1) := by decide +kernel
theorem dX11_match_33 : decode cX11_match 33 = .ok (.aload_n 0, 1) := by decide +kernel
theorem dX11_match_34 : decode cX11_match 34 = .ok (.getfield 142, 3) := by decide +kernel
theorem dX11_match_37 : decode cX11_match 37 = .ok (.bipush 12, 2) := by decide +kernel
theorem dX11_match_39 : decode cX11_match 39 = .ok (.if_icmp .ne 6, 3) := by decide +kernel
theorem dX11_match_42 : decode cX11_match 42 = .ok (.bipush (-4), 2) := by decide +kernel
theorem dX11_match_44 : decode cX11_match 44 = .ok (.ireturn, 1) := by decide +kernel
theorem dX11_match_45 : decode cX11_match 45 = .ok (.aload_n 0, 1) := by decide +kernel
theorem dX11_match_46 : decode cX11_match 46 = .ok (.getfield 16, 3) := by decide +kernel
theorem dX11_match_49 : decode cX11_match 49 = .ok (.aload_n 0, 1) := by decide +kernel
theorem dX11_match_50 : decode cX11_match 50 = .ok (.getfield 142, 3) := by decide +kernel
theorem dX11_match_53 : decode cX11_match 53 = .ok (.iload_n 1, 1) := by decide +kernel
theorem dX11_match_54 : decode cX11_match 54 = .ok (.iastore, 1) := by decide +kernel
theorem dX11_match_55 : decode cX11_match 55 = .ok (.aload_n 0, 1) := by decide +kernel
theorem dX11_match_56 : decode cX11_match 56 = .ok (.getfield 19, 3) := by decide +kernel
theorem dX11_match_59 : decode cX11_match 59 = .ok (.aload_n 0, 1) := by decide +kernel
theorem dX11_match_60 : decode cX11_match 60 = .ok (.getfield 142, 3) := by decide +kernel
theorem dX11_match_63 : decode cX11_match 63 = .ok (.iload_n 2, 1) := by decide +kernel
theorem dX11_match_64 : decode cX11_match 64 = .ok (.iastore, 1) := by decide +kernel
theorem dX11_match_65 : decode cX11_match 65 = .ok (.aload_n 0, 1) := by decide +kernel
theorem dX11_match_66 : decode cX11_match 66 = .ok (.getfield 22, 3) := by decide +kernel
theorem dX11_match_69 : decode cX11_match 69 = .ok (.aload_n 0, 1) := by decide +kernel
theorem dX11_match_70 : decode cX11_match 70 = .ok (.getfield 142, 3) := by decide +kernel
theorem dX11_match_73 : decode cX11_match 73 = .ok (.iload_n 3, 1) := by decide +kernel
theorem dX11_match_74 : decode cX11_match 74 = .ok (.iastore, 1) := by decide +kernel
theorem dX11_match_75 : decode cX11_match 75 = .ok (.aload_n 0, 1) := by decide +kernel
theorem dX11_match_76 : decode cX11_match 76 = .ok (.getfield 28, 3) := by decide +kernel
theorem dX11_match_79 : decode cX11_match 79 = .ok (.aload_n 0, 1) := by decide +kernel
theorem dX11_match_80 : decode cX11_match 80 = .ok (.getfield 142, 3) := by decide +kernel
theorem dX11_match_83 : decode cX11_match 83 = .ok (.bipush 10, 2) := by decide +kernel
theorem dX11_match_85 : decode cX11_match 85 = .ok (.iastore, 1) := by decide +kernel
theorem dX11_match_86 : decode cX11_match 86 = .ok (.aload_n 0, 1) := by decide +kernel
theorem dX11_match_87 : decode cX11_match 87 = .ok (.dup, 1) := by decide +kernel
theorem dX11_match_88 : decode cX11_match 88 = .ok (.getfield 142, 3) := by decide +kernel
theorem dX11_match_91 : decode cX11_match 91 = .ok (.iconst 1, 1) := by decide +kernel
theorem dX11_match_92 : decode cX11_match 92 = .ok (.iadd, 1) := by decide +kernel
theorem dX11_match_93 : decode cX11_match 93 = .ok (.putfield 142, 3) := by decide +kernel
theorem dX11_match_96 : decode cX11_match 96 = .ok (.aload_n 0, 1) := by decide +kernel
theorem dX11_match_97 : decode cX11_match 97 = .ok (.getfield 142, 3) := by decide +kernel
theorem dX11_match_100 : decode cX11_match 100 = .ok (.iconst 1, 1) := by decide +kernel
theorem dX11_match_101 : decode cX11_match 101 = .ok (.isub, 1) := by decide +kernel
theorem dX11_match_102 : decode cX11_match 102 = .ok (.ireturn, 1) := by decide +kernel
set_option maxRecDepth 20000 in
theorem ggX11_goal_X11_isMatch : GoodIn wsX11_goal wsX11_isMatch := goodIn_r _ [6, 7, 8, 9, 5, 10, 11, 12, 13, 14, 15, 16, 17, 18, 19, 20, 21, 22, 23, 24, 25, 26, 27, 28, 29, 30, 31, 32, 33, 34, 35, 36, 37, 38, 39, 40, 41, 42, 43, 44, 45, 46, 47, 48, 49, 50, 51, 52, 53, 54, 55, 56, 57, 58, 59, 60, 61, 62, 63, 64] (by decide +kernel) (by decide +kernel)
set_option maxRecDepth 20000 in
theorem gX11_goal_X11_isMatch : GoodIn wsX11_goal (wsV RX11 153 RX11 yX11_isMatch wsX11_isMatch) := goodIn_app (goodIn_of _ (by decide +kernel)) ggX11_goal_X11_isMatch
set_option maxRecDepth 20000 in
theorem ggX11_goal_X11_in : GoodIn wsX11_goal wsX11_in := goodIn_r _ [10] (by decide +kernel) (by decide +kernel)
set_option maxRecDepth 20000 in
theorem gX11_goal_X11_in : GoodIn wsX11_goal (va_wsS RX11 138 yX11_in wsX11_in) := goodIn_app (goodIn_of _ (by decide +kernel)) ggX11_goal_X11_in
theorem dX11_goal_0 : decode cX11_goal 0 = .ok (.aload_n 0, 1) := by decide +kernel
theorem dX11_goal_1 : decode cX11_goal 1 = .ok (.iload_n 1, 1) := by decide +kernel
theorem dX11_goal_2 : decode cX11_goal 2 = .ok (.invokevirtual 153, 3) := by decide +kernel
theorem dX11_goal_5 : decode cX11_goal 5 = .ok (.ifCond .ne 5, 3) := by decide +kernel
theorem dX11_goal_8 : decode cX11_goal 8 = .ok (.iconst (-1), 1) := by decide +kernel
theorem dX11_goal_9 : decode cX11_goal 9 = .ok (.ireturn, 1) := by decide +kernel
theorem dX11_goal_10 : decode cX11_goal 10 = .ok (.iload_n 2, 1) := by decide +kernel
theorem dX11_goal_11 : decode cX11_goal 11 = .ok (.iconst 0, 1) := by decide +kernel
theorem dX11_goal_12 : decode cX11_goal 12 = .ok (.iconst 5, 1) := by decide +kernel
theorem dX11_goal_13 : decode cX11_goal 13 = .ok (.invokestatic 138, 3) := by decide +kernel
theorem dX11_goal_16 : decode cX11_goal 16 = .ok (.ifCond .eq 12, 3) := by decide +kernel
theorem dX11_goal_19 : decode cX11_goal 19 = .ok (.iload_n 3, 1) := by decide +kernel
theorem dX11_goal_20 : decode cX11_goal 20 = .ok (.iconst 0, 1) := by decide +kernel
theorem dX11_goal_21 : decode cX11_goal 21 = .ok (.iconst 2, 1) := by decide +kernel
theorem dX11_goal_22 : decode cX11_goal 22 = .ok (.invokestatic 138, 3) := by decide +kernel
theorem dX11_goal_25 : decode cX11_goal 25 = .ok (.ifCond .ne 6, 3) := by decide +kernel
theorem dX11_goal_28 : decode cX11_goal 28 = .ok (.bipush (-2), 2) := by decide +kernel
theorem dX11_goal_30 : decode cX11_goal 30 = .ok (.ireturn, 1) := by decide +kernel
theorem dX11_goal_31 : decode cX11_goal 31 = .ok (.aload_n 0, 1) := by decide +kernel
theorem dX11_goal_32 : decode cX11_goal 32 = .ok (.getfield 31, 3) := by decide +kernel
theorem dX11_goal_35 : decode cX11_goal 35 = .ok (.bipush 6, 2) := by decide +kernel
theorem dX11_goal_37 : decode cX11_goal 37 = .ok (.iload_n 1, 1) := by decide +kernel
theorem dX11_goal_38 : decode cX11_goal 38 = .ok (.imul, 1) := by decide +kernel
theorem dX11_goal_39 : decode cX11_goal 39 = .ok (.iload_n 2, 1) := by decide +kernel
theorem dX11_goal_40 : decode cX11_goal 40 = .ok (.iadd, 1) := by decide +kernel
theorem dX11_goal_41 : decode cX11_goal 41 = .ok (.iaload, 1) := by decide +kernel
theorem dX11_goal_42 : decode cX11_goal 42 = .ok (.istore 4, 2) := by decide +kernel
theorem dX11_goal_44 : decode cX11_goal 44 = .ok (.aload_n 0, 1) := by decide +kernel
theorem dX11_goal_45 : decode cX11_goal 45 = .ok (.getfield 31, 3) := by decide +kernel
theorem dX11_goal_48 : decode cX11_goal 48 = .ok (.bipush 6, 2) := by decide +kernel
theorem dX11_goal_50 : decode cX11_goal 50 = .ok (.iload_n 1, 1) := by decide +kernel
theorem dX11_goal_51 : decode cX11_goal 51 = .ok (.imul, 1) := by decide +kernel
theorem dX11_goal_52 : decode cX11_goal 52 = .ok (.iload_n 2, 1) := by decide +kernel
theorem dX11_goal_53 : decode cX11_goal 53 = .ok (.iadd, 1) := by decide +kernel
theorem dX11_goal_54 : decode cX11_goal 54 = .ok (.iload_n 3, 1) := by decide +kernel
theorem dX11_goal_55 : decode cX11_goal 55 = .ok (.iastore, 1) := by decide +kernel
theorem dX11_goal_56 : decode cX11_goal 56 = .ok (.iload 4, 2) := by decide +kernel
theorem dX11_goal_58 : decode cX11_goal 58 = .ok (.ireturn, 1) := by decide +kernel
theorem dX11_scored_0 : decode cX11_scored 0 = .ok (.iconst 0, 1) := by decide +kernel
theorem dX11_scored_1 : decode cX11_scored 1 = .ok (.istore 4, 2) := by decide +kernel
theorem dX11_scored_3 : decode cX11_scored 3 = .ok (.iconst 0, 1) := by decide +kernel
theorem dX11_scored_4 : decode cX11_scored 4 = .ok (.istore 5, 2) := by decide +kernel
theorem dX11_scored_6 : decode cX11_scored 6 = .ok (.iload 5, 2) := by decide +kernel
theorem dX11_scored_8 : decode cX11_scored 8 = .ok (.iload_n 2, 1) := by decide +kernel
theorem dX11_scored_9 : decode cX11_scored 9 = .ok (.if_icmp .ge 35, 3) := by decide +kernel
theorem dX11_scored_12 : decode cX11_scored 12 = .ok (.iload 4, 2) := by decide +kernel
theorem dX11_scored_14 : decode cX11_scored 14 = .ok (.aload_n 0, 1) := by decide +kernel
theorem dX11_scored_15 : decode cX11_scored 15 = .ok (.getfield 31, 3) := by decide +kernel
theorem dX11_scored_18 : decode cX11_scored 18 = .ok (.bipush 6, 2) := by decide +kernel
theorem dX11_scored_20 : decode cX11_scored 20 = .ok (.iload_n 1, 1) := by decide +kernel
theorem dX11_scored_21 : decode cX11_scored 21 = .ok (.imul, 1) := by decide +kernel
theorem dX11_scored_22 : decode cX11_scored 22 = .ok (.iload 5, 2) := by decide +kernel
theorem dX11_scored_24 : decode cX11_scored 24 = .ok (.iadd, 1) := by decide +kernel
theorem dX11_scored_25 : decode cX11_scored 25 = .ok (.iaload, 1) := by decide +kernel
theorem dX11_scored_26 : decode cX11_scored 26 = .ok (.iload_n 3, 1) := by decide +kernel
theorem dX11_scored_27 : decode cX11_scored 27 = .ok (.if_icmp .ne 7, 3) := by decide +kernel
theorem dX11_scored_30 : decode cX11_scored 30 = .ok (.iconst 1, 1) := by decide +kernel
theorem dX11_scored_31 : decode cX11_scored 31 = .ok (.goto 4, 3) := by decide +kernel
theorem dX11_scored_34 : decode cX11_scored 34 = .ok (.iconst 0, 1) := by decide +kernel
theorem dX11_scored_35 : decode cX11_scored 35 = .ok (.iadd, 1) := by decide +kernel
theorem dX11_scored_36 : decode cX11_scored 36 = .ok (.istore 4, 2) := by decide +kernel
theorem dX11_scored_38 : decode cX11_scored 38 = .ok (.iinc 5 1, 3) := by decide +kernel
theorem dX11_scored_41 : decode cX11_scored 41 = .ok (.goto (-35), 3) := by decide +kernel
theorem dX11_scored_44 : decode cX11_scored 44 = .ok (.iload 4, 2) := by decide +kernel
theorem dX11_scored_46 : decode cX11_scored 46 = .ok (.ireturn, 1) := by decide +kernel
set_option maxRecDepth 20000 in
theorem ggX11_endOf_X11_scored : GoodIn wsX11_endOf wsX11_scored := goodIn_r _ [5, 6, 7, 8, 9, 10, 11, 12, 13, 14, 15, 16, 17, 18, 19, 20, 21, 22, 23, 24, 25, 26, 27, 28, 29, 30, 31, 32, 33, 34, 35, 36, 37, 38, 39, 40, 41, 42, 43, 44, 45, 46, 47, 48, 49, 50, 51, 52, 53, 54, 55, 56, 57, 58, 59, 60] (by decide +kernel) (by decide +kernel)
set_option maxRecDepth 20000 in
theorem gX11_endOf_X11_scored : GoodIn wsX11_endOf (wsV RX11 156 RX11 yX11_scored wsX11_scored) := goodIn_app (goodIn_of _ (by decide +kernel)) ggX11_endOf_X11_scored
theorem dX11_endOf_0 : decode cX11_endOf 0 = .ok (.aload_n 0, 1) := by decide +kernel
theorem dX11_endOf_1 : decode cX11_endOf 1 = .ok (.iload_n 1, 1) := by decide +kernel
theorem dX11_endOf_2 : decode cX11_endOf 2 = .ok (.bipush 6, 2) := by decide +kernel
theorem dX11_endOf_4 : decode cX11_endOf 4 = .ok (.iconst 1, 1) := by decide +kernel
theorem dX11_endOf_5 : decode cX11_endOf 5 = .ok (.invokevirtual 156, 3) := by decide +kernel
theorem dX11_endOf_8 : decode cX11_endOf 8 = .ok (.aload_n 0, 1) := by decide +kernel
theorem dX11_endOf_9 : decode cX11_endOf 9 = .ok (.iload_n 1, 1) := by decide +kernel
theorem dX11_endOf_10 : decode cX11_endOf 10 = .ok (.bipush 6, 2) := by decide +kernel
theorem dX11_endOf_12 : decode cX11_endOf 12 = .ok (.iconst 2, 1) := by decide +kernel
theorem dX11_endOf_13 : decode cX11_endOf 13 = .ok (.invokevirtual 156, 3) := by decide +kernel
theorem dX11_endOf_16 : decode cX11_endOf 16 = .ok (.isub, 1) := by decide +kernel
theorem dX11_endOf_17 : decode cX11_endOf 17 = .ok (.istore_n 2, 1) := by decide +kernel
theorem dX11_endOf_18 : decode cX11_endOf 18 = .ok (.iload_n 2, 1) := by decide +kernel
theorem dX11_endOf_19 : decode cX11_endOf 19 = .ok (.ifCond .le 7, 3) := by decide +kernel
theorem dX11_endOf_22 : decode cX11_endOf 22 = .ok (.iconst 0, 1) := by decide +kernel
theorem dX11_endOf_23 : decode cX11_endOf 23 = .ok (.goto 12, 3) := by decide +kernel
theorem dX11_endOf_26 : decode cX11_endOf 26 = .ok (.iload_n 2, 1) := by decide +kernel
theorem dX11_endOf_27 : decode cX11_endOf 27 = .ok (.ifCond .ne 7, 3) := by decide +kernel
theorem dX11_endOf_30 : decode cX11_endOf 30 = .ok (.iconst 1, 1) := by decide +kernel
theorem dX11_endOf_31 : decode cX11_endOf 31 = .ok (.goto 4, 3) := by decide +kernel
theorem dX11_endOf_34 : decode cX11_endOf 34 = .ok (.iconst 2, 1) := by decide +kernel
theorem dX11_endOf_35 : decode cX11_endOf 35 = .ok (.ireturn, 1) := by decide +kernel
set_option maxRecDepth 20000 in
theorem ggX11_ofMatch_X11_isMatch : GoodIn wsX11_ofMatch wsX11_isMatch := goodIn_r _ [10, 11, 12, 13, 9, 14, 24, 25, 26, 27, 28, 29, 30, 31, 32, 33, 34, 35, 36, 37, 38, 39, 40, 41, 42, 43, 44, 45, 46, 47, 48, 49, 50, 51, 52, 53, 54, 55, 56, 57, 58, 59, 60, 61, 62, 63, 64, 65, 66, 67, 68, 69, 70, 71, 72, 73, 74, 75, 76, 77] (by decide +kernel) (by decide +kernel)
set_option maxRecDepth 20000 in
theorem gX11_ofMatch_X11_isMatch : GoodIn wsX11_ofMatch (wsV RX11 153 RX11 yX11_isMatch wsX11_isMatch) := goodIn_app (goodIn_of _ (by decide +kernel)) ggX11_ofMatch_X11_isMatch
set_option maxRecDepth 20000 in
theorem ggX11_ofMatch_X11_scored : GoodIn wsX11_ofMatch wsX11_scored := goodIn_r _ [18, 19, 24, 25, 26, 27, 28, 29, 30, 31, 32, 33, 34, 35, 36, 37, 38, 39, 40, 41, 42, 43, 44, 45, 46, 47, 48, 49, 50, 51, 52, 53, 54, 55, 56, 57, 58, 59, 60, 61, 62, 63, 64, 65, 66, 67, 68, 69, 70, 71, 72, 73, 74, 75, 76, 77] (by decide +kernel) (by decide +kernel)
set_option maxRecDepth 20000 in
theorem gX11_ofMatch_X11_scored : GoodIn wsX11_ofMatch (wsV RX11 156 RX11 yX11_scored wsX11_scored) := goodIn_app (goodIn_of _ (by decide +kernel)) ggX11_ofMatch_X11_scored
set_option maxRecDepth 20000 in
theorem ggX11_ofMatch_X11_endOf : GoodIn wsX11_ofMatch wsX11_endOf := goodIn_r _ [23, 15, 16, 17, 9, 18, 19, 24, 25, 26, 27, 28, 29, 30, 31, 32, 33, 34, 35, 36, 37, 38, 39, 40, 41, 42, 43, 44, 45, 46, 47, 48, 49, 50, 51, 52, 53, 54, 55, 56, 57, 58, 59, 60, 61, 62, 63, 64, 65, 66, 67, 68, 69, 70, 71, 72, 73, 74, 75, 76, 77] (by decide +kernel) (by decide +kernel)
set_option maxRecDepth 20000 in
theorem gX11_ofMatch_X11_endOf : GoodIn wsX11_ofMatch (wsV RX11 160 RX11 yX11_endOf wsX11_endOf) := goodIn_app (goodIn_of _ (by decide +kernel)) ggX11_ofMatch_X11_endOf
theorem dX11_ofMatch_0 : decode cX11_ofMatch 0 = .ok (.aload_n 0, 1) := by decide +kernel
theorem dX11_ofMatch_1 : decode cX11_ofMatch 1 = .ok (.iload_n 1, 1) := by decide +kernel
theorem dX11_ofMatch_2 : decode cX11_ofMatch 2 = .ok (.invokevirtual 153, 3) := by decide +kernel
theorem dX11_ofMatch_5 : decode cX11_ofMatch 5 = .ok (.ifCond .ne 5, 3) := by decide +kernel
theorem dX11_ofMatch_8 : decode cX11_ofMatch 8 = .ok (.iconst (-1), 1) := by decide +kernel
theorem dX11_ofMatch_9 : decode cX11_ofMatch 9 = .ok (.ireturn, 1) := by decide +kernel
theorem dX11_ofMatch_10 : decode cX11_ofMatch 10 = .ok (.iload_n 2, 1) := by decide +kernel
theorem dX11_ofMatch_11 : decode cX11_ofMatch 11 = .ok (.tableswitch 104 0 7 #[45, 52, 59, 66, 75, 84, 90, 97], 45) := by decide +kernel
theorem dX11_ofMatch_56 : decode cX11_ofMatch 56 = .ok (.aload_n 0, 1) := by decide +kernel
theorem dX11_ofMatch_57 : decode cX11_ofMatch 57 = .ok (.getfield 16, 3) := by decide +kernel
theorem dX11_ofMatch_60 : decode cX11_ofMatch 60 = .ok (.iload_n 1, 1) := by decide +kernel
theorem dX11_ofMatch_61 : decode cX11_ofMatch 61 = .ok (.iaload, 1) := by decide +kernel
theorem dX11_ofMatch_62 : decode cX11_ofMatch 62 = .ok (.ireturn, 1) := by decide +kernel
theorem dX11_ofMatch_63 : decode cX11_ofMatch 63 = .ok (.aload_n 0, 1) := by decide +kernel
theorem dX11_ofMatch_64 : decode cX11_ofMatch 64 = .ok (.getfield 19, 3) := by decide +kernel
theorem dX11_ofMatch_67 : decode cX11_ofMatch 67 = .ok (.iload_n 1, 1) := by decide +kernel
theorem dX11_ofMatch_68 : decode cX11_ofMatch 68 = .ok (.iaload, 1) := by decide +kernel
theorem dX11_ofMatch_69 : decode cX11_ofMatch 69 = .ok (.ireturn, 1) := by decide +kernel
theorem dX11_ofMatch_70 : decode cX11_ofMatch 70 = .ok (.aload_n 0, 1) := by decide +kernel
theorem dX11_ofMatch_71 : decode cX11_ofMatch 71 = .ok (.getfield 22, 3) := by decide +kernel
theorem dX11_ofMatch_74 : decode cX11_ofMatch 74 = .ok (.iload_n 1, 1) := by decide +kernel
theorem dX11_ofMatch_75 : decode cX11_ofMatch 75 = .ok (.iaload, 1) := by decide +kernel
theorem dX11_ofMatch_76 : decode cX11_ofMatch 76 = .ok (.ireturn, 1) := by decide +kernel
theorem dX11_ofMatch_77 : decode cX11_ofMatch 77 = .ok (.aload_n 0, 1) := by decide +kernel
theorem dX11_ofMatch_78 : decode cX11_ofMatch 78 = .ok (.iload_n 1, 1) := by decide +kernel
theorem dX11_ofMatch_79 : decode cX11_ofMatch 79 = .ok (.bipush 6, 2) := by decide +kernel
theorem dX11_ofMatch_81 : decode cX11_ofMatch 81 = .ok (.iconst 1, 1) := by decide +kernel
theorem dX11_ofMatch_82 : decode cX11_ofMatch 82 = .ok (.invokevirtual 156, 3) := by decide +kernel
theorem dX11_ofMatch_85 : decode cX11_ofMatch 85 = .ok (.ireturn, 1) := by decide +kernel
theorem dX11_ofMatch_86 : decode cX11_ofMatch 86 = .ok (.aload_n 0, 1) := by decide +kernel
theorem dX11_ofMatch_87 : decode cX11_ofMatch 87 = .ok (.iload_n 1, 1) := by decide +kernel
theorem dX11_ofMatch_88 : decode cX11_ofMatch 88 = .ok (.bipush 6, 2) := by decide +kernel
theorem dX11_ofMatch_90 : decode cX11_ofMatch 90 = .ok (.iconst 2, 1) := by decide +kernel
theorem dX11_ofMatch_91 : decode cX11_ofMatch 91 = .ok (.invokevirtual 156, 3) := by decide +kernel
theorem dX11_ofMatch_94 : decode cX11_ofMatch 94 = .ok (.ireturn, 1) := by decide +kernel
theorem dX11_ofMatch_95 : decode cX11_ofMatch 95 = .ok (.aload_n 0, 1) := by decide +kernel
theorem dX11_ofMatch_96 : decode cX11_ofMatch 96 = .ok (.iload_n 1, 1) := by decide +kernel
theorem dX11_ofMatch_97 : decode cX11_ofMatch 97 = .ok (.invokevirtual 160, 3) := by decide +kernel
theorem dX11_ofMatch_100 : decode cX11_ofMatch 100 = .ok (.ireturn, 1) := by decide +kernel
theorem dX11_ofMatch_101 : decode cX11_ofMatch 101 = .ok (.aload_n 0, 1) := by decide +kernel
theorem dX11_ofMatch_102 : decode cX11_ofMatch 102 = .ok (.getfield 25, 3) := by decide +kernel
theorem dX11_ofMatch_105 : decode cX11_ofMatch 105 = .ok (.iload_n 1, 1) := by decide +kernel
theorem dX11_ofMatch_106 : decode cX11_ofMatch 106 = .ok (.iaload, 1) := by decide +kernel
theorem dX11_ofMatch_107 : decode cX11_ofMatch 107 = .ok (.ireturn, 1) := by decide +kernel
theorem dX11_ofMatch_108 : decode cX11_ofMatch 108 = .ok (.aload_n 0, 1) := by decide +kernel
theorem dX11_ofMatch_109 : decode cX11_ofMatch 109 = .ok (.getfield 28, 3) := by decide +kernel
theorem dX11_ofMatch_112 : decode cX11_ofMatch 112 = .ok (.iload_n 1, 1) := by decide +kernel
theorem dX11_ofMatch_113 : decode cX11_ofMatch 113 = .ok (.iaload, 1) := by decide +kernel
theorem dX11_ofMatch_114 : decode cX11_ofMatch 114 = .ok (.ireturn, 1) := by decide +kernel
theorem dX11_ofMatch_115 : decode cX11_ofMatch 115 = .ok (.bipush (-2), 2) := by decide +kernel
theorem dX11_ofMatch_117 : decode cX11_ofMatch 117 = .ok (.ireturn, 1) := by decide +kernel
theorem dX11_chance_0 : decode cX11_chance 0 = .ok (.aload_n 0, 1) := by decide +kernel
theorem dX11_chance_1 : decode cX11_chance 1 = .ok (.getfield 37, 3) := by decide +kernel
theorem dX11_chance_4 : decode cX11_chance 4 = .ok (.iconst 0, 1) := by decide +kernel
theorem dX11_chance_5 : decode cX11_chance 5 = .ok (.iaload, 1) := by decide +kernel
theorem dX11_chance_6 : decode cX11_chance 6 = .ok (.aload_n 0, 1) := by decide +kernel
theorem dX11_chance_7 : decode cX11_chance 7 = .ok (.getfield 7, 3) := by decide +kernel
theorem dX11_chance_10 : decode cX11_chance 10 = .ok (.iload_n 1, 1) := by decide +kernel
theorem dX11_chance_11 : decode cX11_chance 11 = .ok (.iaload, 1) := by decide +kernel
theorem dX11_chance_12 : decode cX11_chance 12 = .ok (.aload_n 0, 1) := by decide +kernel
theorem dX11_chance_13 : decode cX11_chance 13 = .ok (.getfield 7, 3) := by decide +kernel
theorem dX11_chance_16 : decode cX11_chance 16 = .ok (.iload_n 2, 1) := by decide +kernel
theorem dX11_chance_17 : decode cX11_chance 17 = .ok (.iaload, 1) := by decide +kernel
theorem dX11_chance_18 : decode cX11_chance 18 = .ok (.isub, 1) := by decide +kernel
theorem dX11_chance_19 : decode cX11_chance 19 = .ok (.iconst 4, 1) := by decide +kernel
theorem dX11_chance_20 : decode cX11_chance 20 = .ok (.idiv, 1) := by decide +kernel
theorem dX11_chance_21 : decode cX11_chance 21 = .ok (.iadd, 1) := by decide +kernel
theorem dX11_chance_22 : decode cX11_chance 22 = .ok (.istore_n 3, 1) := by decide +kernel
theorem dX11_chance_23 : decode cX11_chance 23 = .ok (.iload_n 3, 1) := by decide +kernel
theorem dX11_chance_24 : decode cX11_chance 24 = .ok (.iconst 1, 1) := by decide +kernel
theorem dX11_chance_25 : decode cX11_chance 25 = .ok (.if_icmp .ge 7, 3) := by decide +kernel
theorem dX11_chance_28 : decode cX11_chance 28 = .ok (.iconst 1, 1) := by decide +kernel
theorem dX11_chance_29 : decode cX11_chance 29 = .ok (.goto 15, 3) := by decide +kernel
theorem dX11_chance_32 : decode cX11_chance 32 = .ok (.iload_n 3, 1) := by decide +kernel
theorem dX11_chance_33 : decode cX11_chance 33 = .ok (.bipush 45, 2) := by decide +kernel
theorem dX11_chance_35 : decode cX11_chance 35 = .ok (.if_icmp .le 8, 3) := by decide +kernel
theorem dX11_chance_38 : decode cX11_chance 38 = .ok (.bipush 45, 2) := by decide +kernel
theorem dX11_chance_40 : decode cX11_chance 40 = .ok (.goto 4, 3) := by decide +kernel
theorem dX11_chance_43 : decode cX11_chance 43 = .ok (.iload_n 3, 1) := by decide +kernel
theorem dX11_chance_44 : decode cX11_chance 44 = .ok (.ireturn, 1) := by decide +kernel
set_option maxRecDepth 20000 in
theorem ggX11_layLikely_X11_chance : GoodIn wsX11_layLikely wsX11_chance := goodIn_r _ [12, 13, 14, 15, 16, 17, 18, 19, 20, 21, 22, 23, 24, 25, 26, 27, 28, 29, 30, 31, 32, 33, 34, 35, 36, 37, 38, 39, 40, 41, 42, 43, 44, 45, 46, 47, 48, 49, 50, 51, 52, 53, 54, 55, 56, 57, 58, 59, 60, 61, 62, 63, 64, 65, 66, 67, 68] (by decide +kernel) (by decide +kernel)
set_option maxRecDepth 20000 in
theorem gX11_layLikely_X11_chance : GoodIn wsX11_layLikely (wsV RX11 164 RX11 yX11_chance wsX11_chance) := goodIn_app (goodIn_of _ (by decide +kernel)) ggX11_layLikely_X11_chance
theorem dX11_layLikely_0 : decode cX11_layLikely 0 = .ok (.aload_n 0, 1) := by decide +kernel
theorem dX11_layLikely_1 : decode cX11_layLikely 1 = .ok (.aload_n 0, 1) := by decide +kernel
theorem dX11_layLikely_2 : decode cX11_layLikely 2 = .ok (.getfield 16, 3) := by decide +kernel
theorem dX11_layLikely_5 : decode cX11_layLikely 5 = .ok (.iload_n 1, 1) := by decide +kernel
theorem dX11_layLikely_6 : decode cX11_layLikely 6 = .ok (.iaload, 1) := by decide +kernel
theorem dX11_layLikely_7 : decode cX11_layLikely 7 = .ok (.aload_n 0, 1) := by decide +kernel
theorem dX11_layLikely_8 : decode cX11_layLikely 8 = .ok (.getfield 19, 3) := by decide +kernel
theorem dX11_layLikely_11 : decode cX11_layLikely 11 = .ok (.iload_n 1, 1) := by decide +kernel
theorem dX11_layLikely_12 : decode cX11_layLikely 12 = .ok (.iaload, 1) := by decide +kernel
theorem dX11_layLikely_13 : decode cX11_layLikely 13 = .ok (.invokevirtual 164, 3) := by decide +kernel
theorem dX11_layLikely_16 : decode cX11_layLikely 16 = .ok (.i2l, 1) := by decide +kernel
theorem dX11_layLikely_17 : decode cX11_layLikely 17 = .ok (.lstore 6, 2) := by decide +kernel
theorem dX11_layLikely_19 : decode cX11_layLikely 19 = .ok (.aload_n 0, 1) := by decide +kernel
theorem dX11_layLikely_20 : decode cX11_layLikely 20 = .ok (.aload_n 0, 1) := by decide +kernel
theorem dX11_layLikely_21 : decode cX11_layLikely 21 = .ok (.getfield 19, 3) := by decide +kernel
theorem dX11_layLikely_24 : decode cX11_layLikely 24 = .ok (.iload_n 1, 1) := by decide +kernel
theorem dX11_layLikely_25 : decode cX11_layLikely 25 = .ok (.iaload, 1) := by decide +kernel
theorem dX11_layLikely_26 : decode cX11_layLikely 26 = .ok (.aload_n 0, 1) := by decide +kernel
theorem dX11_layLikely_27 : decode cX11_layLikely 27 = .ok (.getfield 16, 3) := by decide +kernel
theorem dX11_layLikely_30 : decode cX11_layLikely 30 = .ok (.iload_n 1, 1) := by decide +kernel
theorem dX11_layLikely_31 : decode cX11_layLikely 31 = .ok (.iaload, 1) := by decide +kernel
theorem dX11_layLikely_32 : decode cX11_layLikely 32 = .ok (.invokevirtual 164, 3) := by decide +kernel
theorem dX11_layLikely_35 : decode cX11_layLikely 35 = .ok (.i2l, 1) := by decide +kernel
theorem dX11_layLikely_36 : decode cX11_layLikely 36 = .ok (.lstore 8, 2) := by decide +kernel
theorem dX11_layLikely_38 : decode cX11_layLikely 38 = .ok (.iconst 0, 1) := by decide +kernel
theorem dX11_layLikely_39 : decode cX11_layLikely 39 = .ok (.istore 10, 2) := by decide +kernel
theorem dX11_layLikely_41 : decode cX11_layLikely 41 = .ok (.iload 10, 2) := by decide +kernel
theorem dX11_layLikely_43 : decode cX11_layLikely 43 = .ok (.bipush 13, 2) := by decide +kernel
theorem dX11_layLikely_45 : decode cX11_layLikely 45 = .ok (.if_icmp .ge 28, 3) := by decide +kernel
theorem dX11_layLikely_48 : decode cX11_layLikely 48 = .ok (.aload_n 0, 1) := by decide +kernel
theorem dX11_layLikely_49 : decode cX11_layLikely 49 = .ok (.getfield 104, 3) := by decide +kernel
theorem dX11_layLikely_52 : decode cX11_layLikely 52 = .ok (.iload 10, 2) := by decide +kernel
theorem dX11_layLikely_54 : decode cX11_layLikely 54 = .ok (.iload 10, 2) := by decide +kernel
theorem dX11_layLikely_56 : decode cX11_layLikely 56 = .ok (.bipush 6, 2) := by decide +kernel
theorem dX11_layLikely_58 : decode cX11_layLikely 58 = .ok (.if_icmp .ne 7, 3) := by decide +kernel
theorem dX11_layLikely_61 : decode cX11_layLikely 61 = .ok (.lconst 1, 1) := by decide +kernel
theorem dX11_layLikely_62 : decode cX11_layLikely 62 = .ok (.goto 4, 3) := by decide +kernel
theorem dX11_layLikely_65 : decode cX11_layLikely 65 = .ok (.lconst 0, 1) := by decide +kernel
theorem dX11_layLikely_66 : decode cX11_layLikely 66 = .ok (.lastore, 1) := by decide +kernel
theorem dX11_layLikely_67 : decode cX11_layLikely 67 = .ok (.iinc 10 1, 3) := by decide +kernel
theorem dX11_layLikely_70 : decode cX11_layLikely 70 = .ok (.goto (-29), 3) := by decide +kernel
theorem dX11_layLikely_73 : decode cX11_layLikely 73 = .ok (.aload_n 0, 1) := by decide +kernel
theorem dX11_layLikely_74 : decode cX11_layLikely 74 = .ok (.lconst 1, 1) := by decide +kernel
theorem dX11_layLikely_75 : decode cX11_layLikely 75 = .ok (.putfield 168, 3) := by decide +kernel
theorem dX11_layLikely_78 : decode cX11_layLikely 78 = .ok (.iload_n 2, 1) := by decide +kernel
theorem dX11_layLikely_79 : decode cX11_layLikely 79 = .ok (.istore 10, 2) := by decide +kernel
theorem dX11_layLikely_81 : decode cX11_layLikely 81 = .ok (.iload 10, 2) := by decide +kernel
theorem dX11_layLikely_83 : decode cX11_layLikely 83 = .ok (.bipush 6, 2) := by decide +kernel
theorem dX11_layLikely_85 : decode cX11_layLikely 85 = .ok (.if_icmp .ge 137, 3) := by decide +kernel
theorem dX11_layLikely_88 : decode cX11_layLikely 88 = .ok (.iconst 0, 1) := by decide +kernel
theorem dX11_layLikely_89 : decode cX11_layLikely 89 = .ok (.istore 11, 2) := by decide +kernel
theorem dX11_layLikely_91 : decode cX11_layLikely 91 = .ok (.iload 11, 2) := by decide +kernel
theorem dX11_layLikely_93 : decode cX11_layLikely 93 = .ok (.bipush 13, 2) := by decide +kernel
theorem dX11_layLikely_95 : decode cX11_layLikely 95 = .ok (.if_icmp .ge 79, 3) := by decide +kernel
theorem dX11_layLikely_98 : decode cX11_layLikely 98 = .ok (.aload_n 0, 1) := by decide +kernel
theorem dX11_layLikely_99 : decode cX11_layLikely 99 = .ok (.getfield 108, 3) := by decide +kernel
theorem dX11_layLikely_102 : decode cX11_layLikely 102 = .ok (.iload 11, 2) := by decide +kernel
theorem dX11_layLikely_104 : decode cX11_layLikely 104 = .ok (.aload_n 0, 1) := by decide +kernel
theorem dX11_layLikely_105 : decode cX11_layLikely 105 = .ok (.getfield 104, 3) := by decide +kernel
theorem dX11_layLikely_108 : decode cX11_layLikely 108 = .ok (.iload 11, 2) := by decide +kernel
theorem dX11_layLikely_110 : decode cX11_layLikely 110 = .ok (.laload, 1) := by decide +kernel
theorem dX11_layLikely_111 : decode cX11_layLikely 111 = .ok (.ldc2_w 172, 3) := by decide +kernel
theorem dX11_layLikely_114 : decode cX11_layLikely 114 = .ok (.lload 6, 2) := by decide +kernel
theorem dX11_layLikely_116 : decode cX11_layLikely 116 = .ok (.lsub, 1) := by decide +kernel
theorem dX11_layLikely_117 : decode cX11_layLikely 117 = .ok (.lload 8, 2) := by decide +kernel
theorem dX11_layLikely_119 : decode cX11_layLikely 119 = .ok (.lsub, 1) := by decide +kernel
theorem dX11_layLikely_120 : decode cX11_layLikely 120 = .ok (.lmul, 1) := by decide +kernel
theorem dX11_layLikely_121 : decode cX11_layLikely 121 = .ok (.iload 11, 2) := by decide +kernel
theorem dX11_layLikely_123 : decode cX11_layLikely 123 = .ok (.ifCond .le 18, 3) := by decide +kernel
theorem dX11_layLikely_126 : decode cX11_layLikely 126 = .ok (.aload_n 0, 1) := by decide +kernel
theorem dX11_layLikely_127 : decode cX11_layLikely 127 = .ok (.getfield 104, 3) := by decide +kernel
theorem dX11_layLikely_130 : decode cX11_layLikely 130 = .ok (.iload 11, 2) := by decide +kernel
theorem dX11_layLikely_132 : decode cX11_layLikely 132 = .ok (.iconst 1, 1) := by decide +kernel
theorem dX11_layLikely_133 : decode cX11_layLikely 133 = .ok (.isub, 1) := by decide +kernel
theorem dX11_layLikely_134 : decode cX11_layLikely 134 = .ok (.laload, 1) := by decide +kernel
theorem dX11_layLikely_135 : decode cX11_layLikely 135 = .ok (.lload 6, 2) := by decide +kernel
theorem dX11_layLikely_137 : decode cX11_layLikely 137 = .ok (.lmul, 1) := by decide +kernel
theorem dX11_layLikely_138 : decode cX11_layLikely 138 = .ok (.goto 4, 3) := by decide +kernel
theorem dX11_layLikely_141 : decode cX11_layLikely 141 = .ok (.lconst 0, 1) := by decide +kernel
theorem dX11_layLikely_142 : decode cX11_layLikely 142 = .ok (.ladd, 1) := by decide +kernel
theorem dX11_layLikely_143 : decode cX11_layLikely 143 = .ok (.iload 11, 2) := by decide +kernel
theorem dX11_layLikely_145 : decode cX11_layLikely 145 = .ok (.bipush 12, 2) := by decide +kernel
theorem dX11_layLikely_147 : decode cX11_layLikely 147 = .ok (.if_icmp .ge 18, 3) := by decide +kernel
theorem dX11_layLikely_150 : decode cX11_layLikely 150 = .ok (.aload_n 0, 1) := by decide +kernel
theorem dX11_layLikely_151 : decode cX11_layLikely 151 = .ok (.getfield 104, 3) := by decide +kernel
theorem dX11_layLikely_154 : decode cX11_layLikely 154 = .ok (.iload 11, 2) := by decide +kernel
theorem dX11_layLikely_156 : decode cX11_layLikely 156 = .ok (.iconst 1, 1) := by decide +kernel
theorem dX11_layLikely_157 : decode cX11_layLikely 157 = .ok (.iadd, 1) := by decide +kernel
theorem dX11_layLikely_158 : decode cX11_layLikely 158 = .ok (.laload, 1) := by decide +kernel
theorem dX11_layLikely_159 : decode cX11_layLikely 159 = .ok (.lload 8, 2) := by decide +kernel
theorem dX11_layLikely_161 : decode cX11_layLikely 161 = .ok (.lmul, 1) := by decide +kernel
theorem dX11_layLikely_162 : decode cX11_layLikely 162 = .ok (.goto 4, 3) := by decide +kernel
theorem dX11_layLikely_165 : decode cX11_layLikely 165 = .ok (.lconst 0, 1) := by decide +kernel
theorem dX11_layLikely_166 : decode cX11_layLikely 166 = .ok (.ladd, 1) := by decide +kernel
theorem dX11_layLikely_167 : decode cX11_layLikely 167 = .ok (.lastore, 1) := by decide +kernel
theorem dX11_layLikely_168 : decode cX11_layLikely 168 = .ok (.iinc 11 1, 3) := by decide +kernel
theorem dX11_layLikely_171 : decode cX11_layLikely 171 = .ok (.goto (-80), 3) := by decide +kernel
theorem dX11_layLikely_174 : decode cX11_layLikely 174 = .ok (.iconst 0, 1) := by decide +kernel
theorem dX11_layLikely_175 : decode cX11_layLikely 175 = .ok (.istore 11, 2) := by decide +kernel
theorem dX11_layLikely_177 : decode cX11_layLikely 177 = .ok (.iload 11, 2) := by decide +kernel
theorem dX11_layLikely_179 : decode cX11_layLikely 179 = .ok (.bipush 13, 2) := by decide +kernel
theorem dX11_layLikely_181 : decode cX11_layLikely 181 = .ok (.if_icmp .ge 23, 3) := by decide +kernel
theorem dX11_layLikely_184 : decode cX11_layLikely 184 = .ok (.aload_n 0, 1) := by decide +kernel
theorem dX11_layLikely_185 : decode cX11_layLikely 185 = .ok (.getfield 104, 3) := by decide +kernel
theorem dX11_layLikely_188 : decode cX11_layLikely 188 = .ok (.iload 11, 2) := by decide +kernel
theorem dX11_layLikely_190 : decode cX11_layLikely 190 = .ok (.aload_n 0, 1) := by decide +kernel
theorem dX11_layLikely_191 : decode cX11_layLikely 191 = .ok (.getfield 108, 3) := by decide +kernel
theorem dX11_layLikely_194 : decode cX11_layLikely 194 = .ok (.iload 11, 2) := by decide +kernel
theorem dX11_layLikely_196 : decode cX11_layLikely 196 = .ok (.laload, 1) := by decide +kernel
theorem dX11_layLikely_197 : decode cX11_layLikely 197 = .ok (.lastore, 1) := by decide +kernel
theorem dX11_layLikely_198 : decode cX11_layLikely 198 = .ok (.iinc 11 1, 3) := by decide +kernel
theorem dX11_layLikely_201 : decode cX11_layLikely 201 = .ok (.goto (-24), 3) := by decide +kernel
theorem dX11_layLikely_204 : decode cX11_layLikely 204 = .ok (.aload_n 0, 1) := by decide +kernel
theorem dX11_layLikely_205 : decode cX11_layLikely 205 = .ok (.dup, 1) := by decide +kernel
theorem dX11_layLikely_206 : decode cX11_layLikely 206 = .ok (.getfield 168, 3) := by decide +kernel
theorem dX11_layLikely_209 : decode cX11_layLikely 209 = .ok (.ldc2_w 172, 3) := by decide +kernel
theorem dX11_layLikely_212 : decode cX11_layLikely 212 = .ok (.lmul, 1) := by decide +kernel
theorem dX11_layLikely_213 : decode cX11_layLikely 213 = .ok (.putfield 168, 3) := by decide +kernel
theorem dX11_layLikely_216 : decode cX11_layLikely 216 = .ok (.iinc 10 1, 3) := by decide +kernel
theorem dX11_layLikely_219 : decode cX11_layLikely 219 = .ok (.goto (-138), 3) := by decide +kernel
theorem dX11_layLikely_222 : decode cX11_layLikely 222 = .ok (.aload_n 0, 1) := by decide +kernel
theorem dX11_layLikely_223 : decode cX11_layLikely 223 = .ok (.lconst 0, 1) := by decide +kernel
theorem dX11_layLikely_224 : decode cX11_layLikely 224 = .ok (.putfield 174, 3) := by decide +kernel
theorem dX11_layLikely_227 : decode cX11_layLikely 227 = .ok (.iconst 0, 1) := by decide +kernel
theorem dX11_layLikely_228 : decode cX11_layLikely 228 = .ok (.istore 10, 2) := by decide +kernel
theorem dX11_layLikely_230 : decode cX11_layLikely 230 = .ok (.iload 10, 2) := by decide +kernel
theorem dX11_layLikely_232 : decode cX11_layLikely 232 = .ok (.bipush 13, 2) := by decide +kernel
theorem dX11_layLikely_234 : decode cX11_layLikely 234 = .ok (.if_icmp .ge 95, 3) := by decide +kernel
theorem dX11_layLikely_237 : decode cX11_layLikely 237 = .ok (.iload_n 3, 1) := by decide +kernel
theorem dX11_layLikely_238 : decode cX11_layLikely 238 = .ok (.iload 4, 2) := by decide +kernel
theorem dX11_layLikely_240 : decode cX11_layLikely 240 = .ok (.isub, 1) := by decide +kernel
theorem dX11_layLikely_241 : decode cX11_layLikely 241 = .ok (.iload 10, 2) := by decide +kernel
theorem dX11_layLikely_243 : decode cX11_layLikely 243 = .ok (.iadd, 1) := by decide +kernel
theorem dX11_layLikely_244 : decode cX11_layLikely 244 = .ok (.bipush 6, 2) := by decide +kernel
theorem dX11_layLikely_246 : decode cX11_layLikely 246 = .ok (.isub, 1) := by decide +kernel
theorem dX11_layLikely_247 : decode cX11_layLikely 247 = .ok (.istore 11, 2) := by decide +kernel
theorem dX11_layLikely_249 : decode cX11_layLikely 249 = .ok (.iload 5, 2) := by decide +kernel
theorem dX11_layLikely_251 : decode cX11_layLikely 251 = .ok (.ifCond .ne 16, 3) := by decide +kernel
theorem dX11_layLikely_254 : decode cX11_layLikely 254 = .ok (.iload 11, 2) := by decide +kernel
theorem dX11_layLikely_256 : decode cX11_layLikely 256 = .ok (.ifCond .le 7, 3) := by decide +kernel
theorem dX11_layLikely_259 : decode cX11_layLikely 259 = .ok (.iconst 1, 1) := by decide +kernel
theorem dX11_layLikely_260 : decode cX11_layLikely 260 = .ok (.goto 36, 3) := by decide +kernel
theorem dX11_layLikely_263 : decode cX11_layLikely 263 = .ok (.iconst 0, 1) := by decide +kernel
theorem dX11_layLikely_264 : decode cX11_layLikely 264 = .ok (.goto 32, 3) := by decide +kernel
theorem dX11_layLikely_267 : decode cX11_layLikely 267 = .ok (.iload 5, 2) := by decide +kernel
theorem dX11_layLikely_269 : decode cX11_layLikely 269 = .ok (.iconst 1, 1) := by decide +kernel
theorem dX11_layLikely_270 : decode cX11_layLikely 270 = .ok (.if_icmp .ne 16, 3) := by decide +kernel
theorem dX11_layLikely_273 : decode cX11_layLikely 273 = .ok (.iload 11, 2) := by decide +kernel
theorem dX11_layLikely_275 : decode cX11_layLikely 275 = .ok (.ifCond .ne 7, 3) := by decide +kernel
theorem dX11_layLikely_278 : decode cX11_layLikely 278 = .ok (.iconst 1, 1) := by decide +kernel
theorem dX11_layLikely_279 : decode cX11_layLikely 279 = .ok (.goto 17, 3) := by decide +kernel
theorem dX11_layLikely_282 : decode cX11_layLikely 282 = .ok (.iconst 0, 1) := by decide +kernel
theorem dX11_layLikely_283 : decode cX11_layLikely 283 = .ok (.goto 13, 3) := by decide +kernel
theorem dX11_layLikely_286 : decode cX11_layLikely 286 = .ok (.iload 11, 2) := by decide +kernel
theorem dX11_layLikely_288 : decode cX11_layLikely 288 = .ok (.ifCond .ge 7, 3) := by decide +kernel
theorem dX11_layLikely_291 : decode cX11_layLikely 291 = .ok (.iconst 1, 1) := by decide +kernel
theorem dX11_layLikely_292 : decode cX11_layLikely 292 = .ok (.goto 4, 3) := by decide +kernel
theorem dX11_layLikely_295 : decode cX11_layLikely 295 = .ok (.iconst 0, 1) := by decide +kernel
theorem dX11_layLikely_296 : decode cX11_layLikely 296 = .ok (.istore 12, 2) := by decide +kernel
theorem dX11_layLikely_298 : decode cX11_layLikely 298 = .ok (.aload_n 0, 1) := by decide +kernel
theorem dX11_layLikely_299 : decode cX11_layLikely 299 = .ok (.dup, 1) := by decide +kernel
theorem dX11_layLikely_300 : decode cX11_layLikely 300 = .ok (.getfield 174, 3) := by decide +kernel
theorem dX11_layLikely_303 : decode cX11_layLikely 303 = .ok (.iload 12, 2) := by decide +kernel
theorem dX11_layLikely_305 : decode cX11_layLikely 305 = .ok (.ifCond .eq 13, 3) := by decide +kernel
theorem dX11_layLikely_308 : decode cX11_layLikely 308 = .ok (.aload_n 0, 1) := by decide +kernel
theorem dX11_layLikely_309 : decode cX11_layLikely 309 = .ok (.getfield 104, 3) := by decide +kernel
theorem dX11_layLikely_312 : decode cX11_layLikely 312 = .ok (.iload 10, 2) := by decide +kernel
theorem dX11_layLikely_314 : decode cX11_layLikely 314 = .ok (.laload, 1) := by decide +kernel
theorem dX11_layLikely_315 : decode cX11_layLikely 315 = .ok (.goto 4, 3) := by decide +kernel
theorem dX11_layLikely_318 : decode cX11_layLikely 318 = .ok (.lconst 0, 1) := by decide +kernel
theorem dX11_layLikely_319 : decode cX11_layLikely 319 = .ok (.ladd, 1) := by decide +kernel
theorem dX11_layLikely_320 : decode cX11_layLikely 320 = .ok (.putfield 174, 3) := by decide +kernel
theorem dX11_layLikely_323 : decode cX11_layLikely 323 = .ok (.iinc 10 1, 3) := by decide +kernel
theorem dX11_layLikely_326 : decode cX11_layLikely 326 = .ok (.goto (-96), 3) := by decide +kernel
theorem dX11_layLikely_329 : decode cX11_layLikely 329 = .ok (.return_, 1) := by decide +kernel
set_option maxRecDepth 20000 in
theorem ggX11_likely_X11_isMatch : GoodIn wsX11_likely wsX11_isMatch := goodIn_r _ [9, 10, 11, 12, 8, 13, 35, 36, 37, 38, 39, 40, 41, 42, 43, 44, 45, 46, 47, 48, 49, 50, 51, 52, 53, 54, 55, 56, 57, 58, 59, 60, 61, 62, 63, 64, 65, 66, 67, 68, 69, 70, 71, 72, 73, 74, 75, 76, 77, 78, 79, 80, 81, 82, 83, 84, 85, 86, 87, 88] (by decide +kernel) (by decide +kernel)
set_option maxRecDepth 20000 in
theorem gX11_likely_X11_isMatch : GoodIn wsX11_likely (wsV RX11 153 RX11 yX11_isMatch wsX11_isMatch) := goodIn_app (goodIn_of _ (by decide +kernel)) ggX11_likely_X11_isMatch
set_option maxRecDepth 20000 in
theorem ggX11_likely_X11_in : GoodIn wsX11_likely wsX11_in := goodIn_r _ [13] (by decide +kernel) (by decide +kernel)
set_option maxRecDepth 20000 in
theorem gX11_likely_X11_in : GoodIn wsX11_likely (va_wsS RX11 138 yX11_in wsX11_in) := goodIn_app (goodIn_of _ (by decide +kernel)) ggX11_likely_X11_in
set_option maxRecDepth 20000 in
theorem ggX11_likely_X11_layLikely : GoodIn wsX11_likely wsX11_layLikely := goodIn_r _ [17, 18, 19, 20, 4, 21, 22, 3, 23, 24, 25, 8, 26, 27, 28, 35, 36, 37, 38, 39, 40, 41, 42, 43, 44, 45, 46, 47, 48, 49, 50, 51, 52, 53, 54, 55, 56, 57, 58, 59, 60, 61, 62, 63, 64, 65, 66, 67, 68, 69, 70, 71, 72, 73, 74, 75, 76, 77, 78, 79, 80, 81, 82, 83, 84, 85, 86, 87, 88] (by decide +kernel) (by decide +kernel)
set_option maxRecDepth 20000 in
theorem gX11_likely_X11_layLikely : GoodIn wsX11_likely (wsV RX11 181 RX11 yX11_layLikely wsX11_layLikely) := goodIn_app (goodIn_of _ (by decide +kernel)) ggX11_likely_X11_layLikely
set_option maxRecDepth 20000 in
theorem ggX11_likely_X11_term : GoodIn wsX11_likely wsX11_term := goodIn_r _ [31, 32, 33, 8, 34] (by decide +kernel) (by decide +kernel)
set_option maxRecDepth 20000 in
theorem gX11_likely_X11_term : GoodIn wsX11_likely (va_wsS RX11 185 yX11_term wsX11_term) := goodIn_app (goodIn_of _ (by decide +kernel)) ggX11_likely_X11_term
theorem dX11_likely_0 : decode cX11_likely 0 = .ok (.aload_n 0, 1) := by decide +kernel
theorem dX11_likely_1 : decode cX11_likely 1 = .ok (.iload_n 1, 1) := by decide +kernel
theorem dX11_likely_2 : decode cX11_likely 2 = .ok (.invokevirtual 153, 3) := by decide +kernel
theorem dX11_likely_5 : decode cX11_likely 5 = .ok (.ifCond .ne 7, 3) := by decide +kernel
theorem dX11_likely_8 : decode cX11_likely 8 = .ok (.ldc2_w 177, 3) := by decide +kernel
theorem dX11_likely_11 : decode cX11_likely 11 = .ok (.lreturn, 1) := by decide +kernel
theorem dX11_likely_12 : decode cX11_likely 12 = .ok (.iload_n 2, 1) := by decide +kernel
theorem dX11_likely_13 : decode cX11_likely 13 = .ok (.iconst 0, 1) := by decide +kernel
theorem dX11_likely_14 : decode cX11_likely 14 = .ok (.bipush 6, 2) := by decide +kernel
theorem dX11_likely_16 : decode cX11_likely 16 = .ok (.invokestatic 138, 3) := by decide +kernel
theorem dX11_likely_19 : decode cX11_likely 19 = .ok (.ifCond .eq 44, 3) := by decide +kernel
theorem dX11_likely_22 : decode cX11_likely 22 = .ok (.iload_n 3, 1) := by decide +kernel
theorem dX11_likely_23 : decode cX11_likely 23 = .ok (.iconst 0, 1) := by decide +kernel
theorem dX11_likely_24 : decode cX11_likely 24 = .ok (.bipush 6, 2) := by decide +kernel
theorem dX11_likely_26 : decode cX11_likely 26 = .ok (.invokestatic 138, 3) := by decide +kernel
theorem dX11_likely_29 : decode cX11_likely 29 = .ok (.ifCond .eq 34, 3) := by decide +kernel
theorem dX11_likely_32 : decode cX11_likely 32 = .ok (.iload 4, 2) := by decide +kernel
theorem dX11_likely_34 : decode cX11_likely 34 = .ok (.iconst 0, 1) := by decide +kernel
theorem dX11_likely_35 : decode cX11_likely 35 = .ok (.bipush 6, 2) := by decide +kernel
theorem dX11_likely_37 : decode cX11_likely 37 = .ok (.invokestatic 138, 3) := by decide +kernel
theorem dX11_likely_40 : decode cX11_likely 40 = .ok (.ifCond .eq 23, 3) := by decide +kernel
theorem dX11_likely_43 : decode cX11_likely 43 = .ok (.iload 5, 2) := by decide +kernel
theorem dX11_likely_45 : decode cX11_likely 45 = .ok (.iconst 0, 1) := by decide +kernel
theorem dX11_likely_46 : decode cX11_likely 46 = .ok (.iconst 2, 1) := by decide +kernel
theorem dX11_likely_47 : decode cX11_likely 47 = .ok (.invokestatic 138, 3) := by decide +kernel
theorem dX11_likely_50 : decode cX11_likely 50 = .ok (.ifCond .eq 13, 3) := by decide +kernel
theorem dX11_likely_53 : decode cX11_likely 53 = .ok (.iload 6, 2) := by decide +kernel
theorem dX11_likely_55 : decode cX11_likely 55 = .ok (.iconst 0, 1) := by decide +kernel
theorem dX11_likely_56 : decode cX11_likely 56 = .ok (.iconst 1, 1) := by decide +kernel
theorem dX11_likely_57 : decode cX11_likely 57 = .ok (.invokestatic 138, 3) := by decide +kernel
theorem dX11_likely_60 : decode cX11_likely 60 = .ok (.ifCond .ne 7, 3) := by decide +kernel
theorem dX11_likely_63 : decode cX11_likely 63 = .ok (.ldc2_w 179, 3) := by decide +kernel
theorem dX11_likely_66 : decode cX11_likely 66 = .ok (.lreturn, 1) := by decide +kernel
theorem dX11_likely_67 : decode cX11_likely 67 = .ok (.aload_n 0, 1) := by decide +kernel
theorem dX11_likely_68 : decode cX11_likely 68 = .ok (.iload_n 1, 1) := by decide +kernel
theorem dX11_likely_69 : decode cX11_likely 69 = .ok (.iload_n 2, 1) := by decide +kernel
theorem dX11_likely_70 : decode cX11_likely 70 = .ok (.iload_n 3, 1) := by decide +kernel
theorem dX11_likely_71 : decode cX11_likely 71 = .ok (.iload 4, 2) := by decide +kernel
theorem dX11_likely_73 : decode cX11_likely 73 = .ok (.iload 5, 2) := by decide +kernel
theorem dX11_likely_75 : decode cX11_likely 75 = .ok (.invokevirtual 181, 3) := by decide +kernel
theorem dX11_likely_78 : decode cX11_likely 78 = .ok (.aload_n 0, 1) := by decide +kernel
theorem dX11_likely_79 : decode cX11_likely 79 = .ok (.getfield 174, 3) := by decide +kernel
theorem dX11_likely_82 : decode cX11_likely 82 = .ok (.aload_n 0, 1) := by decide +kernel
theorem dX11_likely_83 : decode cX11_likely 83 = .ok (.getfield 168, 3) := by decide +kernel
theorem dX11_likely_86 : decode cX11_likely 86 = .ok (.iload 6, 2) := by decide +kernel
theorem dX11_likely_88 : decode cX11_likely 88 = .ok (.invokestatic 185, 3) := by decide +kernel
theorem dX11_likely_91 : decode cX11_likely 91 = .ok (.lreturn, 1) := by decide +kernel
set_option maxRecDepth 20000 in
theorem ggX11_set_X11_in : GoodIn wsX11_set wsX11_in := goodIn_r _ [5] (by decide +kernel) (by decide +kernel)
set_option maxRecDepth 20000 in
theorem gX11_set_X11_in : GoodIn wsX11_set (va_wsS RX11 138 yX11_in wsX11_in) := goodIn_app (goodIn_of _ (by decide +kernel)) ggX11_set_X11_in
theorem dX11_set_0 : decode cX11_set 0 = .ok (.iload_n 1, 1) := by decide +kernel
theorem dX11_set_1 : decode cX11_set 1 = .ok (.iconst 0, 1) := by decide +kernel
theorem dX11_set_2 : decode cX11_set 2 = .ok (.iconst 4, 1) := by decide +kernel
theorem dX11_set_3 : decode cX11_set 3 = .ok (.invokestatic 138, 3) := by decide +kernel
theorem dX11_set_6 : decode cX11_set 6 = .ok (.ifCond .ne 6, 3) := by decide +kernel
theorem dX11_set_9 : decode cX11_set 9 = .ok (.bipush (-2), 2) := by decide +kernel
theorem dX11_set_11 : decode cX11_set 11 = .ok (.ireturn, 1) := by decide +kernel
theorem dX11_set_12 : decode cX11_set 12 = .ok (.iload_n 1, 1) := by decide +kernel
theorem dX11_set_13 : decode cX11_set 13 = .ok (.ifCond .ne 8, 3) := by decide +kernel
theorem dX11_set_16 : decode cX11_set 16 = .ok (.bipush 40, 2) := by decide +kernel
theorem dX11_set_18 : decode cX11_set 18 = .ok (.goto 34, 3) := by decide +kernel
theorem dX11_set_21 : decode cX11_set 21 = .ok (.iload_n 1, 1) := by decide +kernel
theorem dX11_set_22 : decode cX11_set 22 = .ok (.iconst 1, 1) := by decide +kernel
theorem dX11_set_23 : decode cX11_set 23 = .ok (.if_icmp .ne 8, 3) := by decide +kernel
theorem dX11_set_26 : decode cX11_set 26 = .ok (.bipush 89, 2) := by decide +kernel
theorem dX11_set_28 : decode cX11_set 28 = .ok (.goto 24, 3) := by decide +kernel
theorem dX11_set_31 : decode cX11_set 31 = .ok (.iload_n 1, 1) := by decide +kernel
theorem dX11_set_32 : decode cX11_set 32 = .ok (.iconst 2, 1) := by decide +kernel
theorem dX11_set_33 : decode cX11_set 33 = .ok (.if_icmp .ne 8, 3) := by decide +kernel
theorem dX11_set_36 : decode cX11_set 36 = .ok (.bipush 10, 2) := by decide +kernel
theorem dX11_set_38 : decode cX11_set 38 = .ok (.goto 14, 3) := by decide +kernel
theorem dX11_set_41 : decode cX11_set 41 = .ok (.iload_n 1, 1) := by decide +kernel
theorem dX11_set_42 : decode cX11_set 42 = .ok (.iconst 3, 1) := by decide +kernel
theorem dX11_set_43 : decode cX11_set 43 = .ok (.if_icmp .ne 8, 3) := by decide +kernel
theorem dX11_set_46 : decode cX11_set 46 = .ok (.bipush 20, 2) := by decide +kernel
theorem dX11_set_48 : decode cX11_set 48 = .ok (.goto 4, 3) := by decide +kernel
theorem dX11_set_51 : decode cX11_set 51 = .ok (.iconst 4, 1) := by decide +kernel
theorem dX11_set_52 : decode cX11_set 52 = .ok (.istore_n 3, 1) := by decide +kernel
theorem dX11_set_53 : decode cX11_set 53 = .ok (.iload_n 2, 1) := by decide +kernel
theorem dX11_set_54 : decode cX11_set 54 = .ok (.iload_n 1, 1) := by decide +kernel
theorem dX11_set_55 : decode cX11_set 55 = .ok (.iconst 2, 1) := by decide +kernel
theorem dX11_set_56 : decode cX11_set 56 = .ok (.if_icmp .ge 7, 3) := by decide +kernel
theorem dX11_set_59 : decode cX11_set 59 = .ok (.iconst 0, 1) := by decide +kernel
theorem dX11_set_60 : decode cX11_set 60 = .ok (.goto 4, 3) := by decide +kernel
theorem dX11_set_63 : decode cX11_set 63 = .ok (.iconst 1, 1) := by decide +kernel
theorem dX11_set_64 : decode cX11_set 64 = .ok (.iload_n 3, 1) := by decide +kernel
theorem dX11_set_65 : decode cX11_set 65 = .ok (.invokestatic 138, 3) := by decide +kernel
theorem dX11_set_68 : decode cX11_set 68 = .ok (.ifCond .ne 6, 3) := by decide +kernel
theorem dX11_set_71 : decode cX11_set 71 = .ok (.bipush (-2), 2) := by decide +kernel
theorem dX11_set_73 : decode cX11_set 73 = .ok (.ireturn, 1) := by decide +kernel
theorem dX11_set_74 : decode cX11_set 74 = .ok (.aload_n 0, 1) := by decide +kernel
theorem dX11_set_75 : decode cX11_set 75 = .ok (.getfield 37, 3) := by decide +kernel
theorem dX11_set_78 : decode cX11_set 78 = .ok (.iload_n 1, 1) := by decide +kernel
theorem dX11_set_79 : decode cX11_set 79 = .ok (.iaload, 1) := by decide +kernel
theorem dX11_set_80 : decode cX11_set 80 = .ok (.istore 4, 2) := by decide +kernel
theorem dX11_set_82 : decode cX11_set 82 = .ok (.aload_n 0, 1) := by decide +kernel
theorem dX11_set_83 : decode cX11_set 83 = .ok (.getfield 37, 3) := by decide +kernel
theorem dX11_set_86 : decode cX11_set 86 = .ok (.iload_n 1, 1) := by decide +kernel
theorem dX11_set_87 : decode cX11_set 87 = .ok (.iload_n 2, 1) := by decide +kernel
theorem dX11_set_88 : decode cX11_set 88 = .ok (.iastore, 1) := by decide +kernel
theorem dX11_set_89 : decode cX11_set 89 = .ok (.iload 4, 2) := by decide +kernel
theorem dX11_set_91 : decode cX11_set 91 = .ok (.ireturn, 1) := by decide +kernel
set_option maxRecDepth 20000 in
theorem ggX11_price_X11_isMatch : GoodIn wsX11_price wsX11_isMatch := goodIn_r _ [6, 7, 8, 9, 5, 10, 11, 12, 13, 14, 15, 16, 17, 18, 19, 20, 21, 22, 23, 24, 25, 26, 27, 28, 29, 30, 31, 32, 33, 34, 35, 36, 37, 38, 39, 40, 41, 42, 43, 44, 45, 46, 47, 48, 49, 50, 51, 52, 53, 54, 55, 56, 57, 58, 59, 60, 61, 62, 63, 64] (by decide +kernel) (by decide +kernel)
set_option maxRecDepth 20000 in
theorem gX11_price_X11_isMatch : GoodIn wsX11_price (wsV RX11 153 RX11 yX11_isMatch wsX11_isMatch) := goodIn_app (goodIn_of _ (by decide +kernel)) ggX11_price_X11_isMatch
set_option maxRecDepth 20000 in
theorem ggX11_price_X11_in : GoodIn wsX11_price wsX11_in := goodIn_r _ [10] (by decide +kernel) (by decide +kernel)
set_option maxRecDepth 20000 in
theorem gX11_price_X11_in : GoodIn wsX11_price (va_wsS RX11 138 yX11_in wsX11_in) := goodIn_app (goodIn_of _ (by decide +kernel)) ggX11_price_X11_in
theorem dX11_price_0 : decode cX11_price 0 = .ok (.aload_n 0, 1) := by decide +kernel
theorem dX11_price_1 : decode cX11_price 1 = .ok (.iload_n 1, 1) := by decide +kernel
theorem dX11_price_2 : decode cX11_price 2 = .ok (.invokevirtual 153, 3) := by decide +kernel
theorem dX11_price_5 : decode cX11_price 5 = .ok (.ifCond .ne 5, 3) := by decide +kernel
theorem dX11_price_8 : decode cX11_price 8 = .ok (.iconst (-1), 1) := by decide +kernel
theorem dX11_price_9 : decode cX11_price 9 = .ok (.ireturn, 1) := by decide +kernel
theorem dX11_price_10 : decode cX11_price 10 = .ok (.iload_n 2, 1) := by decide +kernel
theorem dX11_price_11 : decode cX11_price 11 = .ok (.iconst 0, 1) := by decide +kernel
theorem dX11_price_12 : decode cX11_price 12 = .ok (.iconst 5, 1) := by decide +kernel
theorem dX11_price_13 : decode cX11_price 13 = .ok (.invokestatic 138, 3) := by decide +kernel
theorem dX11_price_16 : decode cX11_price 16 = .ok (.ifCond .eq 30, 3) := by decide +kernel
theorem dX11_price_19 : decode cX11_price 19 = .ok (.iload_n 3, 1) := by decide +kernel
theorem dX11_price_20 : decode cX11_price 20 = .ok (.iconst 0, 1) := by decide +kernel
theorem dX11_price_21 : decode cX11_price 21 = .ok (.iconst 2, 1) := by decide +kernel
theorem dX11_price_22 : decode cX11_price 22 = .ok (.invokestatic 138, 3) := by decide +kernel
theorem dX11_price_25 : decode cX11_price 25 = .ok (.ifCond .eq 21, 3) := by decide +kernel
theorem dX11_price_28 : decode cX11_price 28 = .ok (.iload 4, 2) := by decide +kernel
theorem dX11_price_30 : decode cX11_price 30 = .ok (.ifCond .eq 19, 3) := by decide +kernel
theorem dX11_price_33 : decode cX11_price 33 = .ok (.iload 4, 2) := by decide +kernel
theorem dX11_price_35 : decode cX11_price 35 = .ok (.bipush 100, 2) := by decide +kernel
theorem dX11_price_37 : decode cX11_price 37 = .ok (.sipush 10000, 3) := by decide +kernel
theorem dX11_price_40 : decode cX11_price 40 = .ok (.invokestatic 138, 3) := by decide +kernel
theorem dX11_price_43 : decode cX11_price 43 = .ok (.ifCond .ne 6, 3) := by decide +kernel
theorem dX11_price_46 : decode cX11_price 46 = .ok (.bipush (-2), 2) := by decide +kernel
theorem dX11_price_48 : decode cX11_price 48 = .ok (.ireturn, 1) := by decide +kernel
theorem dX11_price_49 : decode cX11_price 49 = .ok (.bipush 18, 2) := by decide +kernel
theorem dX11_price_51 : decode cX11_price 51 = .ok (.iload_n 1, 1) := by decide +kernel
theorem dX11_price_52 : decode cX11_price 52 = .ok (.imul, 1) := by decide +kernel
theorem dX11_price_53 : decode cX11_price 53 = .ok (.iconst 3, 1) := by decide +kernel
theorem dX11_price_54 : decode cX11_price 54 = .ok (.iload_n 2, 1) := by decide +kernel
theorem dX11_price_55 : decode cX11_price 55 = .ok (.imul, 1) := by decide +kernel
theorem dX11_price_56 : decode cX11_price 56 = .ok (.iadd, 1) := by decide +kernel
theorem dX11_price_57 : decode cX11_price 57 = .ok (.iload_n 3, 1) := by decide +kernel
theorem dX11_price_58 : decode cX11_price 58 = .ok (.iadd, 1) := by decide +kernel
theorem dX11_price_59 : decode cX11_price 59 = .ok (.istore 5, 2) := by decide +kernel
theorem dX11_price_61 : decode cX11_price 61 = .ok (.aload_n 0, 1) := by decide +kernel
theorem dX11_price_62 : decode cX11_price 62 = .ok (.getfield 34, 3) := by decide +kernel
theorem dX11_price_65 : decode cX11_price 65 = .ok (.iload 5, 2) := by decide +kernel
theorem dX11_price_67 : decode cX11_price 67 = .ok (.iaload, 1) := by decide +kernel
theorem dX11_price_68 : decode cX11_price 68 = .ok (.istore 6, 2) := by decide +kernel
theorem dX11_price_70 : decode cX11_price 70 = .ok (.aload_n 0, 1) := by decide +kernel
theorem dX11_price_71 : decode cX11_price 71 = .ok (.getfield 34, 3) := by decide +kernel
theorem dX11_price_74 : decode cX11_price 74 = .ok (.iload 5, 2) := by decide +kernel
theorem dX11_price_76 : decode cX11_price 76 = .ok (.iload 4, 2) := by decide +kernel
theorem dX11_price_78 : decode cX11_price 78 = .ok (.iastore, 1) := by decide +kernel
theorem dX11_price_79 : decode cX11_price 79 = .ok (.iload 6, 2) := by decide +kernel
theorem dX11_price_81 : decode cX11_price 81 = .ok (.ireturn, 1) := by decide +kernel
set_option maxRecDepth 20000 in
theorem ggX11_leanOf_X11_scored : GoodIn wsX11_leanOf wsX11_scored := goodIn_r _ [10, 11, 27, 28, 29, 30, 31, 32, 33, 34, 35, 36, 37, 38, 39, 40, 41, 42, 43, 44, 45, 46, 47, 48, 49, 50, 51, 52, 53, 54, 55, 56, 57, 58, 59, 60, 61, 62, 63, 64, 65, 66, 67, 68, 69, 70, 71, 72, 73, 74, 75, 76, 77, 78, 79, 80] (by decide +kernel) (by decide +kernel)
set_option maxRecDepth 20000 in
theorem gX11_leanOf_X11_scored : GoodIn wsX11_leanOf (wsV RX11 156 RX11 yX11_scored wsX11_scored) := goodIn_app (goodIn_of _ (by decide +kernel)) ggX11_leanOf_X11_scored
set_option maxRecDepth 20000 in
theorem ggX11_leanOf_X11_layLikely : GoodIn wsX11_leanOf wsX11_layLikely := goodIn_r _ [15, 16, 17, 18, 5, 19, 20, 4, 21, 22, 23, 9, 24, 25, 26, 27, 28, 29, 30, 31, 32, 33, 34, 35, 36, 37, 38, 39, 40, 41, 42, 43, 44, 45, 46, 47, 48, 49, 50, 51, 52, 53, 54, 55, 56, 57, 58, 59, 60, 61, 62, 63, 64, 65, 66, 67, 68, 69, 70, 71, 72, 73, 74, 75, 76, 77, 78, 79, 80] (by decide +kernel) (by decide +kernel)
set_option maxRecDepth 20000 in
theorem gX11_leanOf_X11_layLikely : GoodIn wsX11_leanOf (wsV RX11 181 RX11 yX11_layLikely wsX11_layLikely) := goodIn_app (goodIn_of _ (by decide +kernel)) ggX11_leanOf_X11_layLikely
theorem dX11_leanOf_0 : decode cX11_leanOf 0 = .ok (.aload_n 0, 1) := by decide +kernel
theorem dX11_leanOf_1 : decode cX11_leanOf 1 = .ok (.getfield 34, 3) := by decide +kernel
theorem dX11_leanOf_4 : decode cX11_leanOf 4 = .ok (.bipush 18, 2) := by decide +kernel
theorem dX11_leanOf_6 : decode cX11_leanOf 6 = .ok (.iload_n 1, 1) := by decide +kernel
theorem dX11_leanOf_7 : decode cX11_leanOf 7 = .ok (.imul, 1) := by decide +kernel
theorem dX11_leanOf_8 : decode cX11_leanOf 8 = .ok (.iconst 3, 1) := by decide +kernel
theorem dX11_leanOf_9 : decode cX11_leanOf 9 = .ok (.iload_n 2, 1) := by decide +kernel
theorem dX11_leanOf_10 : decode cX11_leanOf 10 = .ok (.imul, 1) := by decide +kernel
theorem dX11_leanOf_11 : decode cX11_leanOf 11 = .ok (.iadd, 1) := by decide +kernel
theorem dX11_leanOf_12 : decode cX11_leanOf 12 = .ok (.iload_n 3, 1) := by decide +kernel
theorem dX11_leanOf_13 : decode cX11_leanOf 13 = .ok (.iadd, 1) := by decide +kernel
theorem dX11_leanOf_14 : decode cX11_leanOf 14 = .ok (.iaload, 1) := by decide +kernel
theorem dX11_leanOf_15 : decode cX11_leanOf 15 = .ok (.istore 4, 2) := by decide +kernel
theorem dX11_leanOf_17 : decode cX11_leanOf 17 = .ok (.iload 4, 2) := by decide +kernel
theorem dX11_leanOf_19 : decode cX11_leanOf 19 = .ok (.ifCond .ne 5, 3) := by decide +kernel
theorem dX11_leanOf_22 : decode cX11_leanOf 22 = .ok (.iconst 0, 1) := by decide +kernel
theorem dX11_leanOf_23 : decode cX11_leanOf 23 = .ok (.ireturn, 1) := by decide +kernel
theorem dX11_leanOf_24 : decode cX11_leanOf 24 = .ok (.aload_n 0, 1) := by decide +kernel
theorem dX11_leanOf_25 : decode cX11_leanOf 25 = .ok (.iload_n 1, 1) := by decide +kernel
theorem dX11_leanOf_26 : decode cX11_leanOf 26 = .ok (.iload_n 2, 1) := by decide +kernel
theorem dX11_leanOf_27 : decode cX11_leanOf 27 = .ok (.aload_n 0, 1) := by decide +kernel
theorem dX11_leanOf_28 : decode cX11_leanOf 28 = .ok (.iload_n 1, 1) := by decide +kernel
theorem dX11_leanOf_29 : decode cX11_leanOf 29 = .ok (.iload_n 2, 1) := by decide +kernel
theorem dX11_leanOf_30 : decode cX11_leanOf 30 = .ok (.iconst 1, 1) := by decide +kernel
theorem dX11_leanOf_31 : decode cX11_leanOf 31 = .ok (.invokevirtual 156, 3) := by decide +kernel
theorem dX11_leanOf_34 : decode cX11_leanOf 34 = .ok (.aload_n 0, 1) := by decide +kernel
theorem dX11_leanOf_35 : decode cX11_leanOf 35 = .ok (.iload_n 1, 1) := by decide +kernel
theorem dX11_leanOf_36 : decode cX11_leanOf 36 = .ok (.iload_n 2, 1) := by decide +kernel
theorem dX11_leanOf_37 : decode cX11_leanOf 37 = .ok (.iconst 2, 1) := by decide +kernel
theorem dX11_leanOf_38 : decode cX11_leanOf 38 = .ok (.invokevirtual 156, 3) := by decide +kernel
theorem dX11_leanOf_41 : decode cX11_leanOf 41 = .ok (.iload_n 3, 1) := by decide +kernel
theorem dX11_leanOf_42 : decode cX11_leanOf 42 = .ok (.invokevirtual 181, 3) := by decide +kernel
theorem dX11_leanOf_45 : decode cX11_leanOf 45 = .ok (.ldc 189, 2) := by decide +kernel
theorem dX11_leanOf_47 : decode cX11_leanOf 47 = .ok (.iload 4, 2) := by decide +kernel
theorem dX11_leanOf_49 : decode cX11_leanOf 49 = .ok (.idiv, 1) := by decide +kernel
theorem dX11_leanOf_50 : decode cX11_leanOf 50 = .ok (.ldc2_w 190, 3) := by decide +kernel
theorem dX11_leanOf_53 : decode cX11_leanOf 53 = .ok (.aload_n 0, 1) := by decide +kernel
theorem dX11_leanOf_54 : decode cX11_leanOf 54 = .ok (.getfield 174, 3) := by decide +kernel
theorem dX11_leanOf_57 : decode cX11_leanOf 57 = .ok (.lmul, 1) := by decide +kernel
theorem dX11_leanOf_58 : decode cX11_leanOf 58 = .ok (.aload_n 0, 1) := by decide +kernel
theorem dX11_leanOf_59 : decode cX11_leanOf 59 = .ok (.getfield 168, 3) := by decide +kernel
theorem dX11_leanOf_62 : decode cX11_leanOf 62 = .ok (.ldiv, 1) := by decide +kernel
theorem dX11_leanOf_63 : decode cX11_leanOf 63 = .ok (.l2i, 1) := by decide +kernel
theorem dX11_leanOf_64 : decode cX11_leanOf 64 = .ok (.isub, 1) := by decide +kernel
theorem dX11_leanOf_65 : decode cX11_leanOf 65 = .ok (.ireturn, 1) := by decide +kernel
set_option maxRecDepth 20000 in
theorem ggX11_lean_X11_isMatch : GoodIn wsX11_lean wsX11_isMatch := goodIn_r _ [6, 7, 8, 9, 5, 10, 40, 41, 42, 43, 44, 45, 46, 47, 48, 49, 50, 51, 52, 53, 54, 55, 56, 57, 58, 59, 60, 61, 62, 63, 64, 65, 66, 67, 68, 69, 70, 71, 72, 73, 74, 75, 76, 77, 78, 79, 80, 81, 82, 83, 84, 85, 86, 87, 88, 89, 90, 91, 92, 93] (by decide +kernel) (by decide +kernel)
set_option maxRecDepth 20000 in
theorem gX11_lean_X11_isMatch : GoodIn wsX11_lean (wsV RX11 153 RX11 yX11_isMatch wsX11_isMatch) := goodIn_app (goodIn_of _ (by decide +kernel)) ggX11_lean_X11_isMatch
set_option maxRecDepth 20000 in
theorem ggX11_lean_X11_in : GoodIn wsX11_lean wsX11_in := goodIn_r _ [10] (by decide +kernel) (by decide +kernel)
set_option maxRecDepth 20000 in
theorem gX11_lean_X11_in : GoodIn wsX11_lean (va_wsS RX11 138 yX11_in wsX11_in) := goodIn_app (goodIn_of _ (by decide +kernel)) ggX11_lean_X11_in
set_option maxRecDepth 20000 in
theorem ggX11_lean_X11_leanOf : GoodIn wsX11_lean wsX11_leanOf := goodIn_r _ [14, 15, 16, 17, 18, 19, 20, 21, 22, 5, 23, 24, 25, 26, 27, 28, 29, 30, 31, 32, 33, 34, 35, 36, 37, 38, 39, 40, 41, 42, 43, 44, 45, 46, 47, 48, 49, 50, 51, 52, 53, 54, 55, 56, 57, 58, 59, 60, 61, 62, 63, 64, 65, 66, 67, 68, 69, 70, 71, 72, 73, 74, 75, 76, 77, 78, 79, 80, 81, 82, 83, 84, 85, 86, 87, 88, 89, 90, 91, 92, 93] (by decide +kernel) (by decide +kernel)
set_option maxRecDepth 20000 in
theorem gX11_lean_X11_leanOf : GoodIn wsX11_lean (wsV RX11 193 RX11 yX11_leanOf wsX11_leanOf) := goodIn_app (goodIn_of _ (by decide +kernel)) ggX11_lean_X11_leanOf
theorem dX11_lean_0 : decode cX11_lean 0 = .ok (.aload_n 0, 1) := by decide +kernel
theorem dX11_lean_1 : decode cX11_lean 1 = .ok (.iload_n 1, 1) := by decide +kernel
theorem dX11_lean_2 : decode cX11_lean 2 = .ok (.invokevirtual 153, 3) := by decide +kernel
theorem dX11_lean_5 : decode cX11_lean 5 = .ok (.ifCond .ne 6, 3) := by decide +kernel
theorem dX11_lean_8 : decode cX11_lean 8 = .ok (.ldc 192, 2) := by decide +kernel
theorem dX11_lean_10 : decode cX11_lean 10 = .ok (.ireturn, 1) := by decide +kernel
theorem dX11_lean_11 : decode cX11_lean 11 = .ok (.iload_n 2, 1) := by decide +kernel
theorem dX11_lean_12 : decode cX11_lean 12 = .ok (.iconst 0, 1) := by decide +kernel
theorem dX11_lean_13 : decode cX11_lean 13 = .ok (.iconst 5, 1) := by decide +kernel
theorem dX11_lean_14 : decode cX11_lean 14 = .ok (.invokestatic 138, 3) := by decide +kernel
theorem dX11_lean_17 : decode cX11_lean 17 = .ok (.ifCond .eq 22, 3) := by decide +kernel
theorem dX11_lean_20 : decode cX11_lean 20 = .ok (.iload_n 3, 1) := by decide +kernel
theorem dX11_lean_21 : decode cX11_lean 21 = .ok (.iconst 0, 1) := by decide +kernel
theorem dX11_lean_22 : decode cX11_lean 22 = .ok (.iconst 2, 1) := by decide +kernel
theorem dX11_lean_23 : decode cX11_lean 23 = .ok (.invokestatic 138, 3) := by decide +kernel
theorem dX11_lean_26 : decode cX11_lean 26 = .ok (.ifCond .eq 13, 3) := by decide +kernel
theorem dX11_lean_29 : decode cX11_lean 29 = .ok (.aload_n 0, 1) := by decide +kernel
theorem dX11_lean_30 : decode cX11_lean 30 = .ok (.iload_n 1, 1) := by decide +kernel
theorem dX11_lean_31 : decode cX11_lean 31 = .ok (.iload_n 2, 1) := by decide +kernel
theorem dX11_lean_32 : decode cX11_lean 32 = .ok (.iload_n 3, 1) := by decide +kernel
theorem dX11_lean_33 : decode cX11_lean 33 = .ok (.invokevirtual 193, 3) := by decide +kernel
theorem dX11_lean_36 : decode cX11_lean 36 = .ok (.goto 5, 3) := by decide +kernel
theorem dX11_lean_39 : decode cX11_lean 39 = .ok (.ldc 192, 2) := by decide +kernel
theorem dX11_lean_41 : decode cX11_lean 41 = .ok (.ireturn, 1) := by decide +kernel
set_option maxRecDepth 20000 in
theorem ggX11_greatestOf_X11_leanOf : GoodIn wsX11_greatestOf wsX11_leanOf := goodIn_r _ [6, 7, 8, 9, 10, 11, 12, 13, 14, 5, 15, 16, 17, 18, 19, 20, 21, 22, 23, 24, 25, 26, 27, 28, 29, 30, 31, 32, 33, 34, 35, 36, 37, 38, 39, 40, 41, 42, 43, 44, 45, 46, 47, 48, 49, 50, 51, 52, 53, 54, 55, 56, 57, 58, 59, 60, 61, 62, 63, 64, 65, 66, 67, 68, 69, 70, 71, 72, 73, 74, 75, 76, 77, 78, 79, 80, 81, 82, 83, 84, 85] (by decide +kernel) (by decide +kernel)
set_option maxRecDepth 20000 in
theorem gX11_greatestOf_X11_leanOf : GoodIn wsX11_greatestOf (wsV RX11 193 RX11 yX11_leanOf wsX11_leanOf) := goodIn_app (goodIn_of _ (by decide +kernel)) ggX11_greatestOf_X11_leanOf
theorem dX11_greatestOf_0 : decode cX11_greatestOf 0 = .ok (.aload_n 0, 1) := by decide +kernel
theorem dX11_greatestOf_1 : decode cX11_greatestOf 1 = .ok (.iload_n 1, 1) := by decide +kernel
theorem dX11_greatestOf_2 : decode cX11_greatestOf 2 = .ok (.iconst 0, 1) := by decide +kernel
theorem dX11_greatestOf_3 : decode cX11_greatestOf 3 = .ok (.iconst 0, 1) := by decide +kernel
theorem dX11_greatestOf_4 : decode cX11_greatestOf 4 = .ok (.invokevirtual 193, 3) := by decide +kernel
theorem dX11_greatestOf_7 : decode cX11_greatestOf 7 = .ok (.istore_n 2, 1) := by decide +kernel
theorem dX11_greatestOf_8 : decode cX11_greatestOf 8 = .ok (.aload_n 0, 1) := by decide +kernel
theorem dX11_greatestOf_9 : decode cX11_greatestOf 9 = .ok (.iconst 0, 1) := by decide +kernel
theorem dX11_greatestOf_10 : decode cX11_greatestOf 10 = .ok (.putfield 196, 3) := by decide +kernel
theorem dX11_greatestOf_13 : decode cX11_greatestOf 13 = .ok (.iconst 1, 1) := by decide +kernel
theorem dX11_greatestOf_14 : decode cX11_greatestOf 14 = .ok (.istore_n 3, 1) := by decide +kernel
theorem dX11_greatestOf_15 : decode cX11_greatestOf 15 = .ok (.iload_n 3, 1) := by decide +kernel
theorem dX11_greatestOf_16 : decode cX11_greatestOf 16 = .ok (.bipush 18, 2) := by decide +kernel
theorem dX11_greatestOf_18 : decode cX11_greatestOf 18 = .ok (.if_icmp .ge 45, 3) := by decide +kernel
theorem dX11_greatestOf_21 : decode cX11_greatestOf 21 = .ok (.aload_n 0, 1) := by decide +kernel
theorem dX11_greatestOf_22 : decode cX11_greatestOf 22 = .ok (.iload_n 1, 1) := by decide +kernel
theorem dX11_greatestOf_23 : decode cX11_greatestOf 23 = .ok (.iload_n 3, 1) := by decide +kernel
theorem dX11_greatestOf_24 : decode cX11_greatestOf 24 = .ok (.iconst 3, 1) := by decide +kernel
theorem dX11_greatestOf_25 : decode cX11_greatestOf 25 = .ok (.idiv, 1) := by decide +kernel
theorem dX11_greatestOf_26 : decode cX11_greatestOf 26 = .ok (.iload_n 3, 1) := by decide +kernel
theorem dX11_greatestOf_27 : decode cX11_greatestOf 27 = .ok (.iconst 3, 1) := by decide +kernel
theorem dX11_greatestOf_28 : decode cX11_greatestOf 28 = .ok (.irem, 1) := by decide +kernel
theorem dX11_greatestOf_29 : decode cX11_greatestOf 29 = .ok (.invokevirtual 193, 3) := by decide +kernel
theorem dX11_greatestOf_32 : decode cX11_greatestOf 32 = .ok (.istore 4, 2) := by decide +kernel
theorem dX11_greatestOf_34 : decode cX11_greatestOf 34 = .ok (.iload 4, 2) := by decide +kernel
theorem dX11_greatestOf_36 : decode cX11_greatestOf 36 = .ok (.iload_n 2, 1) := by decide +kernel
theorem dX11_greatestOf_37 : decode cX11_greatestOf 37 = .ok (.if_icmp .le 20, 3) := by decide +kernel
theorem dX11_greatestOf_40 : decode cX11_greatestOf 40 = .ok (.iload 4, 2) := by decide +kernel
theorem dX11_greatestOf_42 : decode cX11_greatestOf 42 = .ok (.istore_n 2, 1) := by decide +kernel
theorem dX11_greatestOf_43 : decode cX11_greatestOf 43 = .ok (.aload_n 0, 1) := by decide +kernel
theorem dX11_greatestOf_44 : decode cX11_greatestOf 44 = .ok (.bipush 10, 2) := by decide +kernel
theorem dX11_greatestOf_46 : decode cX11_greatestOf 46 = .ok (.iload_n 3, 1) := by decide +kernel
theorem dX11_greatestOf_47 : decode cX11_greatestOf 47 = .ok (.iconst 3, 1) := by decide +kernel
theorem dX11_greatestOf_48 : decode cX11_greatestOf 48 = .ok (.idiv, 1) := by decide +kernel
theorem dX11_greatestOf_49 : decode cX11_greatestOf 49 = .ok (.imul, 1) := by decide +kernel
theorem dX11_greatestOf_50 : decode cX11_greatestOf 50 = .ok (.iload_n 3, 1) := by decide +kernel
theorem dX11_greatestOf_51 : decode cX11_greatestOf 51 = .ok (.iconst 3, 1) := by decide +kernel
theorem dX11_greatestOf_52 : decode cX11_greatestOf 52 = .ok (.irem, 1) := by decide +kernel
theorem dX11_greatestOf_53 : decode cX11_greatestOf 53 = .ok (.iadd, 1) := by decide +kernel
theorem dX11_greatestOf_54 : decode cX11_greatestOf 54 = .ok (.putfield 196, 3) := by decide +kernel
theorem dX11_greatestOf_57 : decode cX11_greatestOf 57 = .ok (.iinc 3 1, 3) := by decide +kernel
theorem dX11_greatestOf_60 : decode cX11_greatestOf 60 = .ok (.goto (-45), 3) := by decide +kernel
theorem dX11_greatestOf_63 : decode cX11_greatestOf 63 = .ok (.iload_n 2, 1) := by decide +kernel
theorem dX11_greatestOf_64 : decode cX11_greatestOf 64 = .ok (.ireturn, 1) := by decide +kernel
set_option maxRecDepth 20000 in
theorem ggX11_greatest_X11_isMatch : GoodIn wsX11_greatest wsX11_isMatch := goodIn_r _ [7, 8, 9, 10, 6, 11, 45, 46, 47, 48, 49, 50, 51, 52, 53, 54, 55, 56, 57, 58, 59, 60, 61, 62, 63, 64, 65, 66, 67, 68, 69, 70, 71, 72, 73, 74, 75, 76, 77, 78, 79, 80, 81, 82, 83, 84, 85, 86, 87, 88, 89, 90, 91, 92, 93, 94, 95, 96, 97, 98] (by decide +kernel) (by decide +kernel)
set_option maxRecDepth 20000 in
theorem gX11_greatest_X11_isMatch : GoodIn wsX11_greatest (wsV RX11 153 RX11 yX11_isMatch wsX11_isMatch) := goodIn_app (goodIn_of _ (by decide +kernel)) ggX11_greatest_X11_isMatch
set_option maxRecDepth 20000 in
theorem ggX11_greatest_X11_in : GoodIn wsX11_greatest wsX11_in := goodIn_r _ [11] (by decide +kernel) (by decide +kernel)
set_option maxRecDepth 20000 in
theorem gX11_greatest_X11_in : GoodIn wsX11_greatest (va_wsS RX11 138 yX11_in wsX11_in) := goodIn_app (goodIn_of _ (by decide +kernel)) ggX11_greatest_X11_in
set_option maxRecDepth 20000 in
theorem ggX11_greatest_X11_greatestOf : GoodIn wsX11_greatest wsX11_greatestOf := goodIn_r _ [15, 2, 16, 17, 18, 6, 19, 20, 21, 22, 23, 24, 25, 26, 27, 28, 29, 30, 31, 32, 33, 34, 35, 36, 37, 38, 39, 40, 41, 42, 43, 44, 45, 46, 47, 48, 49, 50, 51, 52, 53, 54, 55, 56, 57, 58, 59, 60, 61, 62, 63, 64, 65, 66, 67, 68, 69, 70, 71, 72, 73, 74, 75, 76, 77, 78, 79, 80, 81, 82, 83, 84, 85, 86, 87, 88, 89, 90, 91, 92, 93, 94, 95, 96, 97, 98] (by decide +kernel) (by decide +kernel)
set_option maxRecDepth 20000 in
theorem gX11_greatest_X11_greatestOf : GoodIn wsX11_greatest (wsV RX11 199 RX11 yX11_greatestOf wsX11_greatestOf) := goodIn_app (goodIn_of _ (by decide +kernel)) ggX11_greatest_X11_greatestOf
theorem dX11_greatest_0 : decode cX11_greatest 0 = .ok (.aload_n 0, 1) := by decide +kernel
theorem dX11_greatest_1 : decode cX11_greatest 1 = .ok (.iload_n 1, 1) := by decide +kernel
theorem dX11_greatest_2 : decode cX11_greatest 2 = .ok (.invokevirtual 153, 3) := by decide +kernel
theorem dX11_greatest_5 : decode cX11_greatest 5 = .ok (.ifCond .eq 12, 3) := by decide +kernel
theorem dX11_greatest_8 : decode cX11_greatest 8 = .ok (.iload_n 2, 1) := by decide +kernel
theorem dX11_greatest_9 : decode cX11_greatest 9 = .ok (.iconst 0, 1) := by decide +kernel
theorem dX11_greatest_10 : decode cX11_greatest 10 = .ok (.iconst 1, 1) := by decide +kernel
theorem dX11_greatest_11 : decode cX11_greatest 11 = .ok (.invokestatic 138, 3) := by decide +kernel
theorem dX11_greatest_14 : decode cX11_greatest 14 = .ok (.ifCond .ne 6, 3) := by decide +kernel
theorem dX11_greatest_17 : decode cX11_greatest 17 = .ok (.ldc 192, 2) := by decide +kernel
theorem dX11_greatest_19 : decode cX11_greatest 19 = .ok (.ireturn, 1) := by decide +kernel
theorem dX11_greatest_20 : decode cX11_greatest 20 = .ok (.aload_n 0, 1) := by decide +kernel
theorem dX11_greatest_21 : decode cX11_greatest 21 = .ok (.iload_n 1, 1) := by decide +kernel
theorem dX11_greatest_22 : decode cX11_greatest 22 = .ok (.invokevirtual 199, 3) := by decide +kernel
theorem dX11_greatest_25 : decode cX11_greatest 25 = .ok (.istore_n 3, 1) := by decide +kernel
theorem dX11_greatest_26 : decode cX11_greatest 26 = .ok (.iload_n 2, 1) := by decide +kernel
theorem dX11_greatest_27 : decode cX11_greatest 27 = .ok (.ifCond .ne 7, 3) := by decide +kernel
theorem dX11_greatest_30 : decode cX11_greatest 30 = .ok (.iload_n 3, 1) := by decide +kernel
theorem dX11_greatest_31 : decode cX11_greatest 31 = .ok (.goto 7, 3) := by decide +kernel
theorem dX11_greatest_34 : decode cX11_greatest 34 = .ok (.aload_n 0, 1) := by decide +kernel
theorem dX11_greatest_35 : decode cX11_greatest 35 = .ok (.getfield 196, 3) := by decide +kernel
theorem dX11_greatest_38 : decode cX11_greatest 38 = .ok (.ireturn, 1) := by decide +kernel
set_option maxRecDepth 20000 in
theorem ggX11_stake_X11_isTen : GoodIn wsX11_stake wsX11_isTen := goodIn_r _ [10, 11, 12, 9, 13] (by decide +kernel) (by decide +kernel)
set_option maxRecDepth 20000 in
theorem gX11_stake_X11_isTen : GoodIn wsX11_stake (va_wsS RX11 202 yX11_isTen wsX11_isTen) := goodIn_app (goodIn_of _ (by decide +kernel)) ggX11_stake_X11_isTen
set_option maxRecDepth 20000 in
theorem ggX11_stake_X11_isMatch : GoodIn wsX11_stake wsX11_isMatch := goodIn_r _ [17, 18, 11, 12, 9, 13, 19, 20, 21, 22, 23, 24, 25, 26, 27, 28, 29, 30, 31, 32, 33, 34, 35, 36, 37, 38, 39, 40, 41, 42, 43, 44, 45, 46, 47, 48, 49, 50, 51, 52, 53, 54, 55, 56, 57, 58, 59, 60, 61, 62, 63, 64, 65, 66, 67, 68, 69, 70, 71, 72] (by decide +kernel) (by decide +kernel)
set_option maxRecDepth 20000 in
theorem gX11_stake_X11_isMatch : GoodIn wsX11_stake (wsV RX11 153 RX11 yX11_isMatch wsX11_isMatch) := goodIn_app (goodIn_of _ (by decide +kernel)) ggX11_stake_X11_isMatch
set_option maxRecDepth 20000 in
theorem ggX11_stake_X11_in : GoodIn wsX11_stake wsX11_in := goodIn_r _ [13] (by decide +kernel) (by decide +kernel)
set_option maxRecDepth 20000 in
theorem gX11_stake_X11_in : GoodIn wsX11_stake (va_wsS RX11 138 yX11_in wsX11_in) := goodIn_app (goodIn_of _ (by decide +kernel)) ggX11_stake_X11_in
theorem dX11_stake_0 : decode cX11_stake 0 = .ok (.iload_n 1, 1) := by decide +kernel
theorem dX11_stake_1 : decode cX11_stake 1 = .ok (.invokestatic 202, 3) := by decide +kernel
theorem dX11_stake_4 : decode cX11_stake 4 = .ok (.ifCond .eq 11, 3) := by decide +kernel
theorem dX11_stake_7 : decode cX11_stake 7 = .ok (.aload_n 0, 1) := by decide +kernel
theorem dX11_stake_8 : decode cX11_stake 8 = .ok (.iload_n 2, 1) := by decide +kernel
theorem dX11_stake_9 : decode cX11_stake 9 = .ok (.invokevirtual 153, 3) := by decide +kernel
theorem dX11_stake_12 : decode cX11_stake 12 = .ok (.ifCond .ne 5, 3) := by decide +kernel
theorem dX11_stake_15 : decode cX11_stake 15 = .ok (.iconst (-1), 1) := by decide +kernel
theorem dX11_stake_16 : decode cX11_stake 16 = .ok (.ireturn, 1) := by decide +kernel
theorem dX11_stake_17 : decode cX11_stake 17 = .ok (.iload_n 3, 1) := by decide +kernel
theorem dX11_stake_18 : decode cX11_stake 18 = .ok (.iconst 0, 1) := by decide +kernel
theorem dX11_stake_19 : decode cX11_stake 19 = .ok (.iconst 2, 1) := by decide +kernel
theorem dX11_stake_20 : decode cX11_stake 20 = .ok (.invokestatic 138, 3) := by decide +kernel
theorem dX11_stake_23 : decode cX11_stake 23 = .ok (.ifCond .eq 26, 3) := by decide +kernel
theorem dX11_stake_26 : decode cX11_stake 26 = .ok (.iload 4, 2) := by decide +kernel
theorem dX11_stake_28 : decode cX11_stake 28 = .ok (.iconst 0, 1) := by decide +kernel
theorem dX11_stake_29 : decode cX11_stake 29 = .ok (.bipush 89, 2) := by decide +kernel
theorem dX11_stake_31 : decode cX11_stake 31 = .ok (.invokestatic 138, 3) := by decide +kernel
theorem dX11_stake_34 : decode cX11_stake 34 = .ok (.ifCond .eq 15, 3) := by decide +kernel
theorem dX11_stake_37 : decode cX11_stake 37 = .ok (.iload 5, 2) := by decide +kernel
theorem dX11_stake_39 : decode cX11_stake 39 = .ok (.iconst 1, 1) := by decide +kernel
theorem dX11_stake_40 : decode cX11_stake 40 = .ok (.sipush 10000, 3) := by decide +kernel
theorem dX11_stake_43 : decode cX11_stake 43 = .ok (.invokestatic 138, 3) := by decide +kernel
theorem dX11_stake_46 : decode cX11_stake 46 = .ok (.ifCond .ne 6, 3) := by decide +kernel
theorem dX11_stake_49 : decode cX11_stake 49 = .ok (.bipush (-2), 2) := by decide +kernel
theorem dX11_stake_51 : decode cX11_stake 51 = .ok (.ireturn, 1) := by decide +kernel
theorem dX11_stake_52 : decode cX11_stake 52 = .ok (.aload_n 0, 1) := by decide +kernel
theorem dX11_stake_53 : decode cX11_stake 53 = .ok (.getfield 205, 3) := by decide +kernel
theorem dX11_stake_56 : decode cX11_stake 56 = .ok (.bipush 40, 2) := by decide +kernel
theorem dX11_stake_58 : decode cX11_stake 58 = .ok (.if_icmp .ne 6, 3) := by decide +kernel
theorem dX11_stake_61 : decode cX11_stake 61 = .ok (.bipush (-4), 2) := by decide +kernel
theorem dX11_stake_63 : decode cX11_stake 63 = .ok (.ireturn, 1) := by decide +kernel
theorem dX11_stake_64 : decode cX11_stake 64 = .ok (.aload_n 0, 1) := by decide +kernel
theorem dX11_stake_65 : decode cX11_stake 65 = .ok (.getfield 40, 3) := by decide +kernel
theorem dX11_stake_68 : decode cX11_stake 68 = .ok (.aload_n 0, 1) := by decide +kernel
theorem dX11_stake_69 : decode cX11_stake 69 = .ok (.getfield 205, 3) := by decide +kernel
theorem dX11_stake_72 : decode cX11_stake 72 = .ok (.iload_n 1, 1) := by decide +kernel
theorem dX11_stake_73 : decode cX11_stake 73 = .ok (.iastore, 1) := by decide +kernel
theorem dX11_stake_74 : decode cX11_stake 74 = .ok (.aload_n 0, 1) := by decide +kernel
theorem dX11_stake_75 : decode cX11_stake 75 = .ok (.getfield 43, 3) := by decide +kernel
theorem dX11_stake_78 : decode cX11_stake 78 = .ok (.aload_n 0, 1) := by decide +kernel
theorem dX11_stake_79 : decode cX11_stake 79 = .ok (.getfield 205, 3) := by decide +kernel
theorem dX11_stake_82 : decode cX11_stake 82 = .ok (.iload_n 2, 1) := by decide +kernel
theorem dX11_stake_83 : decode cX11_stake 83 = .ok (.iastore, 1) := by decide +kernel
theorem dX11_stake_84 : decode cX11_stake 84 = .ok (.aload_n 0, 1) := by decide +kernel
theorem dX11_stake_85 : decode cX11_stake 85 = .ok (.getfield 46, 3) := by decide +kernel
theorem dX11_stake_88 : decode cX11_stake 88 = .ok (.aload_n 0, 1) := by decide +kernel
theorem dX11_stake_89 : decode cX11_stake 89 = .ok (.getfield 205, 3) := by decide +kernel
theorem dX11_stake_92 : decode cX11_stake 92 = .ok (.iload_n 3, 1) := by decide +kernel
theorem dX11_stake_93 : decode cX11_stake 93 = .ok (.iastore, 1) := by decide +kernel
theorem dX11_stake_94 : decode cX11_stake 94 = .ok (.aload_n 0, 1) := by decide +kernel
theorem dX11_stake_95 : decode cX11_stake 95 = .ok (.getfield 49, 3) := by decide +kernel
theorem dX11_stake_98 : decode cX11_stake 98 = .ok (.aload_n 0, 1) := by decide +kernel
theorem dX11_stake_99 : decode cX11_stake 99 = .ok (.getfield 205, 3) := by decide +kernel
theorem dX11_stake_102 : decode cX11_stake 102 = .ok (.iload 4, 2) := by decide +kernel
theorem dX11_stake_104 : decode cX11_stake 104 = .ok (.iastore, 1) := by decide +kernel
theorem dX11_stake_105 : decode cX11_stake 105 = .ok (.aload_n 0, 1) := by decide +kernel
theorem dX11_stake_106 : decode cX11_stake 106 = .ok (.getfield 52, 3) := by decide +kernel
theorem dX11_stake_109 : decode cX11_stake 109 = .ok (.aload_n 0, 1) := by decide +kernel
theorem dX11_stake_110 : decode cX11_stake 110 = .ok (.getfield 205, 3) := by decide +kernel
theorem dX11_stake_113 : decode cX11_stake 113 = .ok (.iload 5, 2) := by decide +kernel
theorem dX11_stake_115 : decode cX11_stake 115 = .ok (.iastore, 1) := by decide +kernel
theorem dX11_stake_116 : decode cX11_stake 116 = .ok (.aload_n 0, 1) := by decide +kernel
theorem dX11_stake_117 : decode cX11_stake 117 = .ok (.dup, 1) := by decide +kernel
theorem dX11_stake_118 : decode cX11_stake 118 = .ok (.getfield 205, 3) := by decide +kernel
theorem dX11_stake_121 : decode cX11_stake 121 = .ok (.iconst 1, 1) := by decide +kernel
theorem dX11_stake_122 : decode cX11_stake 122 = .ok (.iadd, 1) := by decide +kernel
theorem dX11_stake_123 : decode cX11_stake 123 = .ok (.putfield 205, 3) := by decide +kernel
theorem dX11_stake_126 : decode cX11_stake 126 = .ok (.aload_n 0, 1) := by decide +kernel
theorem dX11_stake_127 : decode cX11_stake 127 = .ok (.getfield 205, 3) := by decide +kernel
theorem dX11_stake_130 : decode cX11_stake 130 = .ok (.iconst 1, 1) := by decide +kernel
theorem dX11_stake_131 : decode cX11_stake 131 = .ok (.isub, 1) := by decide +kernel
theorem dX11_stake_132 : decode cX11_stake 132 = .ok (.ireturn, 1) := by decide +kernel
set_option maxRecDepth 20000 in
theorem ggX11_gain_X11_isTen : GoodIn wsX11_gain wsX11_isTen := goodIn_r _ [12, 13, 14, 11, 15] (by decide +kernel) (by decide +kernel)
set_option maxRecDepth 20000 in
theorem gX11_gain_X11_isTen : GoodIn wsX11_gain (va_wsS RX11 202 yX11_isTen wsX11_isTen) := goodIn_app (goodIn_of _ (by decide +kernel)) ggX11_gain_X11_isTen
set_option maxRecDepth 20000 in
theorem ggX11_gain_X11_endOf : GoodIn wsX11_gain wsX11_endOf := goodIn_r _ [19, 20, 21, 22, 11, 23, 24, 25, 26, 27, 28, 29, 30, 31, 32, 33, 34, 35, 36, 37, 38, 39, 40, 41, 42, 43, 44, 45, 46, 47, 48, 49, 50, 51, 52, 53, 54, 55, 56, 57, 58, 59, 60, 61, 62, 63, 64, 65, 66, 67, 68, 69, 70, 71, 72, 73, 74, 75, 76, 77, 78] (by decide +kernel) (by decide +kernel)
set_option maxRecDepth 20000 in
theorem gX11_gain_X11_endOf : GoodIn wsX11_gain (wsV RX11 160 RX11 yX11_endOf wsX11_endOf) := goodIn_app (goodIn_of _ (by decide +kernel)) ggX11_gain_X11_endOf
theorem dX11_gain_0 : decode cX11_gain 0 = .ok (.iload_n 1, 1) := by decide +kernel
theorem dX11_gain_1 : decode cX11_gain 1 = .ok (.invokestatic 202, 3) := by decide +kernel
theorem dX11_gain_4 : decode cX11_gain 4 = .ok (.ifCond .ne 6, 3) := by decide +kernel
theorem dX11_gain_7 : decode cX11_gain 7 = .ok (.ldc 192, 2) := by decide +kernel
theorem dX11_gain_9 : decode cX11_gain 9 = .ok (.ireturn, 1) := by decide +kernel
theorem dX11_gain_10 : decode cX11_gain 10 = .ok (.iconst 0, 1) := by decide +kernel
theorem dX11_gain_11 : decode cX11_gain 11 = .ok (.istore_n 2, 1) := by decide +kernel
theorem dX11_gain_12 : decode cX11_gain 12 = .ok (.iconst 0, 1) := by decide +kernel
theorem dX11_gain_13 : decode cX11_gain 13 = .ok (.istore_n 3, 1) := by decide +kernel
theorem dX11_gain_14 : decode cX11_gain 14 = .ok (.iload_n 3, 1) := by decide +kernel
theorem dX11_gain_15 : decode cX11_gain 15 = .ok (.aload_n 0, 1) := by decide +kernel
theorem dX11_gain_16 : decode cX11_gain 16 = .ok (.getfield 205, 3) := by decide +kernel
theorem dX11_gain_19 : decode cX11_gain 19 = .ok (.if_icmp .ge 104, 3) := by decide +kernel
theorem dX11_gain_22 : decode cX11_gain 22 = .ok (.aload_n 0, 1) := by decide +kernel
theorem dX11_gain_23 : decode cX11_gain 23 = .ok (.getfield 34, 3) := by decide +kernel
theorem dX11_gain_26 : decode cX11_gain 26 = .ok (.bipush 18, 2) := by decide +kernel
theorem dX11_gain_28 : decode cX11_gain 28 = .ok (.aload_n 0, 1) := by decide +kernel
theorem dX11_gain_29 : decode cX11_gain 29 = .ok (.getfield 43, 3) := by decide +kernel
theorem dX11_gain_32 : decode cX11_gain 32 = .ok (.iload_n 3, 1) := by decide +kernel
theorem dX11_gain_33 : decode cX11_gain 33 = .ok (.iaload, 1) := by decide +kernel
theorem dX11_gain_34 : decode cX11_gain 34 = .ok (.imul, 1) := by decide +kernel
theorem dX11_gain_35 : decode cX11_gain 35 = .ok (.iconst 3, 1) := by decide +kernel
theorem dX11_gain_36 : decode cX11_gain 36 = .ok (.aload_n 0, 1) := by decide +kernel
theorem dX11_gain_37 : decode cX11_gain 37 = .ok (.getfield 49, 3) := by decide +kernel
theorem dX11_gain_40 : decode cX11_gain 40 = .ok (.iload_n 3, 1) := by decide +kernel
theorem dX11_gain_41 : decode cX11_gain 41 = .ok (.iaload, 1) := by decide +kernel
theorem dX11_gain_42 : decode cX11_gain 42 = .ok (.bipush 15, 2) := by decide +kernel
theorem dX11_gain_44 : decode cX11_gain 44 = .ok (.idiv, 1) := by decide +kernel
theorem dX11_gain_45 : decode cX11_gain 45 = .ok (.imul, 1) := by decide +kernel
theorem dX11_gain_46 : decode cX11_gain 46 = .ok (.iadd, 1) := by decide +kernel
theorem dX11_gain_47 : decode cX11_gain 47 = .ok (.aload_n 0, 1) := by decide +kernel
theorem dX11_gain_48 : decode cX11_gain 48 = .ok (.getfield 46, 3) := by decide +kernel
theorem dX11_gain_51 : decode cX11_gain 51 = .ok (.iload_n 3, 1) := by decide +kernel
theorem dX11_gain_52 : decode cX11_gain 52 = .ok (.iaload, 1) := by decide +kernel
theorem dX11_gain_53 : decode cX11_gain 53 = .ok (.iadd, 1) := by decide +kernel
theorem dX11_gain_54 : decode cX11_gain 54 = .ok (.iaload, 1) := by decide +kernel
theorem dX11_gain_55 : decode cX11_gain 55 = .ok (.istore 4, 2) := by decide +kernel
theorem dX11_gain_57 : decode cX11_gain 57 = .ok (.aload_n 0, 1) := by decide +kernel
theorem dX11_gain_58 : decode cX11_gain 58 = .ok (.getfield 40, 3) := by decide +kernel
theorem dX11_gain_61 : decode cX11_gain 61 = .ok (.iload_n 3, 1) := by decide +kernel
theorem dX11_gain_62 : decode cX11_gain 62 = .ok (.iaload, 1) := by decide +kernel
theorem dX11_gain_63 : decode cX11_gain 63 = .ok (.iload_n 1, 1) := by decide +kernel
theorem dX11_gain_64 : decode cX11_gain 64 = .ok (.if_icmp .ne 53, 3) := by decide +kernel
theorem dX11_gain_67 : decode cX11_gain 67 = .ok (.iload 4, 2) := by decide +kernel
theorem dX11_gain_69 : decode cX11_gain 69 = .ok (.ifCond .le 48, 3) := by decide +kernel
theorem dX11_gain_72 : decode cX11_gain 72 = .ok (.iload_n 2, 1) := by decide +kernel
theorem dX11_gain_73 : decode cX11_gain 73 = .ok (.aload_n 0, 1) := by decide +kernel
theorem dX11_gain_74 : decode cX11_gain 74 = .ok (.aload_n 0, 1) := by decide +kernel
theorem dX11_gain_75 : decode cX11_gain 75 = .ok (.getfield 43, 3) := by decide +kernel
theorem dX11_gain_78 : decode cX11_gain 78 = .ok (.iload_n 3, 1) := by decide +kernel
theorem dX11_gain_79 : decode cX11_gain 79 = .ok (.iaload, 1) := by decide +kernel
theorem dX11_gain_80 : decode cX11_gain 80 = .ok (.invokevirtual 160, 3) := by decide +kernel
theorem dX11_gain_83 : decode cX11_gain 83 = .ok (.aload_n 0, 1) := by decide +kernel
theorem dX11_gain_84 : decode cX11_gain 84 = .ok (.getfield 46, 3) := by decide +kernel
theorem dX11_gain_87 : decode cX11_gain 87 = .ok (.iload_n 3, 1) := by decide +kernel
theorem dX11_gain_88 : decode cX11_gain 88 = .ok (.iaload, 1) := by decide +kernel
theorem dX11_gain_89 : decode cX11_gain 89 = .ok (.if_icmp .ne 18, 3) := by decide +kernel
theorem dX11_gain_92 : decode cX11_gain 92 = .ok (.aload_n 0, 1) := by decide +kernel
theorem dX11_gain_93 : decode cX11_gain 93 = .ok (.getfield 52, 3) := by decide +kernel
theorem dX11_gain_96 : decode cX11_gain 96 = .ok (.iload_n 3, 1) := by decide +kernel
theorem dX11_gain_97 : decode cX11_gain 97 = .ok (.iaload, 1) := by decide +kernel
theorem dX11_gain_98 : decode cX11_gain 98 = .ok (.iload 4, 2) := by decide +kernel
theorem dX11_gain_100 : decode cX11_gain 100 = .ok (.imul, 1) := by decide +kernel
theorem dX11_gain_101 : decode cX11_gain 101 = .ok (.bipush 100, 2) := by decide +kernel
theorem dX11_gain_103 : decode cX11_gain 103 = .ok (.idiv, 1) := by decide +kernel
theorem dX11_gain_104 : decode cX11_gain 104 = .ok (.goto 4, 3) := by decide +kernel
theorem dX11_gain_107 : decode cX11_gain 107 = .ok (.iconst 0, 1) := by decide +kernel
theorem dX11_gain_108 : decode cX11_gain 108 = .ok (.aload_n 0, 1) := by decide +kernel
theorem dX11_gain_109 : decode cX11_gain 109 = .ok (.getfield 52, 3) := by decide +kernel
theorem dX11_gain_112 : decode cX11_gain 112 = .ok (.iload_n 3, 1) := by decide +kernel
theorem dX11_gain_113 : decode cX11_gain 113 = .ok (.iaload, 1) := by decide +kernel
theorem dX11_gain_114 : decode cX11_gain 114 = .ok (.isub, 1) := by decide +kernel
theorem dX11_gain_115 : decode cX11_gain 115 = .ok (.iadd, 1) := by decide +kernel
theorem dX11_gain_116 : decode cX11_gain 116 = .ok (.istore_n 2, 1) := by decide +kernel
theorem dX11_gain_117 : decode cX11_gain 117 = .ok (.iinc 3 1, 3) := by decide +kernel
theorem dX11_gain_120 : decode cX11_gain 120 = .ok (.goto (-106), 3) := by decide +kernel
theorem dX11_gain_123 : decode cX11_gain 123 = .ok (.iload_n 2, 1) := by decide +kernel
theorem dX11_gain_124 : decode cX11_gain 124 = .ok (.ireturn, 1) := by decide +kernel
theorem dX11_answers_0 : decode cX11_answers 0 = .ok (.aload_n 0, 1) := by decide +kernel
theorem dX11_answers_1 : decode cX11_answers 1 = .ok (.getfield 49, 3) := by decide +kernel
theorem dX11_answers_4 : decode cX11_answers 4 = .ok (.iload_n 1, 1) := by decide +kernel
theorem dX11_answers_5 : decode cX11_answers 5 = .ok (.iaload, 1) := by decide +kernel
theorem dX11_answers_6 : decode cX11_answers 6 = .ok (.aload_n 0, 1) := by decide +kernel
theorem dX11_answers_7 : decode cX11_answers 7 = .ok (.getfield 49, 3) := by decide +kernel
theorem dX11_answers_10 : decode cX11_answers 10 = .ok (.iload_n 2, 1) := by decide +kernel
theorem dX11_answers_11 : decode cX11_answers 11 = .ok (.iaload, 1) := by decide +kernel
theorem dX11_answers_12 : decode cX11_answers 12 = .ok (.isub, 1) := by decide +kernel
theorem dX11_answers_13 : decode cX11_answers 13 = .ok (.istore_n 3, 1) := by decide +kernel
theorem dX11_answers_14 : decode cX11_answers 14 = .ok (.aload_n 0, 1) := by decide +kernel
theorem dX11_answers_15 : decode cX11_answers 15 = .ok (.getfield 52, 3) := by decide +kernel
theorem dX11_answers_18 : decode cX11_answers 18 = .ok (.iload_n 1, 1) := by decide +kernel
theorem dX11_answers_19 : decode cX11_answers 19 = .ok (.iaload, 1) := by decide +kernel
theorem dX11_answers_20 : decode cX11_answers 20 = .ok (.aload_n 0, 1) := by decide +kernel
theorem dX11_answers_21 : decode cX11_answers 21 = .ok (.getfield 52, 3) := by decide +kernel
theorem dX11_answers_24 : decode cX11_answers 24 = .ok (.iload_n 2, 1) := by decide +kernel
theorem dX11_answers_25 : decode cX11_answers 25 = .ok (.iaload, 1) := by decide +kernel
theorem dX11_answers_26 : decode cX11_answers 26 = .ok (.if_icmp .ge 12, 3) := by decide +kernel
theorem dX11_answers_29 : decode cX11_answers 29 = .ok (.aload_n 0, 1) := by decide +kernel
theorem dX11_answers_30 : decode cX11_answers 30 = .ok (.getfield 52, 3) := by decide +kernel
theorem dX11_answers_33 : decode cX11_answers 33 = .ok (.iload_n 1, 1) := by decide +kernel
theorem dX11_answers_34 : decode cX11_answers 34 = .ok (.iaload, 1) := by decide +kernel
theorem dX11_answers_35 : decode cX11_answers 35 = .ok (.goto 9, 3) := by decide +kernel
theorem dX11_answers_38 : decode cX11_answers 38 = .ok (.aload_n 0, 1) := by decide +kernel
theorem dX11_answers_39 : decode cX11_answers 39 = .ok (.getfield 52, 3) := by decide +kernel
theorem dX11_answers_42 : decode cX11_answers 42 = .ok (.iload_n 2, 1) := by decide +kernel
theorem dX11_answers_43 : decode cX11_answers 43 = .ok (.iaload, 1) := by decide +kernel
theorem dX11_answers_44 : decode cX11_answers 44 = .ok (.istore 4, 2) := by decide +kernel
theorem dX11_answers_46 : decode cX11_answers 46 = .ok (.aload_n 0, 1) := by decide +kernel
theorem dX11_answers_47 : decode cX11_answers 47 = .ok (.getfield 52, 3) := by decide +kernel
theorem dX11_answers_50 : decode cX11_answers 50 = .ok (.iload_n 1, 1) := by decide +kernel
theorem dX11_answers_51 : decode cX11_answers 51 = .ok (.iaload, 1) := by decide +kernel
theorem dX11_answers_52 : decode cX11_answers 52 = .ok (.aload_n 0, 1) := by decide +kernel
theorem dX11_answers_53 : decode cX11_answers 53 = .ok (.getfield 52, 3) := by decide +kernel
theorem dX11_answers_56 : decode cX11_answers 56 = .ok (.iload_n 2, 1) := by decide +kernel
theorem dX11_answers_57 : decode cX11_answers 57 = .ok (.iaload, 1) := by decide +kernel
theorem dX11_answers_58 : decode cX11_answers 58 = .ok (.if_icmp .ge 12, 3) := by decide +kernel
theorem dX11_answers_61 : decode cX11_answers 61 = .ok (.aload_n 0, 1) := by decide +kernel
theorem dX11_answers_62 : decode cX11_answers 62 = .ok (.getfield 52, 3) := by decide +kernel
theorem dX11_answers_65 : decode cX11_answers 65 = .ok (.iload_n 2, 1) := by decide +kernel
theorem dX11_answers_66 : decode cX11_answers 66 = .ok (.iaload, 1) := by decide +kernel
theorem dX11_answers_67 : decode cX11_answers 67 = .ok (.goto 9, 3) := by decide +kernel
theorem dX11_answers_70 : decode cX11_answers 70 = .ok (.aload_n 0, 1) := by decide +kernel
theorem dX11_answers_71 : decode cX11_answers 71 = .ok (.getfield 52, 3) := by decide +kernel
theorem dX11_answers_74 : decode cX11_answers 74 = .ok (.iload_n 1, 1) := by decide +kernel
theorem dX11_answers_75 : decode cX11_answers 75 = .ok (.iaload, 1) := by decide +kernel
theorem dX11_answers_76 : decode cX11_answers 76 = .ok (.istore 5, 2) := by decide +kernel
theorem dX11_answers_78 : decode cX11_answers 78 = .ok (.aload_n 0, 1) := by decide +kernel
theorem dX11_answers_79 : decode cX11_answers 79 = .ok (.getfield 43, 3) := by decide +kernel
theorem dX11_answers_82 : decode cX11_answers 82 = .ok (.iload_n 1, 1) := by decide +kernel
theorem dX11_answers_83 : decode cX11_answers 83 = .ok (.iaload, 1) := by decide +kernel
theorem dX11_answers_84 : decode cX11_answers 84 = .ok (.aload_n 0, 1) := by decide +kernel
theorem dX11_answers_85 : decode cX11_answers 85 = .ok (.getfield 43, 3) := by decide +kernel
theorem dX11_answers_88 : decode cX11_answers 88 = .ok (.iload_n 2, 1) := by decide +kernel
theorem dX11_answers_89 : decode cX11_answers 89 = .ok (.iaload, 1) := by decide +kernel
theorem dX11_answers_90 : decode cX11_answers 90 = .ok (.if_icmp .ne 22, 3) := by decide +kernel
theorem dX11_answers_93 : decode cX11_answers 93 = .ok (.aload_n 0, 1) := by decide +kernel
theorem dX11_answers_94 : decode cX11_answers 94 = .ok (.getfield 46, 3) := by decide +kernel
theorem dX11_answers_97 : decode cX11_answers 97 = .ok (.iload_n 1, 1) := by decide +kernel
theorem dX11_answers_98 : decode cX11_answers 98 = .ok (.iaload, 1) := by decide +kernel
theorem dX11_answers_99 : decode cX11_answers 99 = .ok (.aload_n 0, 1) := by decide +kernel
theorem dX11_answers_100 : decode cX11_answers 100 = .ok (.getfield 46, 3) := by decide +kernel
theorem dX11_answers_103 : decode cX11_answers 103 = .ok (.iload_n 2, 1) := by decide +kernel
theorem dX11_answers_104 : decode cX11_answers 104 = .ok (.iaload, 1) := by decide +kernel
theorem dX11_answers_105 : decode cX11_answers 105 = .ok (.if_icmp .ne 7, 3) := by decide +kernel
theorem dX11_answers_108 : decode cX11_answers 108 = .ok (.iconst 1, 1) := by decide +kernel
theorem dX11_answers_109 : decode cX11_answers 109 = .ok (.goto 4, 3) := by decide +kernel
theorem dX11_answers_112 : decode cX11_answers 112 = .ok (.iconst 0, 1) := by decide +kernel
theorem dX11_answers_113 : decode cX11_answers 113 = .ok (.istore 6, 2) := by decide +kernel
theorem dX11_answers_115 : decode cX11_answers 115 = .ok (.iload 6, 2) := by decide +kernel
theorem dX11_answers_117 : decode cX11_answers 117 = .ok (.ifCond .eq 42, 3) := by decide +kernel
theorem dX11_answers_120 : decode cX11_answers 120 = .ok (.iload_n 3, 1) := by decide +kernel
theorem dX11_answers_121 : decode cX11_answers 121 = .ok (.aload_n 0, 1) := by decide +kernel
theorem dX11_answers_122 : decode cX11_answers 122 = .ok (.getfield 37, 3) := by decide +kernel
theorem dX11_answers_125 : decode cX11_answers 125 = .ok (.iconst 1, 1) := by decide +kernel
theorem dX11_answers_126 : decode cX11_answers 126 = .ok (.iaload, 1) := by decide +kernel
theorem dX11_answers_127 : decode cX11_answers 127 = .ok (.if_icmp .gt 32, 3) := by decide +kernel
theorem dX11_answers_130 : decode cX11_answers 130 = .ok (.iload_n 3, 1) := by decide +kernel
theorem dX11_answers_131 : decode cX11_answers 131 = .ok (.ineg, 1) := by decide +kernel
theorem dX11_answers_132 : decode cX11_answers 132 = .ok (.aload_n 0, 1) := by decide +kernel
theorem dX11_answers_133 : decode cX11_answers 133 = .ok (.getfield 37, 3) := by decide +kernel
theorem dX11_answers_136 : decode cX11_answers 136 = .ok (.iconst 1, 1) := by decide +kernel
theorem dX11_answers_137 : decode cX11_answers 137 = .ok (.iaload, 1) := by decide +kernel
theorem dX11_answers_138 : decode cX11_answers 138 = .ok (.if_icmp .gt 21, 3) := by decide +kernel
theorem dX11_answers_141 : decode cX11_answers 141 = .ok (.iload 5, 2) := by decide +kernel
theorem dX11_answers_143 : decode cX11_answers 143 = .ok (.aload_n 0, 1) := by decide +kernel
theorem dX11_answers_144 : decode cX11_answers 144 = .ok (.getfield 37, 3) := by decide +kernel
theorem dX11_answers_147 : decode cX11_answers 147 = .ok (.iconst 2, 1) := by decide +kernel
theorem dX11_answers_148 : decode cX11_answers 148 = .ok (.iaload, 1) := by decide +kernel
theorem dX11_answers_149 : decode cX11_answers 149 = .ok (.iload 4, 2) := by decide +kernel
theorem dX11_answers_151 : decode cX11_answers 151 = .ok (.imul, 1) := by decide +kernel
theorem dX11_answers_152 : decode cX11_answers 152 = .ok (.if_icmp .gt 7, 3) := by decide +kernel
theorem dX11_answers_155 : decode cX11_answers 155 = .ok (.iconst 1, 1) := by decide +kernel
theorem dX11_answers_156 : decode cX11_answers 156 = .ok (.goto 4, 3) := by decide +kernel
theorem dX11_answers_159 : decode cX11_answers 159 = .ok (.iconst 0, 1) := by decide +kernel
theorem dX11_answers_160 : decode cX11_answers 160 = .ok (.ireturn, 1) := by decide +kernel
set_option maxRecDepth 20000 in
theorem ggX11_pairs_X11_answers : GoodIn wsX11_pairs wsX11_answers := goodIn_r _ [10, 11, 12, 13, 14, 15, 20, 21, 22, 23, 24, 25, 26, 27, 28, 29, 30, 31, 32, 33, 34, 35, 36, 37, 38, 39, 40, 41, 42, 43, 44, 45, 46, 47, 48, 49, 50, 51, 52, 53, 54, 55, 56, 57, 58, 59, 60, 61, 62, 63, 64, 65, 66, 67, 68, 69, 70, 71, 72, 73] (by decide +kernel) (by decide +kernel)
set_option maxRecDepth 20000 in
theorem gX11_pairs_X11_answers : GoodIn wsX11_pairs (wsV RX11 208 RX11 yX11_answers wsX11_answers) := goodIn_app (goodIn_of _ (by decide +kernel)) ggX11_pairs_X11_answers
set_option maxRecDepth 20000 in
theorem ggX11_pairs_X11_turn : GoodIn wsX11_pairs wsX11_turn := goodIn_r _ [19, 2, 5, 20, 21, 22, 23, 24, 25, 26, 27, 28, 29, 30, 31, 32, 33, 34, 35, 36, 37, 38, 39, 40, 41, 42, 43, 44, 45, 46, 47, 48, 49, 50, 51, 52, 53, 54, 55, 56, 57, 58, 59, 60, 61, 62, 63, 64, 65, 66, 67, 68, 69, 70, 71, 72, 73] (by decide +kernel) (by decide +kernel)
set_option maxRecDepth 20000 in
theorem gX11_pairs_X11_turn : GoodIn wsX11_pairs (wsV RX11 212 RX11 yX11_turn wsX11_turn) := goodIn_app (goodIn_of _ (by decide +kernel)) ggX11_pairs_X11_turn
theorem dX11_pairs_0 : decode cX11_pairs 0 = .ok (.iconst 0, 1) := by decide +kernel
theorem dX11_pairs_1 : decode cX11_pairs 1 = .ok (.istore_n 3, 1) := by decide +kernel
theorem dX11_pairs_2 : decode cX11_pairs 2 = .ok (.iload_n 3, 1) := by decide +kernel
theorem dX11_pairs_3 : decode cX11_pairs 3 = .ok (.aload_n 0, 1) := by decide +kernel
theorem dX11_pairs_4 : decode cX11_pairs 4 = .ok (.getfield 205, 3) := by decide +kernel
theorem dX11_pairs_7 : decode cX11_pairs 7 = .ok (.if_icmp .ge 17, 3) := by decide +kernel
theorem dX11_pairs_10 : decode cX11_pairs 10 = .ok (.aload_n 0, 1) := by decide +kernel
theorem dX11_pairs_11 : decode cX11_pairs 11 = .ok (.getfield 114, 3) := by decide +kernel
theorem dX11_pairs_14 : decode cX11_pairs 14 = .ok (.iload_n 3, 1) := by decide +kernel
theorem dX11_pairs_15 : decode cX11_pairs 15 = .ok (.bipush (-6), 2) := by decide +kernel
theorem dX11_pairs_17 : decode cX11_pairs 17 = .ok (.iastore, 1) := by decide +kernel
theorem dX11_pairs_18 : decode cX11_pairs 18 = .ok (.iinc 3 1, 3) := by decide +kernel
theorem dX11_pairs_21 : decode cX11_pairs 21 = .ok (.goto (-19), 3) := by decide +kernel
theorem dX11_pairs_24 : decode cX11_pairs 24 = .ok (.iconst 0, 1) := by decide +kernel
theorem dX11_pairs_25 : decode cX11_pairs 25 = .ok (.istore_n 3, 1) := by decide +kernel
theorem dX11_pairs_26 : decode cX11_pairs 26 = .ok (.aload_n 0, 1) := by decide +kernel
theorem dX11_pairs_27 : decode cX11_pairs 27 = .ok (.getfield 117, 3) := by decide +kernel
theorem dX11_pairs_30 : decode cX11_pairs 30 = .ok (.iload_n 3, 1) := by decide +kernel
theorem dX11_pairs_31 : decode cX11_pairs 31 = .ok (.iload_n 1, 1) := by decide +kernel
theorem dX11_pairs_32 : decode cX11_pairs 32 = .ok (.iastore, 1) := by decide +kernel
theorem dX11_pairs_33 : decode cX11_pairs 33 = .ok (.iinc 3 1, 3) := by decide +kernel
theorem dX11_pairs_36 : decode cX11_pairs 36 = .ok (.iconst 0, 1) := by decide +kernel
theorem dX11_pairs_37 : decode cX11_pairs 37 = .ok (.istore 4, 2) := by decide +kernel
theorem dX11_pairs_39 : decode cX11_pairs 39 = .ok (.iload 4, 2) := by decide +kernel
theorem dX11_pairs_41 : decode cX11_pairs 41 = .ok (.iload_n 3, 1) := by decide +kernel
theorem dX11_pairs_42 : decode cX11_pairs 42 = .ok (.if_icmp .ge 115, 3) := by decide +kernel
theorem dX11_pairs_45 : decode cX11_pairs 45 = .ok (.aload_n 0, 1) := by decide +kernel
theorem dX11_pairs_46 : decode cX11_pairs 46 = .ok (.getfield 117, 3) := by decide +kernel
theorem dX11_pairs_49 : decode cX11_pairs 49 = .ok (.iload 4, 2) := by decide +kernel
theorem dX11_pairs_51 : decode cX11_pairs 51 = .ok (.iaload, 1) := by decide +kernel
theorem dX11_pairs_52 : decode cX11_pairs 52 = .ok (.istore 5, 2) := by decide +kernel
theorem dX11_pairs_54 : decode cX11_pairs 54 = .ok (.iconst 0, 1) := by decide +kernel
theorem dX11_pairs_55 : decode cX11_pairs 55 = .ok (.istore 6, 2) := by decide +kernel
theorem dX11_pairs_57 : decode cX11_pairs 57 = .ok (.iload 6, 2) := by decide +kernel
theorem dX11_pairs_59 : decode cX11_pairs 59 = .ok (.aload_n 0, 1) := by decide +kernel
theorem dX11_pairs_60 : decode cX11_pairs 60 = .ok (.getfield 205, 3) := by decide +kernel
theorem dX11_pairs_63 : decode cX11_pairs 63 = .ok (.if_icmp .ge 88, 3) := by decide +kernel
theorem dX11_pairs_66 : decode cX11_pairs 66 = .ok (.aload_n 0, 1) := by decide +kernel
theorem dX11_pairs_67 : decode cX11_pairs 67 = .ok (.getfield 40, 3) := by decide +kernel
theorem dX11_pairs_70 : decode cX11_pairs 70 = .ok (.iload 6, 2) := by decide +kernel
theorem dX11_pairs_72 : decode cX11_pairs 72 = .ok (.iaload, 1) := by decide +kernel
theorem dX11_pairs_73 : decode cX11_pairs 73 = .ok (.iload_n 2, 1) := by decide +kernel
theorem dX11_pairs_74 : decode cX11_pairs 74 = .ok (.if_icmp .ne 71, 3) := by decide +kernel
theorem dX11_pairs_77 : decode cX11_pairs 77 = .ok (.aload_n 0, 1) := by decide +kernel
theorem dX11_pairs_78 : decode cX11_pairs 78 = .ok (.getfield 114, 3) := by decide +kernel
theorem dX11_pairs_81 : decode cX11_pairs 81 = .ok (.iload 6, 2) := by decide +kernel
theorem dX11_pairs_83 : decode cX11_pairs 83 = .ok (.iaload, 1) := by decide +kernel
theorem dX11_pairs_84 : decode cX11_pairs 84 = .ok (.ifCond .ge 61, 3) := by decide +kernel
theorem dX11_pairs_87 : decode cX11_pairs 87 = .ok (.aload_n 0, 1) := by decide +kernel
theorem dX11_pairs_88 : decode cX11_pairs 88 = .ok (.iload 5, 2) := by decide +kernel
theorem dX11_pairs_90 : decode cX11_pairs 90 = .ok (.iload 6, 2) := by decide +kernel
theorem dX11_pairs_92 : decode cX11_pairs 92 = .ok (.invokevirtual 208, 3) := by decide +kernel
theorem dX11_pairs_95 : decode cX11_pairs 95 = .ok (.ifCond .eq 50, 3) := by decide +kernel
theorem dX11_pairs_98 : decode cX11_pairs 98 = .ok (.aload_n 0, 1) := by decide +kernel
theorem dX11_pairs_99 : decode cX11_pairs 99 = .ok (.getfield 114, 3) := by decide +kernel
theorem dX11_pairs_102 : decode cX11_pairs 102 = .ok (.iload 6, 2) := by decide +kernel
theorem dX11_pairs_104 : decode cX11_pairs 104 = .ok (.iload 5, 2) := by decide +kernel
theorem dX11_pairs_106 : decode cX11_pairs 106 = .ok (.iastore, 1) := by decide +kernel
theorem dX11_pairs_107 : decode cX11_pairs 107 = .ok (.aload_n 0, 1) := by decide +kernel
theorem dX11_pairs_108 : decode cX11_pairs 108 = .ok (.getfield 111, 3) := by decide +kernel
theorem dX11_pairs_111 : decode cX11_pairs 111 = .ok (.iload 6, 2) := by decide +kernel
theorem dX11_pairs_113 : decode cX11_pairs 113 = .ok (.iaload, 1) := by decide +kernel
theorem dX11_pairs_114 : decode cX11_pairs 114 = .ok (.ifCond .lt 22, 3) := by decide +kernel
theorem dX11_pairs_117 : decode cX11_pairs 117 = .ok (.aload_n 0, 1) := by decide +kernel
theorem dX11_pairs_118 : decode cX11_pairs 118 = .ok (.getfield 117, 3) := by decide +kernel
theorem dX11_pairs_121 : decode cX11_pairs 121 = .ok (.iload_n 3, 1) := by decide +kernel
theorem dX11_pairs_122 : decode cX11_pairs 122 = .ok (.aload_n 0, 1) := by decide +kernel
theorem dX11_pairs_123 : decode cX11_pairs 123 = .ok (.getfield 111, 3) := by decide +kernel
theorem dX11_pairs_126 : decode cX11_pairs 126 = .ok (.iload 6, 2) := by decide +kernel
theorem dX11_pairs_128 : decode cX11_pairs 128 = .ok (.iaload, 1) := by decide +kernel
theorem dX11_pairs_129 : decode cX11_pairs 129 = .ok (.iastore, 1) := by decide +kernel
theorem dX11_pairs_130 : decode cX11_pairs 130 = .ok (.iinc 3 1, 3) := by decide +kernel
theorem dX11_pairs_133 : decode cX11_pairs 133 = .ok (.goto 12, 3) := by decide +kernel
theorem dX11_pairs_136 : decode cX11_pairs 136 = .ok (.aload_n 0, 1) := by decide +kernel
theorem dX11_pairs_137 : decode cX11_pairs 137 = .ok (.iload 6, 2) := by decide +kernel
theorem dX11_pairs_139 : decode cX11_pairs 139 = .ok (.iload_n 1, 1) := by decide +kernel
theorem dX11_pairs_140 : decode cX11_pairs 140 = .ok (.invokevirtual 212, 3) := by decide +kernel
theorem dX11_pairs_143 : decode cX11_pairs 143 = .ok (.iconst 1, 1) := by decide +kernel
theorem dX11_pairs_144 : decode cX11_pairs 144 = .ok (.ireturn, 1) := by decide +kernel
theorem dX11_pairs_145 : decode cX11_pairs 145 = .ok (.iinc 6 1, 3) := by decide +kernel
theorem dX11_pairs_148 : decode cX11_pairs 148 = .ok (.goto (-91), 3) := by decide +kernel
theorem dX11_pairs_151 : decode cX11_pairs 151 = .ok (.iinc 4 1, 3) := by decide +kernel
theorem dX11_pairs_154 : decode cX11_pairs 154 = .ok (.goto (-115), 3) := by decide +kernel
theorem dX11_pairs_157 : decode cX11_pairs 157 = .ok (.iconst 0, 1) := by decide +kernel
theorem dX11_pairs_158 : decode cX11_pairs 158 = .ok (.ireturn, 1) := by decide +kernel
theorem dX11_turn_0 : decode cX11_turn 0 = .ok (.iload_n 1, 1) := by decide +kernel
theorem dX11_turn_1 : decode cX11_turn 1 = .ok (.istore_n 3, 1) := by decide +kernel
theorem dX11_turn_2 : decode cX11_turn 2 = .ok (.iconst 1, 1) := by decide +kernel
theorem dX11_turn_3 : decode cX11_turn 3 = .ok (.istore 4, 2) := by decide +kernel
theorem dX11_turn_5 : decode cX11_turn 5 = .ok (.iload 4, 2) := by decide +kernel
theorem dX11_turn_7 : decode cX11_turn 7 = .ok (.ifCond .eq 55, 3) := by decide +kernel
theorem dX11_turn_10 : decode cX11_turn 10 = .ok (.aload_n 0, 1) := by decide +kernel
theorem dX11_turn_11 : decode cX11_turn 11 = .ok (.getfield 114, 3) := by decide +kernel
theorem dX11_turn_14 : decode cX11_turn 14 = .ok (.iload_n 3, 1) := by decide +kernel
theorem dX11_turn_15 : decode cX11_turn 15 = .ok (.iaload, 1) := by decide +kernel
theorem dX11_turn_16 : decode cX11_turn 16 = .ok (.istore 5, 2) := by decide +kernel
theorem dX11_turn_18 : decode cX11_turn 18 = .ok (.aload_n 0, 1) := by decide +kernel
theorem dX11_turn_19 : decode cX11_turn 19 = .ok (.getfield 111, 3) := by decide +kernel
theorem dX11_turn_22 : decode cX11_turn 22 = .ok (.iload 5, 2) := by decide +kernel
theorem dX11_turn_24 : decode cX11_turn 24 = .ok (.iaload, 1) := by decide +kernel
theorem dX11_turn_25 : decode cX11_turn 25 = .ok (.istore 6, 2) := by decide +kernel
theorem dX11_turn_27 : decode cX11_turn 27 = .ok (.aload_n 0, 1) := by decide +kernel
theorem dX11_turn_28 : decode cX11_turn 28 = .ok (.getfield 111, 3) := by decide +kernel
theorem dX11_turn_31 : decode cX11_turn 31 = .ok (.iload 5, 2) := by decide +kernel
theorem dX11_turn_33 : decode cX11_turn 33 = .ok (.iload_n 3, 1) := by decide +kernel
theorem dX11_turn_34 : decode cX11_turn 34 = .ok (.iastore, 1) := by decide +kernel
theorem dX11_turn_35 : decode cX11_turn 35 = .ok (.aload_n 0, 1) := by decide +kernel
theorem dX11_turn_36 : decode cX11_turn 36 = .ok (.getfield 111, 3) := by decide +kernel
theorem dX11_turn_39 : decode cX11_turn 39 = .ok (.iload_n 3, 1) := by decide +kernel
theorem dX11_turn_40 : decode cX11_turn 40 = .ok (.iload 5, 2) := by decide +kernel
theorem dX11_turn_42 : decode cX11_turn 42 = .ok (.iastore, 1) := by decide +kernel
theorem dX11_turn_43 : decode cX11_turn 43 = .ok (.iload 5, 2) := by decide +kernel
theorem dX11_turn_45 : decode cX11_turn 45 = .ok (.iload_n 2, 1) := by decide +kernel
theorem dX11_turn_46 : decode cX11_turn 46 = .ok (.if_icmp .eq 7, 3) := by decide +kernel
theorem dX11_turn_49 : decode cX11_turn 49 = .ok (.iconst 1, 1) := by decide +kernel
theorem dX11_turn_50 : decode cX11_turn 50 = .ok (.goto 4, 3) := by decide +kernel
theorem dX11_turn_53 : decode cX11_turn 53 = .ok (.iconst 0, 1) := by decide +kernel
theorem dX11_turn_54 : decode cX11_turn 54 = .ok (.istore 4, 2) := by decide +kernel
theorem dX11_turn_56 : decode cX11_turn 56 = .ok (.iload 6, 2) := by decide +kernel
theorem dX11_turn_58 : decode cX11_turn 58 = .ok (.istore_n 3, 1) := by decide +kernel
theorem dX11_turn_59 : decode cX11_turn 59 = .ok (.goto (-54), 3) := by decide +kernel
theorem dX11_turn_62 : decode cX11_turn 62 = .ok (.return_, 1) := by decide +kernel
set_option maxRecDepth 20000 in
theorem ggX11_pairsOf_X11_pairs : GoodIn wsX11_pairsOf wsX11_pairs := goodIn_r _ [8, 1, 9, 10, 3, 2, 11, 12, 13, 7, 14, 15, 16, 17, 18, 19, 20, 21, 22, 23, 24, 25, 26, 27, 28, 29, 30, 31, 32, 33, 34, 35, 36, 37, 38, 39, 40, 41, 42, 43, 44, 45, 46, 47, 48, 49, 50, 51, 52, 53, 54, 55, 56, 57, 58, 59, 60, 61, 62, 63, 64, 65, 66, 67, 68, 69, 70, 71, 72, 73, 74, 75, 76, 77] (by decide +kernel) (by decide +kernel)
set_option maxRecDepth 20000 in
theorem gX11_pairsOf_X11_pairs : GoodIn wsX11_pairsOf (wsV RX11 216 RX11 yX11_pairs wsX11_pairs) := goodIn_app (goodIn_of _ (by decide +kernel)) ggX11_pairsOf_X11_pairs
theorem dX11_pairsOf_0 : decode cX11_pairsOf 0 = .ok (.iconst 0, 1) := by decide +kernel
theorem dX11_pairsOf_1 : decode cX11_pairsOf 1 = .ok (.istore_n 3, 1) := by decide +kernel
theorem dX11_pairsOf_2 : decode cX11_pairsOf 2 = .ok (.iload_n 3, 1) := by decide +kernel
theorem dX11_pairsOf_3 : decode cX11_pairsOf 3 = .ok (.aload_n 0, 1) := by decide +kernel
theorem dX11_pairsOf_4 : decode cX11_pairsOf 4 = .ok (.getfield 205, 3) := by decide +kernel
theorem dX11_pairsOf_7 : decode cX11_pairsOf 7 = .ok (.if_icmp .ge 17, 3) := by decide +kernel
theorem dX11_pairsOf_10 : decode cX11_pairsOf 10 = .ok (.aload_n 0, 1) := by decide +kernel
theorem dX11_pairsOf_11 : decode cX11_pairsOf 11 = .ok (.getfield 111, 3) := by decide +kernel
theorem dX11_pairsOf_14 : decode cX11_pairsOf 14 = .ok (.iload_n 3, 1) := by decide +kernel
theorem dX11_pairsOf_15 : decode cX11_pairsOf 15 = .ok (.bipush (-6), 2) := by decide +kernel
theorem dX11_pairsOf_17 : decode cX11_pairsOf 17 = .ok (.iastore, 1) := by decide +kernel
theorem dX11_pairsOf_18 : decode cX11_pairsOf 18 = .ok (.iinc 3 1, 3) := by decide +kernel
theorem dX11_pairsOf_21 : decode cX11_pairsOf 21 = .ok (.goto (-19), 3) := by decide +kernel
theorem dX11_pairsOf_24 : decode cX11_pairsOf 24 = .ok (.iconst 0, 1) := by decide +kernel
theorem dX11_pairsOf_25 : decode cX11_pairsOf 25 = .ok (.istore_n 3, 1) := by decide +kernel
theorem dX11_pairsOf_26 : decode cX11_pairsOf 26 = .ok (.iconst 0, 1) := by decide +kernel
theorem dX11_pairsOf_27 : decode cX11_pairsOf 27 = .ok (.istore 4, 2) := by decide +kernel
theorem dX11_pairsOf_29 : decode cX11_pairsOf 29 = .ok (.iload 4, 2) := by decide +kernel
theorem dX11_pairsOf_31 : decode cX11_pairsOf 31 = .ok (.aload_n 0, 1) := by decide +kernel
theorem dX11_pairsOf_32 : decode cX11_pairsOf 32 = .ok (.getfield 205, 3) := by decide +kernel
theorem dX11_pairsOf_35 : decode cX11_pairsOf 35 = .ok (.if_icmp .ge 38, 3) := by decide +kernel
theorem dX11_pairsOf_38 : decode cX11_pairsOf 38 = .ok (.iload_n 3, 1) := by decide +kernel
theorem dX11_pairsOf_39 : decode cX11_pairsOf 39 = .ok (.aload_n 0, 1) := by decide +kernel
theorem dX11_pairsOf_40 : decode cX11_pairsOf 40 = .ok (.getfield 40, 3) := by decide +kernel
theorem dX11_pairsOf_43 : decode cX11_pairsOf 43 = .ok (.iload 4, 2) := by decide +kernel
theorem dX11_pairsOf_45 : decode cX11_pairsOf 45 = .ok (.iaload, 1) := by decide +kernel
theorem dX11_pairsOf_46 : decode cX11_pairsOf 46 = .ok (.iload_n 1, 1) := by decide +kernel
theorem dX11_pairsOf_47 : decode cX11_pairsOf 47 = .ok (.if_icmp .ne 17, 3) := by decide +kernel
theorem dX11_pairsOf_50 : decode cX11_pairsOf 50 = .ok (.aload_n 0, 1) := by decide +kernel
theorem dX11_pairsOf_51 : decode cX11_pairsOf 51 = .ok (.iload 4, 2) := by decide +kernel
theorem dX11_pairsOf_53 : decode cX11_pairsOf 53 = .ok (.iload_n 2, 1) := by decide +kernel
theorem dX11_pairsOf_54 : decode cX11_pairsOf 54 = .ok (.invokevirtual 216, 3) := by decide +kernel
theorem dX11_pairsOf_57 : decode cX11_pairsOf 57 = .ok (.ifCond .eq 7, 3) := by decide +kernel
theorem dX11_pairsOf_60 : decode cX11_pairsOf 60 = .ok (.iconst 1, 1) := by decide +kernel
theorem dX11_pairsOf_61 : decode cX11_pairsOf 61 = .ok (.goto 4, 3) := by decide +kernel
theorem dX11_pairsOf_64 : decode cX11_pairsOf 64 = .ok (.iconst 0, 1) := by decide +kernel
theorem dX11_pairsOf_65 : decode cX11_pairsOf 65 = .ok (.iadd, 1) := by decide +kernel
theorem dX11_pairsOf_66 : decode cX11_pairsOf 66 = .ok (.istore_n 3, 1) := by decide +kernel
theorem dX11_pairsOf_67 : decode cX11_pairsOf 67 = .ok (.iinc 4 1, 3) := by decide +kernel
theorem dX11_pairsOf_70 : decode cX11_pairsOf 70 = .ok (.goto (-41), 3) := by decide +kernel
theorem dX11_pairsOf_73 : decode cX11_pairsOf 73 = .ok (.iload_n 3, 1) := by decide +kernel
theorem dX11_pairsOf_74 : decode cX11_pairsOf 74 = .ok (.ireturn, 1) := by decide +kernel
set_option maxRecDepth 20000 in
theorem ggX11_answer_X11_isTen : GoodIn wsX11_answer wsX11_isTen := goodIn_r _ [5, 6, 7, 4, 8] (by decide +kernel) (by decide +kernel)
set_option maxRecDepth 20000 in
theorem gX11_answer_X11_isTen : GoodIn wsX11_answer (va_wsS RX11 202 yX11_isTen wsX11_isTen) := goodIn_app (goodIn_of _ (by decide +kernel)) ggX11_answer_X11_isTen
set_option maxRecDepth 20000 in
theorem ggX11_answer_X11_in : GoodIn wsX11_answer wsX11_in := goodIn_r _ [8] (by decide +kernel) (by decide +kernel)
set_option maxRecDepth 20000 in
theorem gX11_answer_X11_in : GoodIn wsX11_answer (va_wsS RX11 138 yX11_in wsX11_in) := goodIn_app (goodIn_of _ (by decide +kernel)) ggX11_answer_X11_in
set_option maxRecDepth 20000 in
theorem ggX11_answer_X11_pairsOf : GoodIn wsX11_answer wsX11_pairsOf := goodIn_r _ [12, 13, 14, 15, 16, 17, 18, 4, 19, 20, 21, 22, 23, 24, 25, 26, 27, 28, 29, 1, 30, 31, 32, 33, 34, 35, 36, 37, 38, 39, 40, 41, 42, 43, 44, 45, 46, 47, 48, 49, 50, 51, 52, 53, 54, 55, 56, 57, 58, 59, 60, 61, 62, 63, 64, 65, 66, 67, 68, 69, 70, 71, 72, 73, 74, 75, 76, 77, 78, 79, 80, 81, 82, 83, 84, 85, 86, 87] (by decide +kernel) (by decide +kernel)
set_option maxRecDepth 20000 in
theorem gX11_answer_X11_pairsOf : GoodIn wsX11_answer (wsV RX11 219 RX11 yX11_pairsOf wsX11_pairsOf) := goodIn_app (goodIn_of _ (by decide +kernel)) ggX11_answer_X11_pairsOf
theorem dX11_answer_0 : decode cX11_answer 0 = .ok (.iload_n 1, 1) := by decide +kernel
theorem dX11_answer_1 : decode cX11_answer 1 = .ok (.invokestatic 202, 3) := by decide +kernel
theorem dX11_answer_4 : decode cX11_answer 4 = .ok (.ifCond .eq 15, 3) := by decide +kernel
theorem dX11_answer_7 : decode cX11_answer 7 = .ok (.iload_n 2, 1) := by decide +kernel
theorem dX11_answer_8 : decode cX11_answer 8 = .ok (.invokestatic 202, 3) := by decide +kernel
theorem dX11_answer_11 : decode cX11_answer 11 = .ok (.ifCond .eq 8, 3) := by decide +kernel
theorem dX11_answer_14 : decode cX11_answer 14 = .ok (.iload_n 1, 1) := by decide +kernel
theorem dX11_answer_15 : decode cX11_answer 15 = .ok (.iload_n 2, 1) := by decide +kernel
theorem dX11_answer_16 : decode cX11_answer 16 = .ok (.if_icmp .ne 5, 3) := by decide +kernel
theorem dX11_answer_19 : decode cX11_answer 19 = .ok (.iconst (-1), 1) := by decide +kernel
theorem dX11_answer_20 : decode cX11_answer 20 = .ok (.ireturn, 1) := by decide +kernel
theorem dX11_answer_21 : decode cX11_answer 21 = .ok (.iload_n 3, 1) := by decide +kernel
theorem dX11_answer_22 : decode cX11_answer 22 = .ok (.iconst 0, 1) := by decide +kernel
theorem dX11_answer_23 : decode cX11_answer 23 = .ok (.iconst 1, 1) := by decide +kernel
theorem dX11_answer_24 : decode cX11_answer 24 = .ok (.invokestatic 138, 3) := by decide +kernel
theorem dX11_answer_27 : decode cX11_answer 27 = .ok (.ifCond .ne 6, 3) := by decide +kernel
theorem dX11_answer_30 : decode cX11_answer 30 = .ok (.bipush (-2), 2) := by decide +kernel
theorem dX11_answer_32 : decode cX11_answer 32 = .ok (.ireturn, 1) := by decide +kernel
theorem dX11_answer_33 : decode cX11_answer 33 = .ok (.aload_n 0, 1) := by decide +kernel
theorem dX11_answer_34 : decode cX11_answer 34 = .ok (.iload_n 1, 1) := by decide +kernel
theorem dX11_answer_35 : decode cX11_answer 35 = .ok (.iload_n 2, 1) := by decide +kernel
theorem dX11_answer_36 : decode cX11_answer 36 = .ok (.invokevirtual 219, 3) := by decide +kernel
theorem dX11_answer_39 : decode cX11_answer 39 = .ok (.istore 4, 2) := by decide +kernel
theorem dX11_answer_41 : decode cX11_answer 41 = .ok (.iload_n 3, 1) := by decide +kernel
theorem dX11_answer_42 : decode cX11_answer 42 = .ok (.ifCond .ne 8, 3) := by decide +kernel
theorem dX11_answer_45 : decode cX11_answer 45 = .ok (.iload 4, 2) := by decide +kernel
theorem dX11_answer_47 : decode cX11_answer 47 = .ok (.goto 19, 3) := by decide +kernel
theorem dX11_answer_50 : decode cX11_answer 50 = .ok (.iload 4, 2) := by decide +kernel
theorem dX11_answer_52 : decode cX11_answer 52 = .ok (.aload_n 0, 1) := by decide +kernel
theorem dX11_answer_53 : decode cX11_answer 53 = .ok (.getfield 37, 3) := by decide +kernel
theorem dX11_answer_56 : decode cX11_answer 56 = .ok (.iconst 3, 1) := by decide +kernel
theorem dX11_answer_57 : decode cX11_answer 57 = .ok (.iaload, 1) := by decide +kernel
theorem dX11_answer_58 : decode cX11_answer 58 = .ok (.if_icmp .lt 7, 3) := by decide +kernel
theorem dX11_answer_61 : decode cX11_answer 61 = .ok (.iconst 1, 1) := by decide +kernel
theorem dX11_answer_62 : decode cX11_answer 62 = .ok (.goto 4, 3) := by decide +kernel
theorem dX11_answer_65 : decode cX11_answer 65 = .ok (.iconst 0, 1) := by decide +kernel
theorem dX11_answer_66 : decode cX11_answer 66 = .ok (.ireturn, 1) := by decide +kernel
set_option maxRecDepth 20000 in
theorem ggX11_layOnes_X11_pairsOf : GoodIn wsX11_layOnes wsX11_pairsOf := goodIn_r _ [7, 8, 9, 10, 11, 12, 13, 6, 14, 15, 16, 17, 18, 19, 20, 21, 22, 23, 24, 2, 25, 26, 27, 28, 29, 30, 31, 32, 33, 34, 35, 36, 37, 38, 39, 40, 41, 42, 43, 44, 45, 46, 47, 48, 49, 50, 51, 52, 53, 54, 55, 56, 57, 58, 59, 60, 61, 62, 63, 64, 65, 66, 67, 68, 69, 70, 71, 72, 73, 74, 75, 76, 77, 78, 79, 80, 81, 82] (by decide +kernel) (by decide +kernel)
set_option maxRecDepth 20000 in
theorem gX11_layOnes_X11_pairsOf : GoodIn wsX11_layOnes (wsV RX11 219 RX11 yX11_pairsOf wsX11_pairsOf) := goodIn_app (goodIn_of _ (by decide +kernel)) ggX11_layOnes_X11_pairsOf
theorem dX11_layOnes_0 : decode cX11_layOnes 0 = .ok (.iconst 0, 1) := by decide +kernel
theorem dX11_layOnes_1 : decode cX11_layOnes 1 = .ok (.istore_n 1, 1) := by decide +kernel
theorem dX11_layOnes_2 : decode cX11_layOnes 2 = .ok (.iload_n 1, 1) := by decide +kernel
theorem dX11_layOnes_3 : decode cX11_layOnes 3 = .ok (.bipush 10, 2) := by decide +kernel
theorem dX11_layOnes_5 : decode cX11_layOnes 5 = .ok (.if_icmp .ge 18, 3) := by decide +kernel
theorem dX11_layOnes_8 : decode cX11_layOnes 8 = .ok (.aload_n 0, 1) := by decide +kernel
theorem dX11_layOnes_9 : decode cX11_layOnes 9 = .ok (.getfield 120, 3) := by decide +kernel
theorem dX11_layOnes_12 : decode cX11_layOnes 12 = .ok (.iload_n 1, 1) := by decide +kernel
theorem dX11_layOnes_13 : decode cX11_layOnes 13 = .ok (.iconst 1, 1) := by decide +kernel
theorem dX11_layOnes_14 : decode cX11_layOnes 14 = .ok (.iload_n 1, 1) := by decide +kernel
theorem dX11_layOnes_15 : decode cX11_layOnes 15 = .ok (.ishl, 1) := by decide +kernel
theorem dX11_layOnes_16 : decode cX11_layOnes 16 = .ok (.iastore, 1) := by decide +kernel
theorem dX11_layOnes_17 : decode cX11_layOnes 17 = .ok (.iinc 1 1, 3) := by decide +kernel
theorem dX11_layOnes_20 : decode cX11_layOnes 20 = .ok (.goto (-18), 3) := by decide +kernel
theorem dX11_layOnes_23 : decode cX11_layOnes 23 = .ok (.iconst 0, 1) := by decide +kernel
theorem dX11_layOnes_24 : decode cX11_layOnes 24 = .ok (.istore_n 1, 1) := by decide +kernel
theorem dX11_layOnes_25 : decode cX11_layOnes 25 = .ok (.iload_n 1, 1) := by decide +kernel
theorem dX11_layOnes_26 : decode cX11_layOnes 26 = .ok (.bipush 10, 2) := by decide +kernel
theorem dX11_layOnes_28 : decode cX11_layOnes 28 = .ok (.if_icmp .ge 108, 3) := by decide +kernel
theorem dX11_layOnes_31 : decode cX11_layOnes 31 = .ok (.iconst 0, 1) := by decide +kernel
theorem dX11_layOnes_32 : decode cX11_layOnes 32 = .ok (.istore_n 2, 1) := by decide +kernel
theorem dX11_layOnes_33 : decode cX11_layOnes 33 = .ok (.iload_n 2, 1) := by decide +kernel
theorem dX11_layOnes_34 : decode cX11_layOnes 34 = .ok (.iload_n 1, 1) := by decide +kernel
theorem dX11_layOnes_35 : decode cX11_layOnes 35 = .ok (.if_icmp .ge 95, 3) := by decide +kernel
theorem dX11_layOnes_38 : decode cX11_layOnes 38 = .ok (.aload_n 0, 1) := by decide +kernel
theorem dX11_layOnes_39 : decode cX11_layOnes 39 = .ok (.getfield 120, 3) := by decide +kernel
theorem dX11_layOnes_42 : decode cX11_layOnes 42 = .ok (.iload_n 1, 1) := by decide +kernel
theorem dX11_layOnes_43 : decode cX11_layOnes 43 = .ok (.iaload, 1) := by decide +kernel
theorem dX11_layOnes_44 : decode cX11_layOnes 44 = .ok (.iload_n 2, 1) := by decide +kernel
theorem dX11_layOnes_45 : decode cX11_layOnes 45 = .ok (.ishr, 1) := by decide +kernel
theorem dX11_layOnes_46 : decode cX11_layOnes 46 = .ok (.iconst 1, 1) := by decide +kernel
theorem dX11_layOnes_47 : decode cX11_layOnes 47 = .ok (.iand, 1) := by decide +kernel
theorem dX11_layOnes_48 : decode cX11_layOnes 48 = .ok (.ifCond .ne 76, 3) := by decide +kernel
theorem dX11_layOnes_51 : decode cX11_layOnes 51 = .ok (.aload_n 0, 1) := by decide +kernel
theorem dX11_layOnes_52 : decode cX11_layOnes 52 = .ok (.iload_n 1, 1) := by decide +kernel
theorem dX11_layOnes_53 : decode cX11_layOnes 53 = .ok (.iload_n 2, 1) := by decide +kernel
theorem dX11_layOnes_54 : decode cX11_layOnes 54 = .ok (.invokevirtual 219, 3) := by decide +kernel
theorem dX11_layOnes_57 : decode cX11_layOnes 57 = .ok (.aload_n 0, 1) := by decide +kernel
theorem dX11_layOnes_58 : decode cX11_layOnes 58 = .ok (.getfield 37, 3) := by decide +kernel
theorem dX11_layOnes_61 : decode cX11_layOnes 61 = .ok (.iconst 3, 1) := by decide +kernel
theorem dX11_layOnes_62 : decode cX11_layOnes 62 = .ok (.iaload, 1) := by decide +kernel
theorem dX11_layOnes_63 : decode cX11_layOnes 63 = .ok (.if_icmp .lt 61, 3) := by decide +kernel
theorem dX11_layOnes_66 : decode cX11_layOnes 66 = .ok (.aload_n 0, 1) := by decide +kernel
theorem dX11_layOnes_67 : decode cX11_layOnes 67 = .ok (.getfield 120, 3) := by decide +kernel
theorem dX11_layOnes_70 : decode cX11_layOnes 70 = .ok (.iload_n 1, 1) := by decide +kernel
theorem dX11_layOnes_71 : decode cX11_layOnes 71 = .ok (.iaload, 1) := by decide +kernel
theorem dX11_layOnes_72 : decode cX11_layOnes 72 = .ok (.aload_n 0, 1) := by decide +kernel
theorem dX11_layOnes_73 : decode cX11_layOnes 73 = .ok (.getfield 120, 3) := by decide +kernel
theorem dX11_layOnes_76 : decode cX11_layOnes 76 = .ok (.iload_n 2, 1) := by decide +kernel
theorem dX11_layOnes_77 : decode cX11_layOnes 77 = .ok (.iaload, 1) := by decide +kernel
theorem dX11_layOnes_78 : decode cX11_layOnes 78 = .ok (.ior, 1) := by decide +kernel
theorem dX11_layOnes_79 : decode cX11_layOnes 79 = .ok (.istore_n 3, 1) := by decide +kernel
theorem dX11_layOnes_80 : decode cX11_layOnes 80 = .ok (.iconst 0, 1) := by decide +kernel
theorem dX11_layOnes_81 : decode cX11_layOnes 81 = .ok (.istore 4, 2) := by decide +kernel
theorem dX11_layOnes_83 : decode cX11_layOnes 83 = .ok (.iload 4, 2) := by decide +kernel
theorem dX11_layOnes_85 : decode cX11_layOnes 85 = .ok (.bipush 10, 2) := by decide +kernel
theorem dX11_layOnes_87 : decode cX11_layOnes 87 = .ok (.if_icmp .ge 37, 3) := by decide +kernel
theorem dX11_layOnes_90 : decode cX11_layOnes 90 = .ok (.aload_n 0, 1) := by decide +kernel
theorem dX11_layOnes_91 : decode cX11_layOnes 91 = .ok (.getfield 120, 3) := by decide +kernel
theorem dX11_layOnes_94 : decode cX11_layOnes 94 = .ok (.iload 4, 2) := by decide +kernel
theorem dX11_layOnes_96 : decode cX11_layOnes 96 = .ok (.iload_n 3, 1) := by decide +kernel
theorem dX11_layOnes_97 : decode cX11_layOnes 97 = .ok (.iload 4, 2) := by decide +kernel
theorem dX11_layOnes_99 : decode cX11_layOnes 99 = .ok (.ishr, 1) := by decide +kernel
theorem dX11_layOnes_100 : decode cX11_layOnes 100 = .ok (.iconst 1, 1) := by decide +kernel
theorem dX11_layOnes_101 : decode cX11_layOnes 101 = .ok (.iand, 1) := by decide +kernel
theorem dX11_layOnes_102 : decode cX11_layOnes 102 = .ok (.iconst 1, 1) := by decide +kernel
theorem dX11_layOnes_103 : decode cX11_layOnes 103 = .ok (.if_icmp .ne 7, 3) := by decide +kernel
theorem dX11_layOnes_106 : decode cX11_layOnes 106 = .ok (.iload_n 3, 1) := by decide +kernel
theorem dX11_layOnes_107 : decode cX11_layOnes 107 = .ok (.goto 10, 3) := by decide +kernel
theorem dX11_layOnes_110 : decode cX11_layOnes 110 = .ok (.aload_n 0, 1) := by decide +kernel
theorem dX11_layOnes_111 : decode cX11_layOnes 111 = .ok (.getfield 120, 3) := by decide +kernel
theorem dX11_layOnes_114 : decode cX11_layOnes 114 = .ok (.iload 4, 2) := by decide +kernel
theorem dX11_layOnes_116 : decode cX11_layOnes 116 = .ok (.iaload, 1) := by decide +kernel
theorem dX11_layOnes_117 : decode cX11_layOnes 117 = .ok (.iastore, 1) := by decide +kernel
theorem dX11_layOnes_118 : decode cX11_layOnes 118 = .ok (.iinc 4 1, 3) := by decide +kernel
theorem dX11_layOnes_121 : decode cX11_layOnes 121 = .ok (.goto (-38), 3) := by decide +kernel
theorem dX11_layOnes_124 : decode cX11_layOnes 124 = .ok (.iinc 2 1, 3) := by decide +kernel
theorem dX11_layOnes_127 : decode cX11_layOnes 127 = .ok (.goto (-94), 3) := by decide +kernel
theorem dX11_layOnes_130 : decode cX11_layOnes 130 = .ok (.iinc 1 1, 3) := by decide +kernel
theorem dX11_layOnes_133 : decode cX11_layOnes 133 = .ok (.goto (-108), 3) := by decide +kernel
theorem dX11_layOnes_136 : decode cX11_layOnes 136 = .ok (.return_, 1) := by decide +kernel
set_option maxRecDepth 20000 in
theorem ggX11_one_X11_isTen : GoodIn wsX11_one wsX11_isTen := goodIn_r _ [5, 6, 7, 4, 8] (by decide +kernel) (by decide +kernel)
set_option maxRecDepth 20000 in
theorem gX11_one_X11_isTen : GoodIn wsX11_one (va_wsS RX11 202 yX11_isTen wsX11_isTen) := goodIn_app (goodIn_of _ (by decide +kernel)) ggX11_one_X11_isTen
set_option maxRecDepth 20000 in
theorem ggX11_one_X11_layOnes : GoodIn wsX11_one wsX11_layOnes := goodIn_r _ [12, 1, 13, 14, 15, 16, 4, 17, 18, 19, 20, 21, 22, 23, 24, 25, 26, 27, 28, 29, 30, 31, 32, 33, 34, 35, 36, 37, 38, 39, 40, 41, 42, 43, 44, 45, 46, 47, 48, 49, 50, 51, 52, 53, 54, 55, 56, 57, 58, 59, 60, 61, 62, 63, 64, 65, 66, 67, 68, 69, 70, 71, 72, 73, 74, 75, 76, 77, 78, 79, 80, 81, 82, 83, 84, 85, 86, 87, 88, 89, 90, 91, 92] (by decide +kernel) (by decide +kernel)
set_option maxRecDepth 20000 in
theorem gX11_one_X11_layOnes : GoodIn wsX11_one (wsV RX11 222 RX11 yX11_layOnes wsX11_layOnes) := goodIn_app (goodIn_of _ (by decide +kernel)) ggX11_one_X11_layOnes
theorem dX11_one_0 : decode cX11_one 0 = .ok (.iload_n 1, 1) := by decide +kernel
theorem dX11_one_1 : decode cX11_one 1 = .ok (.invokestatic 202, 3) := by decide +kernel
theorem dX11_one_4 : decode cX11_one 4 = .ok (.ifCond .ne 5, 3) := by decide +kernel
theorem dX11_one_7 : decode cX11_one 7 = .ok (.iconst (-1), 1) := by decide +kernel
theorem dX11_one_8 : decode cX11_one 8 = .ok (.ireturn, 1) := by decide +kernel
theorem dX11_one_9 : decode cX11_one 9 = .ok (.aload_n 0, 1) := by decide +kernel
theorem dX11_one_10 : decode cX11_one 10 = .ok (.invokevirtual 222, 3) := by decide +kernel
theorem dX11_one_13 : decode cX11_one 13 = .ok (.aload_n 0, 1) := by decide +kernel
theorem dX11_one_14 : decode cX11_one 14 = .ok (.getfield 120, 3) := by decide +kernel
theorem dX11_one_17 : decode cX11_one 17 = .ok (.iload_n 1, 1) := by decide +kernel
theorem dX11_one_18 : decode cX11_one 18 = .ok (.iaload, 1) := by decide +kernel
theorem dX11_one_19 : decode cX11_one 19 = .ok (.ireturn, 1) := by decide +kernel
set_option maxRecDepth 20000 in
theorem ggX11_meet_X11_isTen : GoodIn wsX11_meet wsX11_isTen := goodIn_r _ [8, 9, 10, 7, 11] (by decide +kernel) (by decide +kernel)
set_option maxRecDepth 20000 in
theorem gX11_meet_X11_isTen : GoodIn wsX11_meet (va_wsS RX11 202 yX11_isTen wsX11_isTen) := goodIn_app (goodIn_of _ (by decide +kernel)) ggX11_meet_X11_isTen
set_option maxRecDepth 20000 in
theorem ggX11_meet_X11_in : GoodIn wsX11_meet wsX11_in := goodIn_r _ [11] (by decide +kernel) (by decide +kernel)
set_option maxRecDepth 20000 in
theorem gX11_meet_X11_in : GoodIn wsX11_meet (va_wsS RX11 138 yX11_in wsX11_in) := goodIn_app (goodIn_of _ (by decide +kernel)) ggX11_meet_X11_in
theorem dX11_meet_0 : decode cX11_meet 0 = .ok (.iload_n 1, 1) := by decide +kernel
theorem dX11_meet_1 : decode cX11_meet 1 = .ok (.invokestatic 202, 3) := by decide +kernel
theorem dX11_meet_4 : decode cX11_meet 4 = .ok (.ifCond .eq 15, 3) := by decide +kernel
theorem dX11_meet_7 : decode cX11_meet 7 = .ok (.iload_n 2, 1) := by decide +kernel
theorem dX11_meet_8 : decode cX11_meet 8 = .ok (.invokestatic 202, 3) := by decide +kernel
theorem dX11_meet_11 : decode cX11_meet 11 = .ok (.ifCond .eq 8, 3) := by decide +kernel
theorem dX11_meet_14 : decode cX11_meet 14 = .ok (.iload_n 1, 1) := by decide +kernel
theorem dX11_meet_15 : decode cX11_meet 15 = .ok (.iload_n 2, 1) := by decide +kernel
theorem dX11_meet_16 : decode cX11_meet 16 = .ok (.if_icmp .ne 5, 3) := by decide +kernel
theorem dX11_meet_19 : decode cX11_meet 19 = .ok (.iconst (-1), 1) := by decide +kernel
theorem dX11_meet_20 : decode cX11_meet 20 = .ok (.ireturn, 1) := by decide +kernel
theorem dX11_meet_21 : decode cX11_meet 21 = .ok (.iload_n 3, 1) := by decide +kernel
theorem dX11_meet_22 : decode cX11_meet 22 = .ok (.iconst 0, 1) := by decide +kernel
theorem dX11_meet_23 : decode cX11_meet 23 = .ok (.sipush 999, 3) := by decide +kernel
theorem dX11_meet_26 : decode cX11_meet 26 = .ok (.invokestatic 138, 3) := by decide +kernel
theorem dX11_meet_29 : decode cX11_meet 29 = .ok (.ifCond .ne 6, 3) := by decide +kernel
theorem dX11_meet_32 : decode cX11_meet 32 = .ok (.bipush (-2), 2) := by decide +kernel
theorem dX11_meet_34 : decode cX11_meet 34 = .ok (.ireturn, 1) := by decide +kernel
theorem dX11_meet_35 : decode cX11_meet 35 = .ok (.aload_n 0, 1) := by decide +kernel
theorem dX11_meet_36 : decode cX11_meet 36 = .ok (.getfield 225, 3) := by decide +kernel
theorem dX11_meet_39 : decode cX11_meet 39 = .ok (.bipush 30, 2) := by decide +kernel
theorem dX11_meet_41 : decode cX11_meet 41 = .ok (.if_icmp .ne 6, 3) := by decide +kernel
theorem dX11_meet_44 : decode cX11_meet 44 = .ok (.bipush (-4), 2) := by decide +kernel
theorem dX11_meet_46 : decode cX11_meet 46 = .ok (.ireturn, 1) := by decide +kernel
theorem dX11_meet_47 : decode cX11_meet 47 = .ok (.aload_n 0, 1) := by decide +kernel
theorem dX11_meet_48 : decode cX11_meet 48 = .ok (.getfield 55, 3) := by decide +kernel
theorem dX11_meet_51 : decode cX11_meet 51 = .ok (.aload_n 0, 1) := by decide +kernel
theorem dX11_meet_52 : decode cX11_meet 52 = .ok (.getfield 225, 3) := by decide +kernel
theorem dX11_meet_55 : decode cX11_meet 55 = .ok (.iload_n 1, 1) := by decide +kernel
theorem dX11_meet_56 : decode cX11_meet 56 = .ok (.iastore, 1) := by decide +kernel
theorem dX11_meet_57 : decode cX11_meet 57 = .ok (.aload_n 0, 1) := by decide +kernel
theorem dX11_meet_58 : decode cX11_meet 58 = .ok (.getfield 58, 3) := by decide +kernel
theorem dX11_meet_61 : decode cX11_meet 61 = .ok (.aload_n 0, 1) := by decide +kernel
theorem dX11_meet_62 : decode cX11_meet 62 = .ok (.getfield 225, 3) := by decide +kernel
theorem dX11_meet_65 : decode cX11_meet 65 = .ok (.iload_n 2, 1) := by decide +kernel
theorem dX11_meet_66 : decode cX11_meet 66 = .ok (.iastore, 1) := by decide +kernel
theorem dX11_meet_67 : decode cX11_meet 67 = .ok (.aload_n 0, 1) := by decide +kernel
theorem dX11_meet_68 : decode cX11_meet 68 = .ok (.getfield 61, 3) := by decide +kernel
theorem dX11_meet_71 : decode cX11_meet 71 = .ok (.aload_n 0, 1) := by decide +kernel
theorem dX11_meet_72 : decode cX11_meet 72 = .ok (.getfield 225, 3) := by decide +kernel
theorem dX11_meet_75 : decode cX11_meet 75 = .ok (.iload_n 3, 1) := by decide +kernel
theorem dX11_meet_76 : decode cX11_meet 76 = .ok (.iastore, 1) := by decide +kernel
theorem dX11_meet_77 : decode cX11_meet 77 = .ok (.aload_n 0, 1) := by decide +kernel
theorem dX11_meet_78 : decode cX11_meet 78 = .ok (.dup, 1) := by decide +kernel
theorem dX11_meet_79 : decode cX11_meet 79 = .ok (.getfield 225, 3) := by decide +kernel
theorem dX11_meet_82 : decode cX11_meet 82 = .ok (.iconst 1, 1) := by decide +kernel
theorem dX11_meet_83 : decode cX11_meet 83 = .ok (.iadd, 1) := by decide +kernel
theorem dX11_meet_84 : decode cX11_meet 84 = .ok (.putfield 225, 3) := by decide +kernel
theorem dX11_meet_87 : decode cX11_meet 87 = .ok (.aload_n 0, 1) := by decide +kernel
theorem dX11_meet_88 : decode cX11_meet 88 = .ok (.getfield 225, 3) := by decide +kernel
theorem dX11_meet_91 : decode cX11_meet 91 = .ok (.ireturn, 1) := by decide +kernel
theorem dX11_layKnown_0 : decode cX11_layKnown 0 = .ok (.iconst 0, 1) := by decide +kernel
theorem dX11_layKnown_1 : decode cX11_layKnown 1 = .ok (.istore_n 3, 1) := by decide +kernel
theorem dX11_layKnown_2 : decode cX11_layKnown 2 = .ok (.iload_n 3, 1) := by decide +kernel
theorem dX11_layKnown_3 : decode cX11_layKnown 3 = .ok (.bipush 10, 2) := by decide +kernel
theorem dX11_layKnown_5 : decode cX11_layKnown 5 = .ok (.if_icmp .ge 26, 3) := by decide +kernel
theorem dX11_layKnown_8 : decode cX11_layKnown 8 = .ok (.aload_n 0, 1) := by decide +kernel
theorem dX11_layKnown_9 : decode cX11_layKnown 9 = .ok (.getfield 123, 3) := by decide +kernel
theorem dX11_layKnown_12 : decode cX11_layKnown 12 = .ok (.iload_n 3, 1) := by decide +kernel
theorem dX11_layKnown_13 : decode cX11_layKnown 13 = .ok (.iload_n 3, 1) := by decide +kernel
theorem dX11_layKnown_14 : decode cX11_layKnown 14 = .ok (.iload_n 1, 1) := by decide +kernel
theorem dX11_layKnown_15 : decode cX11_layKnown 15 = .ok (.if_icmp .ne 7, 3) := by decide +kernel
theorem dX11_layKnown_18 : decode cX11_layKnown 18 = .ok (.iload_n 2, 1) := by decide +kernel
theorem dX11_layKnown_19 : decode cX11_layKnown 19 = .ok (.goto 5, 3) := by decide +kernel
theorem dX11_layKnown_22 : decode cX11_layKnown 22 = .ok (.bipush (-6), 2) := by decide +kernel
theorem dX11_layKnown_24 : decode cX11_layKnown 24 = .ok (.iastore, 1) := by decide +kernel
theorem dX11_layKnown_25 : decode cX11_layKnown 25 = .ok (.iinc 3 1, 3) := by decide +kernel
theorem dX11_layKnown_28 : decode cX11_layKnown 28 = .ok (.goto (-26), 3) := by decide +kernel
theorem dX11_layKnown_31 : decode cX11_layKnown 31 = .ok (.iconst 0, 1) := by decide +kernel
theorem dX11_layKnown_32 : decode cX11_layKnown 32 = .ok (.istore_n 3, 1) := by decide +kernel
theorem dX11_layKnown_33 : decode cX11_layKnown 33 = .ok (.iload_n 3, 1) := by decide +kernel
theorem dX11_layKnown_34 : decode cX11_layKnown 34 = .ok (.aload_n 0, 1) := by decide +kernel
theorem dX11_layKnown_35 : decode cX11_layKnown 35 = .ok (.getfield 225, 3) := by decide +kernel
theorem dX11_layKnown_38 : decode cX11_layKnown 38 = .ok (.if_icmp .ge 70, 3) := by decide +kernel
theorem dX11_layKnown_41 : decode cX11_layKnown 41 = .ok (.iload_n 3, 1) := by decide +kernel
theorem dX11_layKnown_42 : decode cX11_layKnown 42 = .ok (.istore 4, 2) := by decide +kernel
theorem dX11_layKnown_44 : decode cX11_layKnown 44 = .ok (.iload 4, 2) := by decide +kernel
theorem dX11_layKnown_46 : decode cX11_layKnown 46 = .ok (.ifCond .le 48, 3) := by decide +kernel
theorem dX11_layKnown_49 : decode cX11_layKnown 49 = .ok (.aload_n 0, 1) := by decide +kernel
theorem dX11_layKnown_50 : decode cX11_layKnown 50 = .ok (.getfield 61, 3) := by decide +kernel
theorem dX11_layKnown_53 : decode cX11_layKnown 53 = .ok (.aload_n 0, 1) := by decide +kernel
theorem dX11_layKnown_54 : decode cX11_layKnown 54 = .ok (.getfield 126, 3) := by decide +kernel
theorem dX11_layKnown_57 : decode cX11_layKnown 57 = .ok (.iload 4, 2) := by decide +kernel
theorem dX11_layKnown_59 : decode cX11_layKnown 59 = .ok (.iconst 1, 1) := by decide +kernel
theorem dX11_layKnown_60 : decode cX11_layKnown 60 = .ok (.isub, 1) := by decide +kernel
theorem dX11_layKnown_61 : decode cX11_layKnown 61 = .ok (.iaload, 1) := by decide +kernel
theorem dX11_layKnown_62 : decode cX11_layKnown 62 = .ok (.iaload, 1) := by decide +kernel
theorem dX11_layKnown_63 : decode cX11_layKnown 63 = .ok (.aload_n 0, 1) := by decide +kernel
theorem dX11_layKnown_64 : decode cX11_layKnown 64 = .ok (.getfield 61, 3) := by decide +kernel
theorem dX11_layKnown_67 : decode cX11_layKnown 67 = .ok (.iload_n 3, 1) := by decide +kernel
theorem dX11_layKnown_68 : decode cX11_layKnown 68 = .ok (.iaload, 1) := by decide +kernel
theorem dX11_layKnown_69 : decode cX11_layKnown 69 = .ok (.if_icmp .le 25, 3) := by decide +kernel
theorem dX11_layKnown_72 : decode cX11_layKnown 72 = .ok (.aload_n 0, 1) := by decide +kernel
theorem dX11_layKnown_73 : decode cX11_layKnown 73 = .ok (.getfield 126, 3) := by decide +kernel
theorem dX11_layKnown_76 : decode cX11_layKnown 76 = .ok (.iload 4, 2) := by decide +kernel
theorem dX11_layKnown_78 : decode cX11_layKnown 78 = .ok (.aload_n 0, 1) := by decide +kernel
theorem dX11_layKnown_79 : decode cX11_layKnown 79 = .ok (.getfield 126, 3) := by decide +kernel
theorem dX11_layKnown_82 : decode cX11_layKnown 82 = .ok (.iload 4, 2) := by decide +kernel
theorem dX11_layKnown_84 : decode cX11_layKnown 84 = .ok (.iconst 1, 1) := by decide +kernel
theorem dX11_layKnown_85 : decode cX11_layKnown 85 = .ok (.isub, 1) := by decide +kernel
theorem dX11_layKnown_86 : decode cX11_layKnown 86 = .ok (.iaload, 1) := by decide +kernel
theorem dX11_layKnown_87 : decode cX11_layKnown 87 = .ok (.iastore, 1) := by decide +kernel
theorem dX11_layKnown_88 : decode cX11_layKnown 88 = .ok (.iinc 4 (-1), 3) := by decide +kernel
theorem dX11_layKnown_91 : decode cX11_layKnown 91 = .ok (.goto (-47), 3) := by decide +kernel
theorem dX11_layKnown_94 : decode cX11_layKnown 94 = .ok (.aload_n 0, 1) := by decide +kernel
theorem dX11_layKnown_95 : decode cX11_layKnown 95 = .ok (.getfield 126, 3) := by decide +kernel
theorem dX11_layKnown_98 : decode cX11_layKnown 98 = .ok (.iload 4, 2) := by decide +kernel
theorem dX11_layKnown_100 : decode cX11_layKnown 100 = .ok (.iload_n 3, 1) := by decide +kernel
theorem dX11_layKnown_101 : decode cX11_layKnown 101 = .ok (.iastore, 1) := by decide +kernel
theorem dX11_layKnown_102 : decode cX11_layKnown 102 = .ok (.iinc 3 1, 3) := by decide +kernel
theorem dX11_layKnown_105 : decode cX11_layKnown 105 = .ok (.goto (-72), 3) := by decide +kernel
theorem dX11_layKnown_108 : decode cX11_layKnown 108 = .ok (.iconst 0, 1) := by decide +kernel
theorem dX11_layKnown_109 : decode cX11_layKnown 109 = .ok (.istore_n 3, 1) := by decide +kernel
theorem dX11_layKnown_110 : decode cX11_layKnown 110 = .ok (.iload_n 3, 1) := by decide +kernel
theorem dX11_layKnown_111 : decode cX11_layKnown 111 = .ok (.aload_n 0, 1) := by decide +kernel
theorem dX11_layKnown_112 : decode cX11_layKnown 112 = .ok (.getfield 225, 3) := by decide +kernel
theorem dX11_layKnown_115 : decode cX11_layKnown 115 = .ok (.if_icmp .ge 108, 3) := by decide +kernel
theorem dX11_layKnown_118 : decode cX11_layKnown 118 = .ok (.aload_n 0, 1) := by decide +kernel
theorem dX11_layKnown_119 : decode cX11_layKnown 119 = .ok (.getfield 126, 3) := by decide +kernel
theorem dX11_layKnown_122 : decode cX11_layKnown 122 = .ok (.iload_n 3, 1) := by decide +kernel
theorem dX11_layKnown_123 : decode cX11_layKnown 123 = .ok (.iaload, 1) := by decide +kernel
theorem dX11_layKnown_124 : decode cX11_layKnown 124 = .ok (.istore 4, 2) := by decide +kernel
theorem dX11_layKnown_126 : decode cX11_layKnown 126 = .ok (.aload_n 0, 1) := by decide +kernel
theorem dX11_layKnown_127 : decode cX11_layKnown 127 = .ok (.getfield 55, 3) := by decide +kernel
theorem dX11_layKnown_130 : decode cX11_layKnown 130 = .ok (.iload 4, 2) := by decide +kernel
theorem dX11_layKnown_132 : decode cX11_layKnown 132 = .ok (.iaload, 1) := by decide +kernel
theorem dX11_layKnown_133 : decode cX11_layKnown 133 = .ok (.istore 5, 2) := by decide +kernel
theorem dX11_layKnown_135 : decode cX11_layKnown 135 = .ok (.aload_n 0, 1) := by decide +kernel
theorem dX11_layKnown_136 : decode cX11_layKnown 136 = .ok (.getfield 58, 3) := by decide +kernel
theorem dX11_layKnown_139 : decode cX11_layKnown 139 = .ok (.iload 4, 2) := by decide +kernel
theorem dX11_layKnown_141 : decode cX11_layKnown 141 = .ok (.iaload, 1) := by decide +kernel
theorem dX11_layKnown_142 : decode cX11_layKnown 142 = .ok (.istore 6, 2) := by decide +kernel
theorem dX11_layKnown_144 : decode cX11_layKnown 144 = .ok (.aload_n 0, 1) := by decide +kernel
theorem dX11_layKnown_145 : decode cX11_layKnown 145 = .ok (.getfield 61, 3) := by decide +kernel
theorem dX11_layKnown_148 : decode cX11_layKnown 148 = .ok (.iload 4, 2) := by decide +kernel
theorem dX11_layKnown_150 : decode cX11_layKnown 150 = .ok (.iaload, 1) := by decide +kernel
theorem dX11_layKnown_151 : decode cX11_layKnown 151 = .ok (.iload_n 2, 1) := by decide +kernel
theorem dX11_layKnown_152 : decode cX11_layKnown 152 = .ok (.if_icmp .lt 65, 3) := by decide +kernel
theorem dX11_layKnown_155 : decode cX11_layKnown 155 = .ok (.aload_n 0, 1) := by decide +kernel
theorem dX11_layKnown_156 : decode cX11_layKnown 156 = .ok (.getfield 123, 3) := by decide +kernel
theorem dX11_layKnown_159 : decode cX11_layKnown 159 = .ok (.iload 5, 2) := by decide +kernel
theorem dX11_layKnown_161 : decode cX11_layKnown 161 = .ok (.iaload, 1) := by decide +kernel
theorem dX11_layKnown_162 : decode cX11_layKnown 162 = .ok (.ifCond .lt 7, 3) := by decide +kernel
theorem dX11_layKnown_165 : decode cX11_layKnown 165 = .ok (.iconst 1, 1) := by decide +kernel
theorem dX11_layKnown_166 : decode cX11_layKnown 166 = .ok (.goto 4, 3) := by decide +kernel
theorem dX11_layKnown_169 : decode cX11_layKnown 169 = .ok (.iconst 0, 1) := by decide +kernel
theorem dX11_layKnown_170 : decode cX11_layKnown 170 = .ok (.aload_n 0, 1) := by decide +kernel
theorem dX11_layKnown_171 : decode cX11_layKnown 171 = .ok (.getfield 123, 3) := by decide +kernel
theorem dX11_layKnown_174 : decode cX11_layKnown 174 = .ok (.iload 6, 2) := by decide +kernel
theorem dX11_layKnown_176 : decode cX11_layKnown 176 = .ok (.iaload, 1) := by decide +kernel
theorem dX11_layKnown_177 : decode cX11_layKnown 177 = .ok (.ifCond .lt 7, 3) := by decide +kernel
theorem dX11_layKnown_180 : decode cX11_layKnown 180 = .ok (.iconst 1, 1) := by decide +kernel
theorem dX11_layKnown_181 : decode cX11_layKnown 181 = .ok (.goto 4, 3) := by decide +kernel
theorem dX11_layKnown_184 : decode cX11_layKnown 184 = .ok (.iconst 0, 1) := by decide +kernel
theorem dX11_layKnown_185 : decode cX11_layKnown 185 = .ok (.if_icmp .eq 32, 3) := by decide +kernel
theorem dX11_layKnown_188 : decode cX11_layKnown 188 = .ok (.aload_n 0, 1) := by decide +kernel
theorem dX11_layKnown_189 : decode cX11_layKnown 189 = .ok (.getfield 123, 3) := by decide +kernel
theorem dX11_layKnown_192 : decode cX11_layKnown 192 = .ok (.aload_n 0, 1) := by decide +kernel
theorem dX11_layKnown_193 : decode cX11_layKnown 193 = .ok (.getfield 123, 3) := by decide +kernel
theorem dX11_layKnown_196 : decode cX11_layKnown 196 = .ok (.iload 5, 2) := by decide +kernel
theorem dX11_layKnown_198 : decode cX11_layKnown 198 = .ok (.iaload, 1) := by decide +kernel
theorem dX11_layKnown_199 : decode cX11_layKnown 199 = .ok (.ifCond .lt 8, 3) := by decide +kernel
theorem dX11_layKnown_202 : decode cX11_layKnown 202 = .ok (.iload 6, 2) := by decide +kernel
theorem dX11_layKnown_204 : decode cX11_layKnown 204 = .ok (.goto 5, 3) := by decide +kernel
theorem dX11_layKnown_207 : decode cX11_layKnown 207 = .ok (.iload 5, 2) := by decide +kernel
theorem dX11_layKnown_209 : decode cX11_layKnown 209 = .ok (.aload_n 0, 1) := by decide +kernel
theorem dX11_layKnown_210 : decode cX11_layKnown 210 = .ok (.getfield 61, 3) := by decide +kernel
theorem dX11_layKnown_213 : decode cX11_layKnown 213 = .ok (.iload 4, 2) := by decide +kernel
theorem dX11_layKnown_215 : decode cX11_layKnown 215 = .ok (.iaload, 1) := by decide +kernel
theorem dX11_layKnown_216 : decode cX11_layKnown 216 = .ok (.iastore, 1) := by decide +kernel
theorem dX11_layKnown_217 : decode cX11_layKnown 217 = .ok (.iinc 3 1, 3) := by decide +kernel
theorem dX11_layKnown_220 : decode cX11_layKnown 220 = .ok (.goto (-110), 3) := by decide +kernel
theorem dX11_layKnown_223 : decode cX11_layKnown 223 = .ok (.return_, 1) := by decide +kernel
set_option maxRecDepth 20000 in
theorem ggX11_knew_X11_isTen : GoodIn wsX11_knew wsX11_isTen := goodIn_r _ [5, 6, 7, 4, 8] (by decide +kernel) (by decide +kernel)
set_option maxRecDepth 20000 in
theorem gX11_knew_X11_isTen : GoodIn wsX11_knew (va_wsS RX11 202 yX11_isTen wsX11_isTen) := goodIn_app (goodIn_of _ (by decide +kernel)) ggX11_knew_X11_isTen
set_option maxRecDepth 20000 in
theorem ggX11_knew_X11_in : GoodIn wsX11_knew wsX11_in := goodIn_r _ [8] (by decide +kernel) (by decide +kernel)
set_option maxRecDepth 20000 in
theorem gX11_knew_X11_in : GoodIn wsX11_knew (va_wsS RX11 138 yX11_in wsX11_in) := goodIn_app (goodIn_of _ (by decide +kernel)) ggX11_knew_X11_in
set_option maxRecDepth 20000 in
theorem ggX11_knew_X11_layKnown : GoodIn wsX11_knew wsX11_layKnown := goodIn_r _ [12, 1, 13, 14, 15, 16, 17, 18, 19, 20, 21, 22, 23, 24, 25, 26, 27, 28, 29, 30, 31, 32, 33, 34, 35, 36, 37, 38, 39, 40, 41, 42, 43, 44, 45, 46, 47, 48, 49, 50, 51, 52, 53, 54, 55, 56, 57, 58, 59, 60, 61, 62, 63, 64, 65, 66, 67, 68, 69, 70, 71] (by decide +kernel) (by decide +kernel)
set_option maxRecDepth 20000 in
theorem gX11_knew_X11_layKnown : GoodIn wsX11_knew (wsV RX11 228 RX11 yX11_layKnown wsX11_layKnown) := goodIn_app (goodIn_of _ (by decide +kernel)) ggX11_knew_X11_layKnown
theorem dX11_knew_0 : decode cX11_knew 0 = .ok (.iload_n 1, 1) := by decide +kernel
theorem dX11_knew_1 : decode cX11_knew 1 = .ok (.invokestatic 202, 3) := by decide +kernel
theorem dX11_knew_4 : decode cX11_knew 4 = .ok (.ifCond .eq 10, 3) := by decide +kernel
theorem dX11_knew_7 : decode cX11_knew 7 = .ok (.iload_n 3, 1) := by decide +kernel
theorem dX11_knew_8 : decode cX11_knew 8 = .ok (.invokestatic 202, 3) := by decide +kernel
theorem dX11_knew_11 : decode cX11_knew 11 = .ok (.ifCond .ne 5, 3) := by decide +kernel
theorem dX11_knew_14 : decode cX11_knew 14 = .ok (.iconst (-1), 1) := by decide +kernel
theorem dX11_knew_15 : decode cX11_knew 15 = .ok (.ireturn, 1) := by decide +kernel
theorem dX11_knew_16 : decode cX11_knew 16 = .ok (.iload_n 2, 1) := by decide +kernel
theorem dX11_knew_17 : decode cX11_knew 17 = .ok (.iconst 0, 1) := by decide +kernel
theorem dX11_knew_18 : decode cX11_knew 18 = .ok (.sipush 999, 3) := by decide +kernel
theorem dX11_knew_21 : decode cX11_knew 21 = .ok (.invokestatic 138, 3) := by decide +kernel
theorem dX11_knew_24 : decode cX11_knew 24 = .ok (.ifCond .ne 6, 3) := by decide +kernel
theorem dX11_knew_27 : decode cX11_knew 27 = .ok (.bipush (-2), 2) := by decide +kernel
theorem dX11_knew_29 : decode cX11_knew 29 = .ok (.ireturn, 1) := by decide +kernel
theorem dX11_knew_30 : decode cX11_knew 30 = .ok (.aload_n 0, 1) := by decide +kernel
theorem dX11_knew_31 : decode cX11_knew 31 = .ok (.iload_n 1, 1) := by decide +kernel
theorem dX11_knew_32 : decode cX11_knew 32 = .ok (.iload_n 2, 1) := by decide +kernel
theorem dX11_knew_33 : decode cX11_knew 33 = .ok (.invokevirtual 228, 3) := by decide +kernel
theorem dX11_knew_36 : decode cX11_knew 36 = .ok (.aload_n 0, 1) := by decide +kernel
theorem dX11_knew_37 : decode cX11_knew 37 = .ok (.getfield 123, 3) := by decide +kernel
theorem dX11_knew_40 : decode cX11_knew 40 = .ok (.iload_n 3, 1) := by decide +kernel
theorem dX11_knew_41 : decode cX11_knew 41 = .ok (.iaload, 1) := by decide +kernel
theorem dX11_knew_42 : decode cX11_knew 42 = .ok (.ireturn, 1) := by decide +kernel
set_option maxRecDepth 20000 in
theorem ggX11_own_X11_isTen : GoodIn wsX11_own wsX11_isTen := goodIn_r _ [5, 6, 7, 4, 8] (by decide +kernel) (by decide +kernel)
set_option maxRecDepth 20000 in
theorem gX11_own_X11_isTen : GoodIn wsX11_own (va_wsS RX11 202 yX11_isTen wsX11_isTen) := goodIn_app (goodIn_of _ (by decide +kernel)) ggX11_own_X11_isTen
theorem dX11_own_0 : decode cX11_own 0 = .ok (.iload_n 1, 1) := by decide +kernel
theorem dX11_own_1 : decode cX11_own 1 = .ok (.invokestatic 202, 3) := by decide +kernel
theorem dX11_own_4 : decode cX11_own 4 = .ok (.ifCond .eq 10, 3) := by decide +kernel
theorem dX11_own_7 : decode cX11_own 7 = .ok (.iload_n 2, 1) := by decide +kernel
theorem dX11_own_8 : decode cX11_own 8 = .ok (.invokestatic 202, 3) := by decide +kernel
theorem dX11_own_11 : decode cX11_own 11 = .ok (.ifCond .ne 5, 3) := by decide +kernel
theorem dX11_own_14 : decode cX11_own 14 = .ok (.iconst (-1), 1) := by decide +kernel
theorem dX11_own_15 : decode cX11_own 15 = .ok (.ireturn, 1) := by decide +kernel
theorem dX11_own_16 : decode cX11_own 16 = .ok (.aload_n 0, 1) := by decide +kernel
theorem dX11_own_17 : decode cX11_own 17 = .ok (.getfield 64, 3) := by decide +kernel
theorem dX11_own_20 : decode cX11_own 20 = .ok (.iload_n 1, 1) := by decide +kernel
theorem dX11_own_21 : decode cX11_own 21 = .ok (.iaload, 1) := by decide +kernel
theorem dX11_own_22 : decode cX11_own 22 = .ok (.istore_n 3, 1) := by decide +kernel
theorem dX11_own_23 : decode cX11_own 23 = .ok (.aload_n 0, 1) := by decide +kernel
theorem dX11_own_24 : decode cX11_own 24 = .ok (.getfield 64, 3) := by decide +kernel
theorem dX11_own_27 : decode cX11_own 27 = .ok (.iload_n 1, 1) := by decide +kernel
theorem dX11_own_28 : decode cX11_own 28 = .ok (.iload_n 2, 1) := by decide +kernel
theorem dX11_own_29 : decode cX11_own 29 = .ok (.iastore, 1) := by decide +kernel
theorem dX11_own_30 : decode cX11_own 30 = .ok (.iload_n 3, 1) := by decide +kernel
theorem dX11_own_31 : decode cX11_own 31 = .ok (.ireturn, 1) := by decide +kernel
set_option maxRecDepth 20000 in
theorem ggX11_begin_X11_isMatch : GoodIn wsX11_begin wsX11_isMatch := goodIn_r _ [6, 7, 8, 9, 5, 10, 11, 12, 13, 14, 15, 16, 17, 18, 19, 20, 21, 22, 23, 24, 25, 26, 27, 28, 29, 30, 31, 32, 33, 34, 35, 36, 37, 38, 39, 40, 41, 42, 43, 44, 45, 46, 47, 48, 49, 50, 51, 52, 53, 54, 55, 56, 57, 58, 59, 60, 61, 62, 63, 64] (by decide +kernel) (by decide +kernel)
set_option maxRecDepth 20000 in
theorem gX11_begin_X11_isMatch : GoodIn wsX11_begin (wsV RX11 153 RX11 yX11_isMatch wsX11_isMatch) := goodIn_app (goodIn_of _ (by decide +kernel)) ggX11_begin_X11_isMatch
set_option maxRecDepth 20000 in
theorem ggX11_begin_X11_in : GoodIn wsX11_begin wsX11_in := goodIn_r _ [10] (by decide +kernel) (by decide +kernel)
set_option maxRecDepth 20000 in
theorem gX11_begin_X11_in : GoodIn wsX11_begin (va_wsS RX11 138 yX11_in wsX11_in) := goodIn_app (goodIn_of _ (by decide +kernel)) ggX11_begin_X11_in
theorem dX11_begin_0 : decode cX11_begin 0 = .ok (.aload_n 0, 1) := by decide +kernel
theorem dX11_begin_1 : decode cX11_begin 1 = .ok (.iload_n 1, 1) := by decide +kernel
theorem dX11_begin_2 : decode cX11_begin 2 = .ok (.invokevirtual 153, 3) := by decide +kernel
theorem dX11_begin_5 : decode cX11_begin 5 = .ok (.ifCond .ne 5, 3) := by decide +kernel
theorem dX11_begin_8 : decode cX11_begin 8 = .ok (.iconst (-1), 1) := by decide +kernel
theorem dX11_begin_9 : decode cX11_begin 9 = .ok (.ireturn, 1) := by decide +kernel
theorem dX11_begin_10 : decode cX11_begin 10 = .ok (.iload_n 2, 1) := by decide +kernel
theorem dX11_begin_11 : decode cX11_begin 11 = .ok (.iconst 0, 1) := by decide +kernel
theorem dX11_begin_12 : decode cX11_begin 12 = .ok (.sipush 999, 3) := by decide +kernel
theorem dX11_begin_15 : decode cX11_begin 15 = .ok (.invokestatic 138, 3) := by decide +kernel
theorem dX11_begin_18 : decode cX11_begin 18 = .ok (.ifCond .ne 6, 3) := by decide +kernel
theorem dX11_begin_21 : decode cX11_begin 21 = .ok (.bipush (-2), 2) := by decide +kernel
theorem dX11_begin_23 : decode cX11_begin 23 = .ok (.ireturn, 1) := by decide +kernel
theorem dX11_begin_24 : decode cX11_begin 24 = .ok (.aload_n 0, 1) := by decide +kernel
theorem dX11_begin_25 : decode cX11_begin 25 = .ok (.getfield 25, 3) := by decide +kernel
theorem dX11_begin_28 : decode cX11_begin 28 = .ok (.iload_n 1, 1) := by decide +kernel
theorem dX11_begin_29 : decode cX11_begin 29 = .ok (.iaload, 1) := by decide +kernel
theorem dX11_begin_30 : decode cX11_begin 30 = .ok (.istore_n 3, 1) := by decide +kernel
theorem dX11_begin_31 : decode cX11_begin 31 = .ok (.aload_n 0, 1) := by decide +kernel
theorem dX11_begin_32 : decode cX11_begin 32 = .ok (.getfield 25, 3) := by decide +kernel
theorem dX11_begin_35 : decode cX11_begin 35 = .ok (.iload_n 1, 1) := by decide +kernel
theorem dX11_begin_36 : decode cX11_begin 36 = .ok (.iload_n 2, 1) := by decide +kernel
theorem dX11_begin_37 : decode cX11_begin 37 = .ok (.iastore, 1) := by decide +kernel
theorem dX11_begin_38 : decode cX11_begin 38 = .ok (.iload_n 3, 1) := by decide +kernel
theorem dX11_begin_39 : decode cX11_begin 39 = .ok (.ireturn, 1) := by decide +kernel
set_option maxRecDepth 20000 in
theorem ggX11_news_X11_isTen : GoodIn wsX11_news wsX11_isTen := goodIn_r _ [6, 7, 8, 5, 9] (by decide +kernel) (by decide +kernel)
set_option maxRecDepth 20000 in
theorem gX11_news_X11_isTen : GoodIn wsX11_news (va_wsS RX11 202 yX11_isTen wsX11_isTen) := goodIn_app (goodIn_of _ (by decide +kernel)) ggX11_news_X11_isTen
set_option maxRecDepth 20000 in
theorem ggX11_news_X11_in : GoodIn wsX11_news wsX11_in := goodIn_r _ [9] (by decide +kernel) (by decide +kernel)
set_option maxRecDepth 20000 in
theorem gX11_news_X11_in : GoodIn wsX11_news (va_wsS RX11 138 yX11_in wsX11_in) := goodIn_app (goodIn_of _ (by decide +kernel)) ggX11_news_X11_in
theorem dX11_news_0 : decode cX11_news 0 = .ok (.iload_n 1, 1) := by decide +kernel
theorem dX11_news_1 : decode cX11_news 1 = .ok (.invokestatic 202, 3) := by decide +kernel
theorem dX11_news_4 : decode cX11_news 4 = .ok (.ifCond .ne 5, 3) := by decide +kernel
theorem dX11_news_7 : decode cX11_news 7 = .ok (.iconst (-1), 1) := by decide +kernel
theorem dX11_news_8 : decode cX11_news 8 = .ok (.ireturn, 1) := by decide +kernel
theorem dX11_news_9 : decode cX11_news 9 = .ok (.iload_n 2, 1) := by decide +kernel
theorem dX11_news_10 : decode cX11_news 10 = .ok (.iconst 0, 1) := by decide +kernel
theorem dX11_news_11 : decode cX11_news 11 = .ok (.sipush 999, 3) := by decide +kernel
theorem dX11_news_14 : decode cX11_news 14 = .ok (.invokestatic 138, 3) := by decide +kernel
theorem dX11_news_17 : decode cX11_news 17 = .ok (.ifCond .ne 6, 3) := by decide +kernel
theorem dX11_news_20 : decode cX11_news 20 = .ok (.bipush (-2), 2) := by decide +kernel
theorem dX11_news_22 : decode cX11_news 22 = .ok (.ireturn, 1) := by decide +kernel
theorem dX11_news_23 : decode cX11_news 23 = .ok (.aload_n 0, 1) := by decide +kernel
theorem dX11_news_24 : decode cX11_news 24 = .ok (.iload_n 1, 1) := by decide +kernel
theorem dX11_news_25 : decode cX11_news 25 = .ok (.putfield 67, 3) := by decide +kernel
theorem dX11_news_28 : decode cX11_news 28 = .ok (.aload_n 0, 1) := by decide +kernel
theorem dX11_news_29 : decode cX11_news 29 = .ok (.iload_n 2, 1) := by decide +kernel
theorem dX11_news_30 : decode cX11_news 30 = .ok (.putfield 231, 3) := by decide +kernel
theorem dX11_news_33 : decode cX11_news 33 = .ok (.iconst 1, 1) := by decide +kernel
theorem dX11_news_34 : decode cX11_news 34 = .ok (.ireturn, 1) := by decide +kernel
set_option maxRecDepth 20000 in
theorem ggX11_explainedOf_X11_layKnown : GoodIn wsX11_explainedOf wsX11_layKnown := goodIn_r _ [14, 6, 15, 16, 17, 18, 19, 20, 21, 22, 23, 24, 25, 26, 27, 28, 29, 30, 31, 32, 33, 34, 35, 36, 37, 38, 39, 40, 41, 42, 43, 44, 45, 46, 47, 48, 49, 50, 51, 52, 53, 54, 55, 56, 57, 58, 59, 60, 61, 62, 63, 64, 65, 66, 67, 68, 69, 70, 71, 72, 73] (by decide +kernel) (by decide +kernel)
set_option maxRecDepth 20000 in
theorem gX11_explainedOf_X11_layKnown : GoodIn wsX11_explainedOf (wsV RX11 228 RX11 yX11_layKnown wsX11_layKnown) := goodIn_app (goodIn_of _ (by decide +kernel)) ggX11_explainedOf_X11_layKnown
theorem dX11_explainedOf_0 : decode cX11_explainedOf 0 = .ok (.aload_n 0, 1) := by decide +kernel
theorem dX11_explainedOf_1 : decode cX11_explainedOf 1 = .ok (.getfield 67, 3) := by decide +kernel
theorem dX11_explainedOf_4 : decode cX11_explainedOf 4 = .ok (.ifCond .ge 5, 3) := by decide +kernel
theorem dX11_explainedOf_7 : decode cX11_explainedOf 7 = .ok (.iconst 0, 1) := by decide +kernel
theorem dX11_explainedOf_8 : decode cX11_explainedOf 8 = .ok (.ireturn, 1) := by decide +kernel
theorem dX11_explainedOf_9 : decode cX11_explainedOf 9 = .ok (.aload_n 0, 1) := by decide +kernel
theorem dX11_explainedOf_10 : decode cX11_explainedOf 10 = .ok (.aload_n 0, 1) := by decide +kernel
theorem dX11_explainedOf_11 : decode cX11_explainedOf 11 = .ok (.getfield 67, 3) := by decide +kernel
theorem dX11_explainedOf_14 : decode cX11_explainedOf 14 = .ok (.aload_n 0, 1) := by decide +kernel
theorem dX11_explainedOf_15 : decode cX11_explainedOf 15 = .ok (.getfield 231, 3) := by decide +kernel
theorem dX11_explainedOf_18 : decode cX11_explainedOf 18 = .ok (.invokevirtual 228, 3) := by decide +kernel
theorem dX11_explainedOf_21 : decode cX11_explainedOf 21 = .ok (.iconst 0, 1) := by decide +kernel
theorem dX11_explainedOf_22 : decode cX11_explainedOf 22 = .ok (.istore_n 2, 1) := by decide +kernel
theorem dX11_explainedOf_23 : decode cX11_explainedOf 23 = .ok (.iconst 0, 1) := by decide +kernel
theorem dX11_explainedOf_24 : decode cX11_explainedOf 24 = .ok (.istore_n 3, 1) := by decide +kernel
theorem dX11_explainedOf_25 : decode cX11_explainedOf 25 = .ok (.iload_n 3, 1) := by decide +kernel
theorem dX11_explainedOf_26 : decode cX11_explainedOf 26 = .ok (.aload_n 0, 1) := by decide +kernel
theorem dX11_explainedOf_27 : decode cX11_explainedOf 27 = .ok (.getfield 205, 3) := by decide +kernel
theorem dX11_explainedOf_30 : decode cX11_explainedOf 30 = .ok (.if_icmp .ge 82, 3) := by decide +kernel
theorem dX11_explainedOf_33 : decode cX11_explainedOf 33 = .ok (.aload_n 0, 1) := by decide +kernel
theorem dX11_explainedOf_34 : decode cX11_explainedOf 34 = .ok (.getfield 25, 3) := by decide +kernel
theorem dX11_explainedOf_37 : decode cX11_explainedOf 37 = .ok (.iload_n 1, 1) := by decide +kernel
theorem dX11_explainedOf_38 : decode cX11_explainedOf 38 = .ok (.iaload, 1) := by decide +kernel
theorem dX11_explainedOf_39 : decode cX11_explainedOf 39 = .ok (.aload_n 0, 1) := by decide +kernel
theorem dX11_explainedOf_40 : decode cX11_explainedOf 40 = .ok (.getfield 49, 3) := by decide +kernel
theorem dX11_explainedOf_43 : decode cX11_explainedOf 43 = .ok (.iload_n 3, 1) := by decide +kernel
theorem dX11_explainedOf_44 : decode cX11_explainedOf 44 = .ok (.iaload, 1) := by decide +kernel
theorem dX11_explainedOf_45 : decode cX11_explainedOf 45 = .ok (.bipush 59, 2) := by decide +kernel
theorem dX11_explainedOf_47 : decode cX11_explainedOf 47 = .ok (.if_icmp .le 7, 3) := by decide +kernel
theorem dX11_explainedOf_50 : decode cX11_explainedOf 50 = .ok (.iconst 1, 1) := by decide +kernel
theorem dX11_explainedOf_51 : decode cX11_explainedOf 51 = .ok (.goto 4, 3) := by decide +kernel
theorem dX11_explainedOf_54 : decode cX11_explainedOf 54 = .ok (.iconst 0, 1) := by decide +kernel
theorem dX11_explainedOf_55 : decode cX11_explainedOf 55 = .ok (.iadd, 1) := by decide +kernel
theorem dX11_explainedOf_56 : decode cX11_explainedOf 56 = .ok (.istore 4, 2) := by decide +kernel
theorem dX11_explainedOf_58 : decode cX11_explainedOf 58 = .ok (.aload_n 0, 1) := by decide +kernel
theorem dX11_explainedOf_59 : decode cX11_explainedOf 59 = .ok (.getfield 123, 3) := by decide +kernel
theorem dX11_explainedOf_62 : decode cX11_explainedOf 62 = .ok (.aload_n 0, 1) := by decide +kernel
theorem dX11_explainedOf_63 : decode cX11_explainedOf 63 = .ok (.getfield 64, 3) := by decide +kernel
theorem dX11_explainedOf_66 : decode cX11_explainedOf 66 = .ok (.aload_n 0, 1) := by decide +kernel
theorem dX11_explainedOf_67 : decode cX11_explainedOf 67 = .ok (.getfield 40, 3) := by decide +kernel
theorem dX11_explainedOf_70 : decode cX11_explainedOf 70 = .ok (.iload_n 3, 1) := by decide +kernel
theorem dX11_explainedOf_71 : decode cX11_explainedOf 71 = .ok (.iaload, 1) := by decide +kernel
theorem dX11_explainedOf_72 : decode cX11_explainedOf 72 = .ok (.iaload, 1) := by decide +kernel
theorem dX11_explainedOf_73 : decode cX11_explainedOf 73 = .ok (.iaload, 1) := by decide +kernel
theorem dX11_explainedOf_74 : decode cX11_explainedOf 74 = .ok (.istore 5, 2) := by decide +kernel
theorem dX11_explainedOf_76 : decode cX11_explainedOf 76 = .ok (.iload_n 2, 1) := by decide +kernel
theorem dX11_explainedOf_77 : decode cX11_explainedOf 77 = .ok (.aload_n 0, 1) := by decide +kernel
theorem dX11_explainedOf_78 : decode cX11_explainedOf 78 = .ok (.getfield 43, 3) := by decide +kernel
theorem dX11_explainedOf_81 : decode cX11_explainedOf 81 = .ok (.iload_n 3, 1) := by decide +kernel
theorem dX11_explainedOf_82 : decode cX11_explainedOf 82 = .ok (.iaload, 1) := by decide +kernel
theorem dX11_explainedOf_83 : decode cX11_explainedOf 83 = .ok (.iload_n 1, 1) := by decide +kernel
theorem dX11_explainedOf_84 : decode cX11_explainedOf 84 = .ok (.if_icmp .ne 19, 3) := by decide +kernel
theorem dX11_explainedOf_87 : decode cX11_explainedOf 87 = .ok (.iload 5, 2) := by decide +kernel
theorem dX11_explainedOf_89 : decode cX11_explainedOf 89 = .ok (.ifCond .lt 14, 3) := by decide +kernel
theorem dX11_explainedOf_92 : decode cX11_explainedOf 92 = .ok (.iload 5, 2) := by decide +kernel
theorem dX11_explainedOf_94 : decode cX11_explainedOf 94 = .ok (.iload 4, 2) := by decide +kernel
theorem dX11_explainedOf_96 : decode cX11_explainedOf 96 = .ok (.if_icmp .gt 7, 3) := by decide +kernel
theorem dX11_explainedOf_99 : decode cX11_explainedOf 99 = .ok (.iconst 1, 1) := by decide +kernel
theorem dX11_explainedOf_100 : decode cX11_explainedOf 100 = .ok (.goto 4, 3) := by decide +kernel
theorem dX11_explainedOf_103 : decode cX11_explainedOf 103 = .ok (.iconst 0, 1) := by decide +kernel
theorem dX11_explainedOf_104 : decode cX11_explainedOf 104 = .ok (.iadd, 1) := by decide +kernel
theorem dX11_explainedOf_105 : decode cX11_explainedOf 105 = .ok (.istore_n 2, 1) := by decide +kernel
theorem dX11_explainedOf_106 : decode cX11_explainedOf 106 = .ok (.iinc 3 1, 3) := by decide +kernel
theorem dX11_explainedOf_109 : decode cX11_explainedOf 109 = .ok (.goto (-84), 3) := by decide +kernel
theorem dX11_explainedOf_112 : decode cX11_explainedOf 112 = .ok (.iload_n 2, 1) := by decide +kernel
theorem dX11_explainedOf_113 : decode cX11_explainedOf 113 = .ok (.ireturn, 1) := by decide +kernel
theorem dX11_stakesOn_0 : decode cX11_stakesOn 0 = .ok (.iconst 0, 1) := by decide +kernel
theorem dX11_stakesOn_1 : decode cX11_stakesOn 1 = .ok (.istore_n 2, 1) := by decide +kernel
theorem dX11_stakesOn_2 : decode cX11_stakesOn 2 = .ok (.iconst 0, 1) := by decide +kernel
theorem dX11_stakesOn_3 : decode cX11_stakesOn 3 = .ok (.istore_n 3, 1) := by decide +kernel
theorem dX11_stakesOn_4 : decode cX11_stakesOn 4 = .ok (.iload_n 3, 1) := by decide +kernel
theorem dX11_stakesOn_5 : decode cX11_stakesOn 5 = .ok (.aload_n 0, 1) := by decide +kernel
theorem dX11_stakesOn_6 : decode cX11_stakesOn 6 = .ok (.getfield 205, 3) := by decide +kernel
theorem dX11_stakesOn_9 : decode cX11_stakesOn 9 = .ok (.if_icmp .ge 27, 3) := by decide +kernel
theorem dX11_stakesOn_12 : decode cX11_stakesOn 12 = .ok (.iload_n 2, 1) := by decide +kernel
theorem dX11_stakesOn_13 : decode cX11_stakesOn 13 = .ok (.aload_n 0, 1) := by decide +kernel
theorem dX11_stakesOn_14 : decode cX11_stakesOn 14 = .ok (.getfield 43, 3) := by decide +kernel
theorem dX11_stakesOn_17 : decode cX11_stakesOn 17 = .ok (.iload_n 3, 1) := by decide +kernel
theorem dX11_stakesOn_18 : decode cX11_stakesOn 18 = .ok (.iaload, 1) := by decide +kernel
theorem dX11_stakesOn_19 : decode cX11_stakesOn 19 = .ok (.iload_n 1, 1) := by decide +kernel
theorem dX11_stakesOn_20 : decode cX11_stakesOn 20 = .ok (.if_icmp .ne 7, 3) := by decide +kernel
theorem dX11_stakesOn_23 : decode cX11_stakesOn 23 = .ok (.iconst 1, 1) := by decide +kernel
theorem dX11_stakesOn_24 : decode cX11_stakesOn 24 = .ok (.goto 4, 3) := by decide +kernel
theorem dX11_stakesOn_27 : decode cX11_stakesOn 27 = .ok (.iconst 0, 1) := by decide +kernel
theorem dX11_stakesOn_28 : decode cX11_stakesOn 28 = .ok (.iadd, 1) := by decide +kernel
theorem dX11_stakesOn_29 : decode cX11_stakesOn 29 = .ok (.istore_n 2, 1) := by decide +kernel
theorem dX11_stakesOn_30 : decode cX11_stakesOn 30 = .ok (.iinc 3 1, 3) := by decide +kernel
theorem dX11_stakesOn_33 : decode cX11_stakesOn 33 = .ok (.goto (-29), 3) := by decide +kernel
theorem dX11_stakesOn_36 : decode cX11_stakesOn 36 = .ok (.iload_n 2, 1) := by decide +kernel
theorem dX11_stakesOn_37 : decode cX11_stakesOn 37 = .ok (.ireturn, 1) := by decide +kernel
set_option maxRecDepth 20000 in
theorem ggX11_explained_X11_isMatch : GoodIn wsX11_explained wsX11_isMatch := goodIn_r _ [5, 6, 7, 8, 4, 9, 36, 37, 38, 39, 40, 41, 42, 43, 44, 45, 46, 47, 48, 49, 50, 51, 52, 53, 54, 55, 56, 57, 58, 59, 60, 61, 62, 63, 64, 65, 66, 67, 68, 69, 70, 71, 72, 73, 74, 75, 76, 77, 78, 79, 80, 81, 82, 83, 84, 85, 86, 87, 88, 89] (by decide +kernel) (by decide +kernel)
set_option maxRecDepth 20000 in
theorem gX11_explained_X11_isMatch : GoodIn wsX11_explained (wsV RX11 153 RX11 yX11_isMatch wsX11_isMatch) := goodIn_app (goodIn_of _ (by decide +kernel)) ggX11_explained_X11_isMatch
set_option maxRecDepth 20000 in
theorem ggX11_explained_X11_in : GoodIn wsX11_explained wsX11_in := goodIn_r _ [9] (by decide +kernel) (by decide +kernel)
set_option maxRecDepth 20000 in
theorem gX11_explained_X11_in : GoodIn wsX11_explained (va_wsS RX11 138 yX11_in wsX11_in) := goodIn_app (goodIn_of _ (by decide +kernel)) ggX11_explained_X11_in
set_option maxRecDepth 20000 in
theorem ggX11_explained_X11_explainedOf : GoodIn wsX11_explained wsX11_explainedOf := goodIn_r _ [13, 14, 15, 16, 17, 18, 19, 20, 21, 22, 23, 24, 25, 4, 26, 27, 28, 29, 30, 31, 36, 37, 38, 39, 40, 41, 42, 43, 44, 45, 46, 47, 48, 49, 50, 51, 52, 53, 54, 55, 56, 57, 58, 59, 60, 61, 62, 63, 64, 65, 66, 67, 68, 69, 70, 71, 72, 73, 74, 75, 76, 77, 78, 79, 80, 81, 82, 83, 84, 85, 86, 87, 88, 89] (by decide +kernel) (by decide +kernel)
set_option maxRecDepth 20000 in
theorem gX11_explained_X11_explainedOf : GoodIn wsX11_explained (wsV RX11 234 RX11 yX11_explainedOf wsX11_explainedOf) := goodIn_app (goodIn_of _ (by decide +kernel)) ggX11_explained_X11_explainedOf
set_option maxRecDepth 20000 in
theorem ggX11_explained_X11_stakesOn : GoodIn wsX11_explained wsX11_stakesOn := goodIn_r _ [35, 16, 22, 36, 37, 38, 39, 40, 41, 42, 43, 44, 45, 46, 47, 48, 49, 50, 51, 52, 53, 54, 55, 56, 57, 58, 59, 60, 61, 62, 63, 64, 65, 66, 67, 68, 69, 70, 71, 72, 73, 74, 75, 76, 77, 78, 79, 80, 81, 82, 83, 84, 85, 86, 87, 88, 89] (by decide +kernel) (by decide +kernel)
set_option maxRecDepth 20000 in
theorem gX11_explained_X11_stakesOn : GoodIn wsX11_explained (wsV RX11 237 RX11 yX11_stakesOn wsX11_stakesOn) := goodIn_app (goodIn_of _ (by decide +kernel)) ggX11_explained_X11_stakesOn
theorem dX11_explained_0 : decode cX11_explained 0 = .ok (.aload_n 0, 1) := by decide +kernel
theorem dX11_explained_1 : decode cX11_explained 1 = .ok (.iload_n 1, 1) := by decide +kernel
theorem dX11_explained_2 : decode cX11_explained 2 = .ok (.invokevirtual 153, 3) := by decide +kernel
theorem dX11_explained_5 : decode cX11_explained 5 = .ok (.ifCond .ne 5, 3) := by decide +kernel
theorem dX11_explained_8 : decode cX11_explained 8 = .ok (.iconst (-1), 1) := by decide +kernel
theorem dX11_explained_9 : decode cX11_explained 9 = .ok (.ireturn, 1) := by decide +kernel
theorem dX11_explained_10 : decode cX11_explained 10 = .ok (.iload_n 2, 1) := by decide +kernel
theorem dX11_explained_11 : decode cX11_explained 11 = .ok (.iconst 0, 1) := by decide +kernel
theorem dX11_explained_12 : decode cX11_explained 12 = .ok (.iconst 1, 1) := by decide +kernel
theorem dX11_explained_13 : decode cX11_explained 13 = .ok (.invokestatic 138, 3) := by decide +kernel
theorem dX11_explained_16 : decode cX11_explained 16 = .ok (.ifCond .ne 6, 3) := by decide +kernel
theorem dX11_explained_19 : decode cX11_explained 19 = .ok (.bipush (-2), 2) := by decide +kernel
theorem dX11_explained_21 : decode cX11_explained 21 = .ok (.ireturn, 1) := by decide +kernel
theorem dX11_explained_22 : decode cX11_explained 22 = .ok (.aload_n 0, 1) := by decide +kernel
theorem dX11_explained_23 : decode cX11_explained 23 = .ok (.iload_n 1, 1) := by decide +kernel
theorem dX11_explained_24 : decode cX11_explained 24 = .ok (.invokevirtual 234, 3) := by decide +kernel
theorem dX11_explained_27 : decode cX11_explained 27 = .ok (.istore_n 3, 1) := by decide +kernel
theorem dX11_explained_28 : decode cX11_explained 28 = .ok (.iload_n 2, 1) := by decide +kernel
theorem dX11_explained_29 : decode cX11_explained 29 = .ok (.ifCond .ne 7, 3) := by decide +kernel
theorem dX11_explained_32 : decode cX11_explained 32 = .ok (.iload_n 3, 1) := by decide +kernel
theorem dX11_explained_33 : decode cX11_explained 33 = .ok (.goto 10, 3) := by decide +kernel
theorem dX11_explained_36 : decode cX11_explained 36 = .ok (.aload_n 0, 1) := by decide +kernel
theorem dX11_explained_37 : decode cX11_explained 37 = .ok (.iload_n 1, 1) := by decide +kernel
theorem dX11_explained_38 : decode cX11_explained 38 = .ok (.invokevirtual 237, 3) := by decide +kernel
theorem dX11_explained_41 : decode cX11_explained 41 = .ok (.iload_n 3, 1) := by decide +kernel
theorem dX11_explained_42 : decode cX11_explained 42 = .ok (.isub, 1) := by decide +kernel
theorem dX11_explained_43 : decode cX11_explained 43 = .ok (.ireturn, 1) := by decide +kernel
set_option maxRecDepth 20000 in
theorem ggX11_moves_X11_isTen : GoodIn wsX11_moves wsX11_isTen := goodIn_r _ [6, 7, 8, 5, 9] (by decide +kernel) (by decide +kernel)
set_option maxRecDepth 20000 in
theorem gX11_moves_X11_isTen : GoodIn wsX11_moves (va_wsS RX11 202 yX11_isTen wsX11_isTen) := goodIn_app (goodIn_of _ (by decide +kernel)) ggX11_moves_X11_isTen
set_option maxRecDepth 20000 in
theorem ggX11_moves_X11_in : GoodIn wsX11_moves wsX11_in := goodIn_r _ [9] (by decide +kernel) (by decide +kernel)
set_option maxRecDepth 20000 in
theorem gX11_moves_X11_in : GoodIn wsX11_moves (va_wsS RX11 138 yX11_in wsX11_in) := goodIn_app (goodIn_of _ (by decide +kernel)) ggX11_moves_X11_in
theorem dX11_moves_0 : decode cX11_moves 0 = .ok (.iload_n 1, 1) := by decide +kernel
theorem dX11_moves_1 : decode cX11_moves 1 = .ok (.invokestatic 202, 3) := by decide +kernel
theorem dX11_moves_4 : decode cX11_moves 4 = .ok (.ifCond .ne 5, 3) := by decide +kernel
theorem dX11_moves_7 : decode cX11_moves 7 = .ok (.iconst (-1), 1) := by decide +kernel
theorem dX11_moves_8 : decode cX11_moves 8 = .ok (.ireturn, 1) := by decide +kernel
theorem dX11_moves_9 : decode cX11_moves 9 = .ok (.iload_n 2, 1) := by decide +kernel
theorem dX11_moves_10 : decode cX11_moves 10 = .ok (.iconst 0, 1) := by decide +kernel
theorem dX11_moves_11 : decode cX11_moves 11 = .ok (.sipush 200, 3) := by decide +kernel
theorem dX11_moves_14 : decode cX11_moves 14 = .ok (.invokestatic 138, 3) := by decide +kernel
theorem dX11_moves_17 : decode cX11_moves 17 = .ok (.ifCond .eq 12, 3) := by decide +kernel
theorem dX11_moves_20 : decode cX11_moves 20 = .ok (.iload_n 3, 1) := by decide +kernel
theorem dX11_moves_21 : decode cX11_moves 21 = .ok (.iconst 0, 1) := by decide +kernel
theorem dX11_moves_22 : decode cX11_moves 22 = .ok (.iload_n 2, 1) := by decide +kernel
theorem dX11_moves_23 : decode cX11_moves 23 = .ok (.invokestatic 138, 3) := by decide +kernel
theorem dX11_moves_26 : decode cX11_moves 26 = .ok (.ifCond .ne 6, 3) := by decide +kernel
theorem dX11_moves_29 : decode cX11_moves 29 = .ok (.bipush (-2), 2) := by decide +kernel
theorem dX11_moves_31 : decode cX11_moves 31 = .ok (.ireturn, 1) := by decide +kernel
theorem dX11_moves_32 : decode cX11_moves 32 = .ok (.aload_n 0, 1) := by decide +kernel
theorem dX11_moves_33 : decode cX11_moves 33 = .ok (.getfield 71, 3) := by decide +kernel
theorem dX11_moves_36 : decode cX11_moves 36 = .ok (.iload_n 1, 1) := by decide +kernel
theorem dX11_moves_37 : decode cX11_moves 37 = .ok (.iload_n 2, 1) := by decide +kernel
theorem dX11_moves_38 : decode cX11_moves 38 = .ok (.iastore, 1) := by decide +kernel
theorem dX11_moves_39 : decode cX11_moves 39 = .ok (.aload_n 0, 1) := by decide +kernel
theorem dX11_moves_40 : decode cX11_moves 40 = .ok (.getfield 74, 3) := by decide +kernel
theorem dX11_moves_43 : decode cX11_moves 43 = .ok (.iload_n 1, 1) := by decide +kernel
theorem dX11_moves_44 : decode cX11_moves 44 = .ok (.iload_n 3, 1) := by decide +kernel
theorem dX11_moves_45 : decode cX11_moves 45 = .ok (.iastore, 1) := by decide +kernel
theorem dX11_moves_46 : decode cX11_moves 46 = .ok (.iconst 1, 1) := by decide +kernel
theorem dX11_moves_47 : decode cX11_moves 47 = .ok (.ireturn, 1) := by decide +kernel
set_option maxRecDepth 20000 in
theorem ggX11_late_X11_isTen : GoodIn wsX11_late wsX11_isTen := goodIn_r _ [10, 11, 12, 9, 13] (by decide +kernel) (by decide +kernel)
set_option maxRecDepth 20000 in
theorem gX11_late_X11_isTen : GoodIn wsX11_late (va_wsS RX11 202 yX11_isTen wsX11_isTen) := goodIn_app (goodIn_of _ (by decide +kernel)) ggX11_late_X11_isTen
set_option maxRecDepth 20000 in
theorem ggX11_late_X11_in : GoodIn wsX11_late wsX11_in := goodIn_r _ [13] (by decide +kernel) (by decide +kernel)
set_option maxRecDepth 20000 in
theorem gX11_late_X11_in : GoodIn wsX11_late (va_wsS RX11 138 yX11_in wsX11_in) := goodIn_app (goodIn_of _ (by decide +kernel)) ggX11_late_X11_in
set_option maxRecDepth 20000 in
theorem ggX11_late_X11_term : GoodIn wsX11_late wsX11_term := goodIn_r _ [16, 17, 18, 9, 19] (by decide +kernel) (by decide +kernel)
set_option maxRecDepth 20000 in
theorem gX11_late_X11_term : GoodIn wsX11_late (va_wsS RX11 185 yX11_term wsX11_term) := goodIn_app (goodIn_of _ (by decide +kernel)) ggX11_late_X11_term
theorem dX11_late_0 : decode cX11_late 0 = .ok (.iload_n 1, 1) := by decide +kernel
theorem dX11_late_1 : decode cX11_late 1 = .ok (.invokestatic 202, 3) := by decide +kernel
theorem dX11_late_4 : decode cX11_late 4 = .ok (.ifCond .ne 7, 3) := by decide +kernel
theorem dX11_late_7 : decode cX11_late 7 = .ok (.ldc2_w 177, 3) := by decide +kernel
theorem dX11_late_10 : decode cX11_late 10 = .ok (.lreturn, 1) := by decide +kernel
theorem dX11_late_11 : decode cX11_late 11 = .ok (.iload_n 2, 1) := by decide +kernel
theorem dX11_late_12 : decode cX11_late 12 = .ok (.iconst 1, 1) := by decide +kernel
theorem dX11_late_13 : decode cX11_late 13 = .ok (.bipush 19, 2) := by decide +kernel
theorem dX11_late_15 : decode cX11_late 15 = .ok (.invokestatic 138, 3) := by decide +kernel
theorem dX11_late_18 : decode cX11_late 18 = .ok (.ifCond .eq 12, 3) := by decide +kernel
theorem dX11_late_21 : decode cX11_late 21 = .ok (.iload_n 3, 1) := by decide +kernel
theorem dX11_late_22 : decode cX11_late 22 = .ok (.iconst 0, 1) := by decide +kernel
theorem dX11_late_23 : decode cX11_late 23 = .ok (.iconst 1, 1) := by decide +kernel
theorem dX11_late_24 : decode cX11_late 24 = .ok (.invokestatic 138, 3) := by decide +kernel
theorem dX11_late_27 : decode cX11_late 27 = .ok (.ifCond .ne 7, 3) := by decide +kernel
theorem dX11_late_30 : decode cX11_late 30 = .ok (.ldc2_w 179, 3) := by decide +kernel
theorem dX11_late_33 : decode cX11_late 33 = .ok (.lreturn, 1) := by decide +kernel
theorem dX11_late_34 : decode cX11_late 34 = .ok (.aload_n 0, 1) := by decide +kernel
theorem dX11_late_35 : decode cX11_late 35 = .ok (.getfield 71, 3) := by decide +kernel
theorem dX11_late_38 : decode cX11_late 38 = .ok (.iload_n 1, 1) := by decide +kernel
theorem dX11_late_39 : decode cX11_late 39 = .ok (.iaload, 1) := by decide +kernel
theorem dX11_late_40 : decode cX11_late 40 = .ok (.ifCond .ne 7, 3) := by decide +kernel
theorem dX11_late_43 : decode cX11_late 43 = .ok (.ldc2_w 240, 3) := by decide +kernel
theorem dX11_late_46 : decode cX11_late 46 = .ok (.lreturn, 1) := by decide +kernel
theorem dX11_late_47 : decode cX11_late 47 = .ok (.aload_n 0, 1) := by decide +kernel
theorem dX11_late_48 : decode cX11_late 48 = .ok (.getfield 71, 3) := by decide +kernel
theorem dX11_late_51 : decode cX11_late 51 = .ok (.iload_n 1, 1) := by decide +kernel
theorem dX11_late_52 : decode cX11_late 52 = .ok (.iaload, 1) := by decide +kernel
theorem dX11_late_53 : decode cX11_late 53 = .ok (.bipush 12, 2) := by decide +kernel
theorem dX11_late_55 : decode cX11_late 55 = .ok (.if_icmp .le 7, 3) := by decide +kernel
theorem dX11_late_58 : decode cX11_late 58 = .ok (.iconst 1, 1) := by decide +kernel
theorem dX11_late_59 : decode cX11_late 59 = .ok (.goto 4, 3) := by decide +kernel
theorem dX11_late_62 : decode cX11_late 62 = .ok (.iconst 0, 1) := by decide +kernel
theorem dX11_late_63 : decode cX11_late 63 = .ok (.istore 4, 2) := by decide +kernel
theorem dX11_late_65 : decode cX11_late 65 = .ok (.iload 4, 2) := by decide +kernel
theorem dX11_late_67 : decode cX11_late 67 = .ok (.ifCond .eq 8, 3) := by decide +kernel
theorem dX11_late_70 : decode cX11_late 70 = .ok (.bipush 12, 2) := by decide +kernel
theorem dX11_late_72 : decode cX11_late 72 = .ok (.goto 9, 3) := by decide +kernel
theorem dX11_late_75 : decode cX11_late 75 = .ok (.aload_n 0, 1) := by decide +kernel
theorem dX11_late_76 : decode cX11_late 76 = .ok (.getfield 71, 3) := by decide +kernel
theorem dX11_late_79 : decode cX11_late 79 = .ok (.iload_n 1, 1) := by decide +kernel
theorem dX11_late_80 : decode cX11_late 80 = .ok (.iaload, 1) := by decide +kernel
theorem dX11_late_81 : decode cX11_late 81 = .ok (.istore 5, 2) := by decide +kernel
theorem dX11_late_83 : decode cX11_late 83 = .ok (.iload 4, 2) := by decide +kernel
theorem dX11_late_85 : decode cX11_late 85 = .ok (.ifCond .eq 22, 3) := by decide +kernel
theorem dX11_late_88 : decode cX11_late 88 = .ok (.aload_n 0, 1) := by decide +kernel
theorem dX11_late_89 : decode cX11_late 89 = .ok (.getfield 74, 3) := by decide +kernel
theorem dX11_late_92 : decode cX11_late 92 = .ok (.iload_n 1, 1) := by decide +kernel
theorem dX11_late_93 : decode cX11_late 93 = .ok (.iaload, 1) := by decide +kernel
theorem dX11_late_94 : decode cX11_late 94 = .ok (.bipush 12, 2) := by decide +kernel
theorem dX11_late_96 : decode cX11_late 96 = .ok (.imul, 1) := by decide +kernel
theorem dX11_late_97 : decode cX11_late 97 = .ok (.aload_n 0, 1) := by decide +kernel
theorem dX11_late_98 : decode cX11_late 98 = .ok (.getfield 71, 3) := by decide +kernel
theorem dX11_late_101 : decode cX11_late 101 = .ok (.iload_n 1, 1) := by decide +kernel
theorem dX11_late_102 : decode cX11_late 102 = .ok (.iaload, 1) := by decide +kernel
theorem dX11_late_103 : decode cX11_late 103 = .ok (.idiv, 1) := by decide +kernel
theorem dX11_late_104 : decode cX11_late 104 = .ok (.goto 9, 3) := by decide +kernel
theorem dX11_late_107 : decode cX11_late 107 = .ok (.aload_n 0, 1) := by decide +kernel
theorem dX11_late_108 : decode cX11_late 108 = .ok (.getfield 74, 3) := by decide +kernel
theorem dX11_late_111 : decode cX11_late 111 = .ok (.iload_n 1, 1) := by decide +kernel
theorem dX11_late_112 : decode cX11_late 112 = .ok (.iaload, 1) := by decide +kernel
theorem dX11_late_113 : decode cX11_late 113 = .ok (.istore 6, 2) := by decide +kernel
theorem dX11_late_115 : decode cX11_late 115 = .ok (.lconst 0, 1) := by decide +kernel
theorem dX11_late_116 : decode cX11_late 116 = .ok (.lstore 7, 2) := by decide +kernel
theorem dX11_late_118 : decode cX11_late 118 = .ok (.lconst 1, 1) := by decide +kernel
theorem dX11_late_119 : decode cX11_late 119 = .ok (.lstore 9, 2) := by decide +kernel
theorem dX11_late_121 : decode cX11_late 121 = .ok (.lconst 1, 1) := by decide +kernel
theorem dX11_late_122 : decode cX11_late 122 = .ok (.lstore 11, 2) := by decide +kernel
theorem dX11_late_124 : decode cX11_late 124 = .ok (.iconst 0, 1) := by decide +kernel
theorem dX11_late_125 : decode cX11_late 125 = .ok (.istore 13, 2) := by decide +kernel
theorem dX11_late_127 : decode cX11_late 127 = .ok (.iload 13, 2) := by decide +kernel
theorem dX11_late_129 : decode cX11_late 129 = .ok (.iload 5, 2) := by decide +kernel
theorem dX11_late_131 : decode cX11_late 131 = .ok (.if_icmp .gt 105, 3) := by decide +kernel
theorem dX11_late_134 : decode cX11_late 134 = .ok (.lload 11, 2) := by decide +kernel
theorem dX11_late_136 : decode cX11_late 136 = .ok (.lstore 14, 2) := by decide +kernel
theorem dX11_late_138 : decode cX11_late 138 = .ok (.iconst 0, 1) := by decide +kernel
theorem dX11_late_139 : decode cX11_late 139 = .ok (.istore 16, 2) := by decide +kernel
theorem dX11_late_141 : decode cX11_late 141 = .ok (.iload 16, 2) := by decide +kernel
theorem dX11_late_143 : decode cX11_late 143 = .ok (.iload 5, 2) := by decide +kernel
theorem dX11_late_145 : decode cX11_late 145 = .ok (.if_icmp .ge 31, 3) := by decide +kernel
theorem dX11_late_148 : decode cX11_late 148 = .ok (.lload 14, 2) := by decide +kernel
theorem dX11_late_150 : decode cX11_late 150 = .ok (.iload 16, 2) := by decide +kernel
theorem dX11_late_152 : decode cX11_late 152 = .ok (.iload 13, 2) := by decide +kernel
theorem dX11_late_154 : decode cX11_late 154 = .ok (.if_icmp .ge 8, 3) := by decide +kernel
theorem dX11_late_157 : decode cX11_late 157 = .ok (.iload_n 2, 1) := by decide +kernel
theorem dX11_late_158 : decode cX11_late 158 = .ok (.i2l, 1) := by decide +kernel
theorem dX11_late_159 : decode cX11_late 159 = .ok (.goto 8, 3) := by decide +kernel
theorem dX11_late_162 : decode cX11_late 162 = .ok (.bipush 20, 2) := by decide +kernel
theorem dX11_late_164 : decode cX11_late 164 = .ok (.iload_n 2, 1) := by decide +kernel
theorem dX11_late_165 : decode cX11_late 165 = .ok (.isub, 1) := by decide +kernel
theorem dX11_late_166 : decode cX11_late 166 = .ok (.i2l, 1) := by decide +kernel
theorem dX11_late_167 : decode cX11_late 167 = .ok (.lmul, 1) := by decide +kernel
theorem dX11_late_168 : decode cX11_late 168 = .ok (.lstore 14, 2) := by decide +kernel
theorem dX11_late_170 : decode cX11_late 170 = .ok (.iinc 16 1, 3) := by decide +kernel
theorem dX11_late_173 : decode cX11_late 173 = .ok (.goto (-32), 3) := by decide +kernel
theorem dX11_late_176 : decode cX11_late 176 = .ok (.lload 7, 2) := by decide +kernel
theorem dX11_late_178 : decode cX11_late 178 = .ok (.iload 13, 2) := by decide +kernel
theorem dX11_late_180 : decode cX11_late 180 = .ok (.iload 6, 2) := by decide +kernel
theorem dX11_late_182 : decode cX11_late 182 = .ok (.if_icmp .lt 8, 3) := by decide +kernel
theorem dX11_late_185 : decode cX11_late 185 = .ok (.lload 14, 2) := by decide +kernel
theorem dX11_late_187 : decode cX11_late 187 = .ok (.goto 4, 3) := by decide +kernel
theorem dX11_late_190 : decode cX11_late 190 = .ok (.lconst 0, 1) := by decide +kernel
theorem dX11_late_191 : decode cX11_late 191 = .ok (.ladd, 1) := by decide +kernel
theorem dX11_late_192 : decode cX11_late 192 = .ok (.lstore 7, 2) := by decide +kernel
theorem dX11_late_194 : decode cX11_late 194 = .ok (.lload 11, 2) := by decide +kernel
theorem dX11_late_196 : decode cX11_late 196 = .ok (.iload 5, 2) := by decide +kernel
theorem dX11_late_198 : decode cX11_late 198 = .ok (.iload 13, 2) := by decide +kernel
theorem dX11_late_200 : decode cX11_late 200 = .ok (.isub, 1) := by decide +kernel
theorem dX11_late_201 : decode cX11_late 201 = .ok (.i2l, 1) := by decide +kernel
theorem dX11_late_202 : decode cX11_late 202 = .ok (.lmul, 1) := by decide +kernel
theorem dX11_late_203 : decode cX11_late 203 = .ok (.iload 13, 2) := by decide +kernel
theorem dX11_late_205 : decode cX11_late 205 = .ok (.iconst 1, 1) := by decide +kernel
theorem dX11_late_206 : decode cX11_late 206 = .ok (.iadd, 1) := by decide +kernel
theorem dX11_late_207 : decode cX11_late 207 = .ok (.i2l, 1) := by decide +kernel
theorem dX11_late_208 : decode cX11_late 208 = .ok (.ldiv, 1) := by decide +kernel
theorem dX11_late_209 : decode cX11_late 209 = .ok (.lstore 11, 2) := by decide +kernel
theorem dX11_late_211 : decode cX11_late 211 = .ok (.lload 9, 2) := by decide +kernel
theorem dX11_late_213 : decode cX11_late 213 = .ok (.iload 13, 2) := by decide +kernel
theorem dX11_late_215 : decode cX11_late 215 = .ok (.iload 5, 2) := by decide +kernel
theorem dX11_late_217 : decode cX11_late 217 = .ok (.if_icmp .ge 9, 3) := by decide +kernel
theorem dX11_late_220 : decode cX11_late 220 = .ok (.ldc2_w 242, 3) := by decide +kernel
theorem dX11_late_223 : decode cX11_late 223 = .ok (.goto 4, 3) := by decide +kernel
theorem dX11_late_226 : decode cX11_late 226 = .ok (.lconst 1, 1) := by decide +kernel
theorem dX11_late_227 : decode cX11_late 227 = .ok (.lmul, 1) := by decide +kernel
theorem dX11_late_228 : decode cX11_late 228 = .ok (.lstore 9, 2) := by decide +kernel
theorem dX11_late_230 : decode cX11_late 230 = .ok (.iinc 13 1, 3) := by decide +kernel
theorem dX11_late_233 : decode cX11_late 233 = .ok (.goto (-106), 3) := by decide +kernel
theorem dX11_late_236 : decode cX11_late 236 = .ok (.lload 7, 2) := by decide +kernel
theorem dX11_late_238 : decode cX11_late 238 = .ok (.lload 9, 2) := by decide +kernel
theorem dX11_late_240 : decode cX11_late 240 = .ok (.iload_n 3, 1) := by decide +kernel
theorem dX11_late_241 : decode cX11_late 241 = .ok (.invokestatic 185, 3) := by decide +kernel
theorem dX11_late_244 : decode cX11_late 244 = .ok (.lreturn, 1) := by decide +kernel
set_option maxRecDepth 20000 in
theorem ggX11_debts_X11_isTen : GoodIn wsX11_debts wsX11_isTen := goodIn_r _ [5, 6, 7, 4, 8] (by decide +kernel) (by decide +kernel)
set_option maxRecDepth 20000 in
theorem gX11_debts_X11_isTen : GoodIn wsX11_debts (va_wsS RX11 202 yX11_isTen wsX11_isTen) := goodIn_app (goodIn_of _ (by decide +kernel)) ggX11_debts_X11_isTen
set_option maxRecDepth 20000 in
theorem ggX11_debts_X11_in : GoodIn wsX11_debts wsX11_in := goodIn_r _ [8] (by decide +kernel) (by decide +kernel)
set_option maxRecDepth 20000 in
theorem gX11_debts_X11_in : GoodIn wsX11_debts (va_wsS RX11 138 yX11_in wsX11_in) := goodIn_app (goodIn_of _ (by decide +kernel)) ggX11_debts_X11_in
theorem dX11_debts_0 : decode cX11_debts 0 = .ok (.iload_n 1, 1) := by decide +kernel
theorem dX11_debts_1 : decode cX11_debts 1 = .ok (.invokestatic 202, 3) := by decide +kernel
theorem dX11_debts_4 : decode cX11_debts 4 = .ok (.ifCond .ne 5, 3) := by decide +kernel
theorem dX11_debts_7 : decode cX11_debts 7 = .ok (.iconst (-1), 1) := by decide +kernel
theorem dX11_debts_8 : decode cX11_debts 8 = .ok (.ireturn, 1) := by decide +kernel
theorem dX11_debts_9 : decode cX11_debts 9 = .ok (.iload_n 2, 1) := by decide +kernel
theorem dX11_debts_10 : decode cX11_debts 10 = .ok (.iconst 0, 1) := by decide +kernel
theorem dX11_debts_11 : decode cX11_debts 11 = .ok (.sipush 1000, 3) := by decide +kernel
theorem dX11_debts_14 : decode cX11_debts 14 = .ok (.invokestatic 138, 3) := by decide +kernel
theorem dX11_debts_17 : decode cX11_debts 17 = .ok (.ifCond .ne 6, 3) := by decide +kernel
theorem dX11_debts_20 : decode cX11_debts 20 = .ok (.bipush (-2), 2) := by decide +kernel
theorem dX11_debts_22 : decode cX11_debts 22 = .ok (.ireturn, 1) := by decide +kernel
theorem dX11_debts_23 : decode cX11_debts 23 = .ok (.aload_n 0, 1) := by decide +kernel
theorem dX11_debts_24 : decode cX11_debts 24 = .ok (.getfield 77, 3) := by decide +kernel
theorem dX11_debts_27 : decode cX11_debts 27 = .ok (.iload_n 1, 1) := by decide +kernel
theorem dX11_debts_28 : decode cX11_debts 28 = .ok (.iaload, 1) := by decide +kernel
theorem dX11_debts_29 : decode cX11_debts 29 = .ok (.istore_n 3, 1) := by decide +kernel
theorem dX11_debts_30 : decode cX11_debts 30 = .ok (.aload_n 0, 1) := by decide +kernel
theorem dX11_debts_31 : decode cX11_debts 31 = .ok (.getfield 77, 3) := by decide +kernel
theorem dX11_debts_34 : decode cX11_debts 34 = .ok (.iload_n 1, 1) := by decide +kernel
theorem dX11_debts_35 : decode cX11_debts 35 = .ok (.iload_n 2, 1) := by decide +kernel
theorem dX11_debts_36 : decode cX11_debts 36 = .ok (.iastore, 1) := by decide +kernel
theorem dX11_debts_37 : decode cX11_debts 37 = .ok (.iload_n 3, 1) := by decide +kernel
theorem dX11_debts_38 : decode cX11_debts 38 = .ok (.ireturn, 1) := by decide +kernel
set_option maxRecDepth 20000 in
theorem ggX11_act_X11_isMatch : GoodIn wsX11_act wsX11_isMatch := goodIn_r _ [8, 9, 10, 11, 7, 12, 13, 14, 15, 16, 17, 18, 19, 20, 21, 22, 23, 24, 25, 26, 27, 28, 29, 30, 31, 32, 33, 34, 35, 36, 37, 38, 39, 40, 41, 42, 43, 44, 45, 46, 47, 48, 49, 50, 51, 52, 53, 54, 55, 56, 57, 58, 59, 60, 61, 62, 63, 64, 65, 66] (by decide +kernel) (by decide +kernel)
set_option maxRecDepth 20000 in
theorem gX11_act_X11_isMatch : GoodIn wsX11_act (wsV RX11 153 RX11 yX11_isMatch wsX11_isMatch) := goodIn_app (goodIn_of _ (by decide +kernel)) ggX11_act_X11_isMatch
set_option maxRecDepth 20000 in
theorem ggX11_act_X11_in : GoodIn wsX11_act wsX11_in := goodIn_r _ [12] (by decide +kernel) (by decide +kernel)
set_option maxRecDepth 20000 in
theorem gX11_act_X11_in : GoodIn wsX11_act (va_wsS RX11 138 yX11_in wsX11_in) := goodIn_app (goodIn_of _ (by decide +kernel)) ggX11_act_X11_in
theorem dX11_act_0 : decode cX11_act 0 = .ok (.aload_n 0, 1) := by decide +kernel
theorem dX11_act_1 : decode cX11_act 1 = .ok (.iload_n 1, 1) := by decide +kernel
theorem dX11_act_2 : decode cX11_act 2 = .ok (.invokevirtual 153, 3) := by decide +kernel
theorem dX11_act_5 : decode cX11_act 5 = .ok (.ifCond .ne 5, 3) := by decide +kernel
theorem dX11_act_8 : decode cX11_act 8 = .ok (.iconst (-1), 1) := by decide +kernel
theorem dX11_act_9 : decode cX11_act 9 = .ok (.ireturn, 1) := by decide +kernel
theorem dX11_act_10 : decode cX11_act 10 = .ok (.iload_n 2, 1) := by decide +kernel
theorem dX11_act_11 : decode cX11_act 11 = .ok (.iconst 1, 1) := by decide +kernel
theorem dX11_act_12 : decode cX11_act 12 = .ok (.sipush 1023, 3) := by decide +kernel
theorem dX11_act_15 : decode cX11_act 15 = .ok (.invokestatic 138, 3) := by decide +kernel
theorem dX11_act_18 : decode cX11_act 18 = .ok (.ifCond .ne 6, 3) := by decide +kernel
theorem dX11_act_21 : decode cX11_act 21 = .ok (.bipush (-2), 2) := by decide +kernel
theorem dX11_act_23 : decode cX11_act 23 = .ok (.ireturn, 1) := by decide +kernel
theorem dX11_act_24 : decode cX11_act 24 = .ok (.aload_n 0, 1) := by decide +kernel
theorem dX11_act_25 : decode cX11_act 25 = .ok (.getfield 244, 3) := by decide +kernel
theorem dX11_act_28 : decode cX11_act 28 = .ok (.bipush 12, 2) := by decide +kernel
theorem dX11_act_30 : decode cX11_act 30 = .ok (.if_icmp .ne 6, 3) := by decide +kernel
theorem dX11_act_33 : decode cX11_act 33 = .ok (.bipush (-4), 2) := by decide +kernel
theorem dX11_act_35 : decode cX11_act 35 = .ok (.ireturn, 1) := by decide +kernel
theorem dX11_act_36 : decode cX11_act 36 = .ok (.aload_n 0, 1) := by decide +kernel
theorem dX11_act_37 : decode cX11_act 37 = .ok (.getfield 80, 3) := by decide +kernel
theorem dX11_act_40 : decode cX11_act 40 = .ok (.aload_n 0, 1) := by decide +kernel
theorem dX11_act_41 : decode cX11_act 41 = .ok (.getfield 244, 3) := by decide +kernel
theorem dX11_act_44 : decode cX11_act 44 = .ok (.iload_n 1, 1) := by decide +kernel
theorem dX11_act_45 : decode cX11_act 45 = .ok (.iastore, 1) := by decide +kernel
theorem dX11_act_46 : decode cX11_act 46 = .ok (.aload_n 0, 1) := by decide +kernel
theorem dX11_act_47 : decode cX11_act 47 = .ok (.getfield 83, 3) := by decide +kernel
theorem dX11_act_50 : decode cX11_act 50 = .ok (.aload_n 0, 1) := by decide +kernel
theorem dX11_act_51 : decode cX11_act 51 = .ok (.getfield 244, 3) := by decide +kernel
theorem dX11_act_54 : decode cX11_act 54 = .ok (.iload_n 2, 1) := by decide +kernel
theorem dX11_act_55 : decode cX11_act 55 = .ok (.iastore, 1) := by decide +kernel
theorem dX11_act_56 : decode cX11_act 56 = .ok (.aload_n 0, 1) := by decide +kernel
theorem dX11_act_57 : decode cX11_act 57 = .ok (.dup, 1) := by decide +kernel
theorem dX11_act_58 : decode cX11_act 58 = .ok (.getfield 244, 3) := by decide +kernel
theorem dX11_act_61 : decode cX11_act 61 = .ok (.iconst 1, 1) := by decide +kernel
theorem dX11_act_62 : decode cX11_act 62 = .ok (.iadd, 1) := by decide +kernel
theorem dX11_act_63 : decode cX11_act 63 = .ok (.putfield 244, 3) := by decide +kernel
theorem dX11_act_66 : decode cX11_act 66 = .ok (.aload_n 0, 1) := by decide +kernel
theorem dX11_act_67 : decode cX11_act 67 = .ok (.getfield 244, 3) := by decide +kernel
theorem dX11_act_70 : decode cX11_act 70 = .ok (.iconst 1, 1) := by decide +kernel
theorem dX11_act_71 : decode cX11_act 71 = .ok (.isub, 1) := by decide +kernel
theorem dX11_act_72 : decode cX11_act 72 = .ok (.ireturn, 1) := by decide +kernel
theorem dX11_bits_0 : decode cX11_bits 0 = .ok (.iconst 0, 1) := by decide +kernel
theorem dX11_bits_1 : decode cX11_bits 1 = .ok (.istore_n 1, 1) := by decide +kernel
theorem dX11_bits_2 : decode cX11_bits 2 = .ok (.iconst 0, 1) := by decide +kernel
theorem dX11_bits_3 : decode cX11_bits 3 = .ok (.istore_n 2, 1) := by decide +kernel
theorem dX11_bits_4 : decode cX11_bits 4 = .ok (.iload_n 2, 1) := by decide +kernel
theorem dX11_bits_5 : decode cX11_bits 5 = .ok (.bipush 12, 2) := by decide +kernel
theorem dX11_bits_7 : decode cX11_bits 7 = .ok (.if_icmp .ge 17, 3) := by decide +kernel
theorem dX11_bits_10 : decode cX11_bits 10 = .ok (.iload_n 1, 1) := by decide +kernel
theorem dX11_bits_11 : decode cX11_bits 11 = .ok (.iload_n 0, 1) := by decide +kernel
theorem dX11_bits_12 : decode cX11_bits 12 = .ok (.iload_n 2, 1) := by decide +kernel
theorem dX11_bits_13 : decode cX11_bits 13 = .ok (.ishr, 1) := by decide +kernel
theorem dX11_bits_14 : decode cX11_bits 14 = .ok (.iconst 1, 1) := by decide +kernel
theorem dX11_bits_15 : decode cX11_bits 15 = .ok (.iand, 1) := by decide +kernel
theorem dX11_bits_16 : decode cX11_bits 16 = .ok (.iadd, 1) := by decide +kernel
theorem dX11_bits_17 : decode cX11_bits 17 = .ok (.istore_n 1, 1) := by decide +kernel
theorem dX11_bits_18 : decode cX11_bits 18 = .ok (.iinc 2 1, 3) := by decide +kernel
theorem dX11_bits_21 : decode cX11_bits 21 = .ok (.goto (-17), 3) := by decide +kernel
theorem dX11_bits_24 : decode cX11_bits 24 = .ok (.iload_n 1, 1) := by decide +kernel
theorem dX11_bits_25 : decode cX11_bits 25 = .ok (.ireturn, 1) := by decide +kernel
theorem dX11_priceOf_0 : decode cX11_priceOf 0 = .ok (.iconst 0, 1) := by decide +kernel
theorem dX11_priceOf_1 : decode cX11_priceOf 1 = .ok (.istore_n 2, 1) := by decide +kernel
theorem dX11_priceOf_2 : decode cX11_priceOf 2 = .ok (.iconst 0, 1) := by decide +kernel
theorem dX11_priceOf_3 : decode cX11_priceOf 3 = .ok (.istore_n 3, 1) := by decide +kernel
theorem dX11_priceOf_4 : decode cX11_priceOf 4 = .ok (.iload_n 3, 1) := by decide +kernel
theorem dX11_priceOf_5 : decode cX11_priceOf 5 = .ok (.bipush 10, 2) := by decide +kernel
theorem dX11_priceOf_7 : decode cX11_priceOf 7 = .ok (.if_icmp .ge 28, 3) := by decide +kernel
theorem dX11_priceOf_10 : decode cX11_priceOf 10 = .ok (.iload_n 2, 1) := by decide +kernel
theorem dX11_priceOf_11 : decode cX11_priceOf 11 = .ok (.iload_n 1, 1) := by decide +kernel
theorem dX11_priceOf_12 : decode cX11_priceOf 12 = .ok (.iload_n 3, 1) := by decide +kernel
theorem dX11_priceOf_13 : decode cX11_priceOf 13 = .ok (.ishr, 1) := by decide +kernel
theorem dX11_priceOf_14 : decode cX11_priceOf 14 = .ok (.iconst 1, 1) := by decide +kernel
theorem dX11_priceOf_15 : decode cX11_priceOf 15 = .ok (.iand, 1) := by decide +kernel
theorem dX11_priceOf_16 : decode cX11_priceOf 16 = .ok (.sipush 1000, 3) := by decide +kernel
theorem dX11_priceOf_19 : decode cX11_priceOf 19 = .ok (.aload_n 0, 1) := by decide +kernel
theorem dX11_priceOf_20 : decode cX11_priceOf 20 = .ok (.getfield 77, 3) := by decide +kernel
theorem dX11_priceOf_23 : decode cX11_priceOf 23 = .ok (.iload_n 3, 1) := by decide +kernel
theorem dX11_priceOf_24 : decode cX11_priceOf 24 = .ok (.iaload, 1) := by decide +kernel
theorem dX11_priceOf_25 : decode cX11_priceOf 25 = .ok (.isub, 1) := by decide +kernel
theorem dX11_priceOf_26 : decode cX11_priceOf 26 = .ok (.imul, 1) := by decide +kernel
theorem dX11_priceOf_27 : decode cX11_priceOf 27 = .ok (.iadd, 1) := by decide +kernel
theorem dX11_priceOf_28 : decode cX11_priceOf 28 = .ok (.istore_n 2, 1) := by decide +kernel
theorem dX11_priceOf_29 : decode cX11_priceOf 29 = .ok (.iinc 3 1, 3) := by decide +kernel
theorem dX11_priceOf_32 : decode cX11_priceOf 32 = .ok (.goto (-28), 3) := by decide +kernel
theorem dX11_priceOf_35 : decode cX11_priceOf 35 = .ok (.iload_n 2, 1) := by decide +kernel
theorem dX11_priceOf_36 : decode cX11_priceOf 36 = .ok (.ireturn, 1) := by decide +kernel
set_option maxRecDepth 20000 in
theorem ggX11_neededOf_X11_bits : GoodIn wsX11_neededOf wsX11_bits := goodIn_r _ [7] (by decide +kernel) (by decide +kernel)
set_option maxRecDepth 20000 in
theorem gX11_neededOf_X11_bits : GoodIn wsX11_neededOf (va_wsS RX11 247 yX11_bits wsX11_bits) := goodIn_app (goodIn_of _ (by decide +kernel)) ggX11_neededOf_X11_bits
