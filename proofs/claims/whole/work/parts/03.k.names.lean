theorem dX9_figure_125 : decode cX9_figure 125 = .ok (.iaload, 1) := by decide +kernel
theorem dX9_figure_126 : decode cX9_figure 126 = .ok (.aload_n 0, 1) := by decide +kernel
theorem dX9_figure_127 : decode cX9_figure 127 = .ok (.getfield 23, 3) := by decide +kernel
theorem dX9_figure_130 : decode cX9_figure 130 = .ok (.iconst 1, 1) := by decide +kernel
theorem dX9_figure_131 : decode cX9_figure 131 = .ok (.iaload, 1) := by decide +kernel
theorem dX9_figure_132 : decode cX9_figure 132 = .ok (.imul, 1) := by decide +kernel
theorem dX9_figure_133 : decode cX9_figure 133 = .ok (.isub, 1) := by decide +kernel
theorem dX9_figure_134 : decode cX9_figure 134 = .ok (.aload_n 0, 1) := by decide +kernel
theorem dX9_figure_135 : decode cX9_figure 135 = .ok (.getfield 26, 3) := by decide +kernel
theorem dX9_figure_138 : decode cX9_figure 138 = .ok (.iconst 1, 1) := by decide +kernel
theorem dX9_figure_139 : decode cX9_figure 139 = .ok (.iaload, 1) := by decide +kernel
theorem dX9_figure_140 : decode cX9_figure 140 = .ok (.aload_n 0, 1) := by decide +kernel
theorem dX9_figure_141 : decode cX9_figure 141 = .ok (.getfield 26, 3) := by decide +kernel
theorem dX9_figure_144 : decode cX9_figure 144 = .ok (.iconst 1, 1) := by decide +kernel
theorem dX9_figure_145 : decode cX9_figure 145 = .ok (.iaload, 1) := by decide +kernel
theorem dX9_figure_146 : decode cX9_figure 146 = .ok (.imul, 1) := by decide +kernel
theorem dX9_figure_147 : decode cX9_figure 147 = .ok (.isub, 1) := by decide +kernel
theorem dX9_figure_148 : decode cX9_figure 148 = .ok (.invokevirtual 77, 3) := by decide +kernel
theorem dX9_figure_151 : decode cX9_figure 151 = .ok (.pop, 1) := by decide +kernel
theorem dX9_figure_152 : decode cX9_figure 152 = .ok (.aload_n 0, 1) := by decide +kernel
theorem dX9_figure_153 : decode cX9_figure 153 = .ok (.getfield 20, 3) := by decide +kernel
theorem dX9_figure_156 : decode cX9_figure 156 = .ok (.iconst 0, 1) := by decide +kernel
theorem dX9_figure_157 : decode cX9_figure 157 = .ok (.iaload, 1) := by decide +kernel
theorem dX9_figure_158 : decode cX9_figure 158 = .ok (.istore_n 2, 1) := by decide +kernel
theorem dX9_figure_159 : decode cX9_figure 159 = .ok (.aload_n 0, 1) := by decide +kernel
theorem dX9_figure_160 : decode cX9_figure 160 = .ok (.getfield 20, 3) := by decide +kernel
theorem dX9_figure_163 : decode cX9_figure 163 = .ok (.iconst 1, 1) := by decide +kernel
theorem dX9_figure_164 : decode cX9_figure 164 = .ok (.iaload, 1) := by decide +kernel
theorem dX9_figure_165 : decode cX9_figure 165 = .ok (.istore_n 3, 1) := by decide +kernel
theorem dX9_figure_166 : decode cX9_figure 166 = .ok (.aload_n 0, 1) := by decide +kernel
theorem dX9_figure_167 : decode cX9_figure 167 = .ok (.getfield 20, 3) := by decide +kernel
theorem dX9_figure_170 : decode cX9_figure 170 = .ok (.iconst 2, 1) := by decide +kernel
theorem dX9_figure_171 : decode cX9_figure 171 = .ok (.iaload, 1) := by decide +kernel
theorem dX9_figure_172 : decode cX9_figure 172 = .ok (.istore 4, 2) := by decide +kernel
theorem dX9_figure_174 : decode cX9_figure 174 = .ok (.aload_n 0, 1) := by decide +kernel
theorem dX9_figure_175 : decode cX9_figure 175 = .ok (.iconst 2, 1) := by decide +kernel
theorem dX9_figure_176 : decode cX9_figure 176 = .ok (.aload_n 0, 1) := by decide +kernel
theorem dX9_figure_177 : decode cX9_figure 177 = .ok (.getfield 23, 3) := by decide +kernel
theorem dX9_figure_180 : decode cX9_figure 180 = .ok (.iconst 2, 1) := by decide +kernel
theorem dX9_figure_181 : decode cX9_figure 181 = .ok (.iaload, 1) := by decide +kernel
theorem dX9_figure_182 : decode cX9_figure 182 = .ok (.aload_n 0, 1) := by decide +kernel
theorem dX9_figure_183 : decode cX9_figure 183 = .ok (.getfield 23, 3) := by decide +kernel
theorem dX9_figure_186 : decode cX9_figure 186 = .ok (.iconst 0, 1) := by decide +kernel
theorem dX9_figure_187 : decode cX9_figure 187 = .ok (.iaload, 1) := by decide +kernel
theorem dX9_figure_188 : decode cX9_figure 188 = .ok (.isub, 1) := by decide +kernel
theorem dX9_figure_189 : decode cX9_figure 189 = .ok (.imul, 1) := by decide +kernel
theorem dX9_figure_190 : decode cX9_figure 190 = .ok (.iconst 2, 1) := by decide +kernel
theorem dX9_figure_191 : decode cX9_figure 191 = .ok (.aload_n 0, 1) := by decide +kernel
theorem dX9_figure_192 : decode cX9_figure 192 = .ok (.getfield 26, 3) := by decide +kernel
theorem dX9_figure_195 : decode cX9_figure 195 = .ok (.iconst 2, 1) := by decide +kernel
theorem dX9_figure_196 : decode cX9_figure 196 = .ok (.iaload, 1) := by decide +kernel
theorem dX9_figure_197 : decode cX9_figure 197 = .ok (.aload_n 0, 1) := by decide +kernel
theorem dX9_figure_198 : decode cX9_figure 198 = .ok (.getfield 26, 3) := by decide +kernel
theorem dX9_figure_201 : decode cX9_figure 201 = .ok (.iconst 0, 1) := by decide +kernel
theorem dX9_figure_202 : decode cX9_figure 202 = .ok (.iaload, 1) := by decide +kernel
theorem dX9_figure_203 : decode cX9_figure 203 = .ok (.isub, 1) := by decide +kernel
theorem dX9_figure_204 : decode cX9_figure 204 = .ok (.imul, 1) := by decide +kernel
theorem dX9_figure_205 : decode cX9_figure 205 = .ok (.aload_n 0, 1) := by decide +kernel
theorem dX9_figure_206 : decode cX9_figure 206 = .ok (.getfield 23, 3) := by decide +kernel
theorem dX9_figure_209 : decode cX9_figure 209 = .ok (.iconst 0, 1) := by decide +kernel
theorem dX9_figure_210 : decode cX9_figure 210 = .ok (.iaload, 1) := by decide +kernel
theorem dX9_figure_211 : decode cX9_figure 211 = .ok (.aload_n 0, 1) := by decide +kernel
theorem dX9_figure_212 : decode cX9_figure 212 = .ok (.getfield 23, 3) := by decide +kernel
theorem dX9_figure_215 : decode cX9_figure 215 = .ok (.iconst 0, 1) := by decide +kernel
theorem dX9_figure_216 : decode cX9_figure 216 = .ok (.iaload, 1) := by decide +kernel
theorem dX9_figure_217 : decode cX9_figure 217 = .ok (.imul, 1) := by decide +kernel
theorem dX9_figure_218 : decode cX9_figure 218 = .ok (.aload_n 0, 1) := by decide +kernel
theorem dX9_figure_219 : decode cX9_figure 219 = .ok (.getfield 26, 3) := by decide +kernel
theorem dX9_figure_222 : decode cX9_figure 222 = .ok (.iconst 0, 1) := by decide +kernel
theorem dX9_figure_223 : decode cX9_figure 223 = .ok (.iaload, 1) := by decide +kernel
theorem dX9_figure_224 : decode cX9_figure 224 = .ok (.aload_n 0, 1) := by decide +kernel
theorem dX9_figure_225 : decode cX9_figure 225 = .ok (.getfield 26, 3) := by decide +kernel
theorem dX9_figure_228 : decode cX9_figure 228 = .ok (.iconst 0, 1) := by decide +kernel
theorem dX9_figure_229 : decode cX9_figure 229 = .ok (.iaload, 1) := by decide +kernel
theorem dX9_figure_230 : decode cX9_figure 230 = .ok (.imul, 1) := by decide +kernel
theorem dX9_figure_231 : decode cX9_figure 231 = .ok (.iadd, 1) := by decide +kernel
theorem dX9_figure_232 : decode cX9_figure 232 = .ok (.aload_n 0, 1) := by decide +kernel
theorem dX9_figure_233 : decode cX9_figure 233 = .ok (.getfield 23, 3) := by decide +kernel
theorem dX9_figure_236 : decode cX9_figure 236 = .ok (.iconst 2, 1) := by decide +kernel
theorem dX9_figure_237 : decode cX9_figure 237 = .ok (.iaload, 1) := by decide +kernel
theorem dX9_figure_238 : decode cX9_figure 238 = .ok (.aload_n 0, 1) := by decide +kernel
theorem dX9_figure_239 : decode cX9_figure 239 = .ok (.getfield 23, 3) := by decide +kernel
theorem dX9_figure_242 : decode cX9_figure 242 = .ok (.iconst 2, 1) := by decide +kernel
theorem dX9_figure_243 : decode cX9_figure 243 = .ok (.iaload, 1) := by decide +kernel
theorem dX9_figure_244 : decode cX9_figure 244 = .ok (.imul, 1) := by decide +kernel
theorem dX9_figure_245 : decode cX9_figure 245 = .ok (.isub, 1) := by decide +kernel
theorem dX9_figure_246 : decode cX9_figure 246 = .ok (.aload_n 0, 1) := by decide +kernel
theorem dX9_figure_247 : decode cX9_figure 247 = .ok (.getfield 26, 3) := by decide +kernel
theorem dX9_figure_250 : decode cX9_figure 250 = .ok (.iconst 2, 1) := by decide +kernel
theorem dX9_figure_251 : decode cX9_figure 251 = .ok (.iaload, 1) := by decide +kernel
theorem dX9_figure_252 : decode cX9_figure 252 = .ok (.aload_n 0, 1) := by decide +kernel
theorem dX9_figure_253 : decode cX9_figure 253 = .ok (.getfield 26, 3) := by decide +kernel
theorem dX9_figure_256 : decode cX9_figure 256 = .ok (.iconst 2, 1) := by decide +kernel
theorem dX9_figure_257 : decode cX9_figure 257 = .ok (.iaload, 1) := by decide +kernel
theorem dX9_figure_258 : decode cX9_figure 258 = .ok (.imul, 1) := by decide +kernel
theorem dX9_figure_259 : decode cX9_figure 259 = .ok (.isub, 1) := by decide +kernel
theorem dX9_figure_260 : decode cX9_figure 260 = .ok (.invokevirtual 77, 3) := by decide +kernel
theorem dX9_figure_263 : decode cX9_figure 263 = .ok (.pop, 1) := by decide +kernel
theorem dX9_figure_264 : decode cX9_figure 264 = .ok (.aload_n 0, 1) := by decide +kernel
theorem dX9_figure_265 : decode cX9_figure 265 = .ok (.iload_n 2, 1) := by decide +kernel
theorem dX9_figure_266 : decode cX9_figure 266 = .ok (.iload_n 3, 1) := by decide +kernel
theorem dX9_figure_267 : decode cX9_figure 267 = .ok (.iload 4, 2) := by decide +kernel
theorem dX9_figure_269 : decode cX9_figure 269 = .ok (.aload_n 0, 1) := by decide +kernel
theorem dX9_figure_270 : decode cX9_figure 270 = .ok (.getfield 20, 3) := by decide +kernel
theorem dX9_figure_273 : decode cX9_figure 273 = .ok (.iconst 0, 1) := by decide +kernel
theorem dX9_figure_274 : decode cX9_figure 274 = .ok (.iaload, 1) := by decide +kernel
theorem dX9_figure_275 : decode cX9_figure 275 = .ok (.aload_n 0, 1) := by decide +kernel
theorem dX9_figure_276 : decode cX9_figure 276 = .ok (.getfield 20, 3) := by decide +kernel
theorem dX9_figure_279 : decode cX9_figure 279 = .ok (.iconst 1, 1) := by decide +kernel
theorem dX9_figure_280 : decode cX9_figure 280 = .ok (.iaload, 1) := by decide +kernel
theorem dX9_figure_281 : decode cX9_figure 281 = .ok (.aload_n 0, 1) := by decide +kernel
theorem dX9_figure_282 : decode cX9_figure 282 = .ok (.getfield 20, 3) := by decide +kernel
theorem dX9_figure_285 : decode cX9_figure 285 = .ok (.iconst 2, 1) := by decide +kernel
theorem dX9_figure_286 : decode cX9_figure 286 = .ok (.iaload, 1) := by decide +kernel
theorem dX9_figure_287 : decode cX9_figure 287 = .ok (.invokevirtual 91, 3) := by decide +kernel
theorem dX9_figure_290 : decode cX9_figure 290 = .ok (.pop, 1) := by decide +kernel
theorem dX9_figure_291 : decode cX9_figure 291 = .ok (.aload_n 0, 1) := by decide +kernel
theorem dX9_figure_292 : decode cX9_figure 292 = .ok (.aload_n 0, 1) := by decide +kernel
theorem dX9_figure_293 : decode cX9_figure 293 = .ok (.getfield 20, 3) := by decide +kernel
theorem dX9_figure_296 : decode cX9_figure 296 = .ok (.iconst 0, 1) := by decide +kernel
theorem dX9_figure_297 : decode cX9_figure 297 = .ok (.iaload, 1) := by decide +kernel
theorem dX9_figure_298 : decode cX9_figure 298 = .ok (.aload_n 0, 1) := by decide +kernel
theorem dX9_figure_299 : decode cX9_figure 299 = .ok (.getfield 20, 3) := by decide +kernel
theorem dX9_figure_302 : decode cX9_figure 302 = .ok (.iconst 1, 1) := by decide +kernel
theorem dX9_figure_303 : decode cX9_figure 303 = .ok (.iaload, 1) := by decide +kernel
theorem dX9_figure_304 : decode cX9_figure 304 = .ok (.aload_n 0, 1) := by decide +kernel
theorem dX9_figure_305 : decode cX9_figure 305 = .ok (.getfield 23, 3) := by decide +kernel
theorem dX9_figure_308 : decode cX9_figure 308 = .ok (.iconst 0, 1) := by decide +kernel
theorem dX9_figure_309 : decode cX9_figure 309 = .ok (.iaload, 1) := by decide +kernel
theorem dX9_figure_310 : decode cX9_figure 310 = .ok (.aload_n 0, 1) := by decide +kernel
theorem dX9_figure_311 : decode cX9_figure 311 = .ok (.getfield 26, 3) := by decide +kernel
theorem dX9_figure_314 : decode cX9_figure 314 = .ok (.iconst 0, 1) := by decide +kernel
theorem dX9_figure_315 : decode cX9_figure 315 = .ok (.iaload, 1) := by decide +kernel
theorem dX9_figure_316 : decode cX9_figure 316 = .ok (.invokevirtual 64, 3) := by decide +kernel
theorem dX9_figure_319 : decode cX9_figure 319 = .ok (.istore 5, 2) := by decide +kernel
theorem dX9_figure_321 : decode cX9_figure 321 = .ok (.iconst 1, 1) := by decide +kernel
theorem dX9_figure_322 : decode cX9_figure 322 = .ok (.istore 6, 2) := by decide +kernel
theorem dX9_figure_324 : decode cX9_figure 324 = .ok (.iconst 1, 1) := by decide +kernel
theorem dX9_figure_325 : decode cX9_figure 325 = .ok (.istore 7, 2) := by decide +kernel
theorem dX9_figure_327 : decode cX9_figure 327 = .ok (.iload 7, 2) := by decide +kernel
theorem dX9_figure_329 : decode cX9_figure 329 = .ok (.aload_n 0, 1) := by decide +kernel
theorem dX9_figure_330 : decode cX9_figure 330 = .ok (.getfield 180, 3) := by decide +kernel
theorem dX9_figure_333 : decode cX9_figure 333 = .ok (.if_icmp .ge 56, 3) := by decide +kernel
theorem dX9_figure_336 : decode cX9_figure 336 = .ok (.iload 6, 2) := by decide +kernel
theorem dX9_figure_338 : decode cX9_figure 338 = .ok (.ifCond .eq 42, 3) := by decide +kernel
theorem dX9_figure_341 : decode cX9_figure 341 = .ok (.aload_n 0, 1) := by decide +kernel
theorem dX9_figure_342 : decode cX9_figure 342 = .ok (.aload_n 0, 1) := by decide +kernel
theorem dX9_figure_343 : decode cX9_figure 343 = .ok (.getfield 20, 3) := by decide +kernel
theorem dX9_figure_346 : decode cX9_figure 346 = .ok (.iconst 0, 1) := by decide +kernel
theorem dX9_figure_347 : decode cX9_figure 347 = .ok (.iaload, 1) := by decide +kernel
theorem dX9_figure_348 : decode cX9_figure 348 = .ok (.aload_n 0, 1) := by decide +kernel
theorem dX9_figure_349 : decode cX9_figure 349 = .ok (.getfield 20, 3) := by decide +kernel
theorem dX9_figure_352 : decode cX9_figure 352 = .ok (.iconst 1, 1) := by decide +kernel
theorem dX9_figure_353 : decode cX9_figure 353 = .ok (.iaload, 1) := by decide +kernel
theorem dX9_figure_354 : decode cX9_figure 354 = .ok (.aload_n 0, 1) := by decide +kernel
theorem dX9_figure_355 : decode cX9_figure 355 = .ok (.getfield 23, 3) := by decide +kernel
theorem dX9_figure_358 : decode cX9_figure 358 = .ok (.iload 7, 2) := by decide +kernel
theorem dX9_figure_360 : decode cX9_figure 360 = .ok (.iaload, 1) := by decide +kernel
theorem dX9_figure_361 : decode cX9_figure 361 = .ok (.aload_n 0, 1) := by decide +kernel
theorem dX9_figure_362 : decode cX9_figure 362 = .ok (.getfield 26, 3) := by decide +kernel
theorem dX9_figure_365 : decode cX9_figure 365 = .ok (.iload 7, 2) := by decide +kernel
theorem dX9_figure_367 : decode cX9_figure 367 = .ok (.iaload, 1) := by decide +kernel
theorem dX9_figure_368 : decode cX9_figure 368 = .ok (.invokevirtual 64, 3) := by decide +kernel
theorem dX9_figure_371 : decode cX9_figure 371 = .ok (.iload 5, 2) := by decide +kernel
theorem dX9_figure_373 : decode cX9_figure 373 = .ok (.if_icmp .ne 7, 3) := by decide +kernel
theorem dX9_figure_376 : decode cX9_figure 376 = .ok (.iconst 1, 1) := by decide +kernel
theorem dX9_figure_377 : decode cX9_figure 377 = .ok (.goto 4, 3) := by decide +kernel
theorem dX9_figure_380 : decode cX9_figure 380 = .ok (.iconst 0, 1) := by decide +kernel
theorem dX9_figure_381 : decode cX9_figure 381 = .ok (.istore 6, 2) := by decide +kernel
theorem dX9_figure_383 : decode cX9_figure 383 = .ok (.iinc 7 1, 3) := by decide +kernel
theorem dX9_figure_386 : decode cX9_figure 386 = .ok (.goto (-59), 3) := by decide +kernel
theorem dX9_figure_389 : decode cX9_figure 389 = .ok (.iload 6, 2) := by decide +kernel
theorem dX9_figure_391 : decode cX9_figure 391 = .ok (.ifCond .eq 7, 3) := by decide +kernel
theorem dX9_figure_394 : decode cX9_figure 394 = .ok (.iconst 2, 1) := by decide +kernel
theorem dX9_figure_395 : decode cX9_figure 395 = .ok (.goto 4, 3) := by decide +kernel
theorem dX9_figure_398 : decode cX9_figure 398 = .ok (.iconst 3, 1) := by decide +kernel
theorem dX9_figure_399 : decode cX9_figure 399 = .ok (.ireturn, 1) := by decide +kernel
set_option maxRecDepth 20000 in
theorem ggX9_locus_X9_isObject : GoodIn wsX9_locus wsX9_isObject := goodIn_r _ [10, 11, 12, 13, 9, 14, 129, 130, 131, 132, 133, 134, 135, 136, 137, 138] rfl (by decide +kernel)
set_option maxRecDepth 20000 in
theorem gX9_locus_X9_isObject : GoodIn wsX9_locus (wsV RX9 130 RX9 yX9_isObject wsX9_isObject) := goodIn_app (goodIn_of _ (by decide +kernel)) ggX9_locus_X9_isObject
set_option maxRecDepth 20000 in
theorem ggX9_locus_X9_isIn : GoodIn wsX9_locus wsX9_isIn := goodIn_r _ [14] rfl (by decide +kernel)
set_option maxRecDepth 20000 in
theorem gX9_locus_X9_isIn : GoodIn wsX9_locus (va_wsS RX9 35 yX9_isIn wsX9_isIn) := goodIn_app (goodIn_of _ (by decide +kernel)) ggX9_locus_X9_isIn
set_option maxRecDepth 20000 in
theorem ggX9_locus_X9_fail : GoodIn wsX9_locus wsX9_fail := goodIn_r _ [18, 1, 129, 130, 131, 132, 133, 134, 135, 136, 137, 138] rfl (by decide +kernel)
set_option maxRecDepth 20000 in
theorem gX9_locus_X9_fail : GoodIn wsX9_locus (wsV RX9 52 RX9 yX9_fail wsX9_fail) := goodIn_app (goodIn_of _ (by decide +kernel)) ggX9_locus_X9_fail
set_option maxRecDepth 20000 in
theorem ggX9_locus_X9_sort : GoodIn wsX9_locus wsX9_sort := goodIn_r _ [22, 23, 24, 25, 9, 26, 27, 129, 130, 131, 132, 133, 134, 135, 136, 137, 138] rfl (by decide +kernel)
set_option maxRecDepth 20000 in
theorem gX9_locus_X9_sort : GoodIn wsX9_locus (wsV RX9 133 RX9 yX9_sort wsX9_sort) := goodIn_app (goodIn_of _ (by decide +kernel)) ggX9_locus_X9_sort
set_option maxRecDepth 20000 in
theorem ggX9_locus_X9_get : GoodIn wsX9_locus wsX9_get := goodIn_r _ [26, 27, 129, 130, 131, 132, 133, 134, 135, 136, 137, 138] rfl (by decide +kernel)
set_option maxRecDepth 20000 in
theorem gX9_locus_X9_get : GoodIn wsX9_locus (wsV RX9 39 RX9 yX9_get wsX9_get) := goodIn_app (goodIn_of _ (by decide +kernel)) ggX9_locus_X9_get
set_option maxRecDepth 20000 in
theorem ggX9_locus_X9_place : GoodIn wsX9_locus wsX9_place := goodIn_r _ [31, 27, 32, 33, 34, 9, 35, 11, 36, 23, 24, 25, 26, 37, 38, 39, 40, 41, 42, 43, 44, 45, 46, 47, 48, 49, 50, 51, 52, 3, 53, 54, 55, 56, 57, 58, 59, 60, 61, 62, 63, 64, 65, 66, 67, 68, 69, 70, 71, 72, 73, 74, 75, 76, 77, 78, 79, 80, 81, 82, 83, 84, 85, 86, 87, 88, 89, 90, 91, 92, 93, 94, 95, 96, 97, 98, 99, 100, 101, 102, 103, 104, 105, 106, 107, 108, 109, 110, 111, 112, 113, 114, 115, 116, 129, 130, 131, 132, 133, 134, 135, 136, 137, 138] rfl (by decide +kernel)
set_option maxRecDepth 20000 in
theorem gX9_locus_X9_place : GoodIn wsX9_locus (wsV RX9 151 RX9 yX9_place wsX9_place) := goodIn_app (goodIn_of _ (by decide +kernel)) ggX9_locus_X9_place
set_option maxRecDepth 20000 in
theorem ggX9_locus_X9_lacks : GoodIn wsX9_locus wsX9_lacks := goodIn_r _ [40, 23, 24, 25, 9, 26, 27, 129, 130, 131, 132, 133, 134, 135, 136, 137, 138] rfl (by decide +kernel)
set_option maxRecDepth 20000 in
theorem gX9_locus_X9_lacks : GoodIn wsX9_locus (wsV RX9 111 RX9 yX9_lacks wsX9_lacks) := goodIn_app (goodIn_of _ (by decide +kernel)) ggX9_locus_X9_lacks
set_option maxRecDepth 20000 in
theorem ggX9_locus_X9_x : GoodIn wsX9_locus wsX9_x := goodIn_r _ [64, 23, 24, 25, 9, 26, 27, 129, 130, 131, 132, 133, 134, 135, 136, 137, 138] rfl (by decide +kernel)
set_option maxRecDepth 20000 in
theorem gX9_locus_X9_x : GoodIn wsX9_locus (wsV RX9 68 RX9 yX9_x wsX9_x) := goodIn_app (goodIn_of _ (by decide +kernel)) ggX9_locus_X9_x
set_option maxRecDepth 20000 in
theorem ggX9_locus_X9_y : GoodIn wsX9_locus wsX9_y := goodIn_r _ [68, 23, 24, 25, 9, 26, 27, 129, 130, 131, 132, 133, 134, 135, 136, 137, 138] rfl (by decide +kernel)
set_option maxRecDepth 20000 in
theorem gX9_locus_X9_y : GoodIn wsX9_locus (wsV RX9 71 RX9 yX9_y wsX9_y) := goodIn_app (goodIn_of _ (by decide +kernel)) ggX9_locus_X9_y
set_option maxRecDepth 20000 in
theorem ggX9_locus_X9_meet : GoodIn wsX9_locus wsX9_meet := goodIn_r _ [120, 2, 4, 5, 129, 130, 131, 132, 133, 134, 135, 136, 137, 138] rfl (by decide +kernel)
set_option maxRecDepth 20000 in
theorem gX9_locus_X9_meet : GoodIn wsX9_locus (wsV RX9 186 RX9 yX9_meet wsX9_meet) := goodIn_app (goodIn_of _ (by decide +kernel)) ggX9_locus_X9_meet
set_option maxRecDepth 20000 in
theorem ggX9_locus_X9_figure : GoodIn wsX9_locus wsX9_figure := goodIn_r _ [124, 2, 4, 5, 36, 125, 126, 127, 9, 128, 49, 50, 51, 52, 3, 53, 54, 55, 56, 93, 94, 95, 96, 73, 74, 75, 76, 45, 46, 47, 48, 77, 78, 79, 80, 85, 86, 87, 88, 129, 130, 131, 132, 133, 134, 135, 136, 137, 138] rfl (by decide +kernel)
set_option maxRecDepth 20000 in
theorem gX9_locus_X9_figure : GoodIn wsX9_locus (wsV RX9 190 RX9 yX9_figure wsX9_figure) := goodIn_app (goodIn_of _ (by decide +kernel)) ggX9_locus_X9_figure
theorem dX9_locus_0 : decode cX9_locus 0 = .ok (.aload_n 0, 1) := by decide +kernel
theorem dX9_locus_1 : decode cX9_locus 1 = .ok (.iconst 0, 1) := by decide +kernel
theorem dX9_locus_2 : decode cX9_locus 2 = .ok (.putfield 29, 3) := by decide +kernel
theorem dX9_locus_5 : decode cX9_locus 5 = .ok (.aload_n 0, 1) := by decide +kernel
theorem dX9_locus_6 : decode cX9_locus 6 = .ok (.iload_n 1, 1) := by decide +kernel
theorem dX9_locus_7 : decode cX9_locus 7 = .ok (.invokevirtual 130, 3) := by decide +kernel
theorem dX9_locus_10 : decode cX9_locus 10 = .ok (.ifCond .eq 20, 3) := by decide +kernel
theorem dX9_locus_13 : decode cX9_locus 13 = .ok (.aload_n 0, 1) := by decide +kernel
theorem dX9_locus_14 : decode cX9_locus 14 = .ok (.iload_n 2, 1) := by decide +kernel
theorem dX9_locus_15 : decode cX9_locus 15 = .ok (.invokevirtual 130, 3) := by decide +kernel
theorem dX9_locus_18 : decode cX9_locus 18 = .ok (.ifCond .eq 12, 3) := by decide +kernel
theorem dX9_locus_21 : decode cX9_locus 21 = .ok (.iload_n 3, 1) := by decide +kernel
theorem dX9_locus_22 : decode cX9_locus 22 = .ok (.iconst 0, 1) := by decide +kernel
theorem dX9_locus_23 : decode cX9_locus 23 = .ok (.iconst 3, 1) := by decide +kernel
theorem dX9_locus_24 : decode cX9_locus 24 = .ok (.invokestatic 35, 3) := by decide +kernel
theorem dX9_locus_27 : decode cX9_locus 27 = .ok (.ifCond .ne 9, 3) := by decide +kernel
theorem dX9_locus_30 : decode cX9_locus 30 = .ok (.aload_n 0, 1) := by decide +kernel
theorem dX9_locus_31 : decode cX9_locus 31 = .ok (.iconst 1, 1) := by decide +kernel
theorem dX9_locus_32 : decode cX9_locus 32 = .ok (.invokevirtual 52, 3) := by decide +kernel
theorem dX9_locus_35 : decode cX9_locus 35 = .ok (.ireturn, 1) := by decide +kernel
theorem dX9_locus_36 : decode cX9_locus 36 = .ok (.aload_n 0, 1) := by decide +kernel
theorem dX9_locus_37 : decode cX9_locus 37 = .ok (.iload_n 1, 1) := by decide +kernel
theorem dX9_locus_38 : decode cX9_locus 38 = .ok (.invokevirtual 133, 3) := by decide +kernel
theorem dX9_locus_41 : decode cX9_locus 41 = .ok (.ifCond .ne 13, 3) := by decide +kernel
theorem dX9_locus_44 : decode cX9_locus 44 = .ok (.aload_n 0, 1) := by decide +kernel
theorem dX9_locus_45 : decode cX9_locus 45 = .ok (.iload_n 2, 1) := by decide +kernel
theorem dX9_locus_46 : decode cX9_locus 46 = .ok (.iconst 1, 1) := by decide +kernel
theorem dX9_locus_47 : decode cX9_locus 47 = .ok (.invokevirtual 39, 3) := by decide +kernel
theorem dX9_locus_50 : decode cX9_locus 50 = .ok (.iconst 1, 1) := by decide +kernel
theorem dX9_locus_51 : decode cX9_locus 51 = .ok (.if_icmp .eq 9, 3) := by decide +kernel
theorem dX9_locus_54 : decode cX9_locus 54 = .ok (.aload_n 0, 1) := by decide +kernel
theorem dX9_locus_55 : decode cX9_locus 55 = .ok (.iconst 2, 1) := by decide +kernel
theorem dX9_locus_56 : decode cX9_locus 56 = .ok (.invokevirtual 52, 3) := by decide +kernel
theorem dX9_locus_59 : decode cX9_locus 59 = .ok (.ireturn, 1) := by decide +kernel
theorem dX9_locus_60 : decode cX9_locus 60 = .ok (.aload_n 0, 1) := by decide +kernel
theorem dX9_locus_61 : decode cX9_locus 61 = .ok (.iload_n 2, 1) := by decide +kernel
theorem dX9_locus_62 : decode cX9_locus 62 = .ok (.iconst 5, 1) := by decide +kernel
theorem dX9_locus_63 : decode cX9_locus 63 = .ok (.invokevirtual 39, 3) := by decide +kernel
theorem dX9_locus_66 : decode cX9_locus 66 = .ok (.istore 4, 2) := by decide +kernel
theorem dX9_locus_68 : decode cX9_locus 68 = .ok (.aload_n 0, 1) := by decide +kernel
theorem dX9_locus_69 : decode cX9_locus 69 = .ok (.iload_n 2, 1) := by decide +kernel
theorem dX9_locus_70 : decode cX9_locus 70 = .ok (.bipush 6, 2) := by decide +kernel
theorem dX9_locus_72 : decode cX9_locus 72 = .ok (.invokevirtual 39, 3) := by decide +kernel
theorem dX9_locus_75 : decode cX9_locus 75 = .ok (.istore 5, 2) := by decide +kernel
theorem dX9_locus_77 : decode cX9_locus 77 = .ok (.iconst 0, 1) := by decide +kernel
theorem dX9_locus_78 : decode cX9_locus 78 = .ok (.istore 6, 2) := by decide +kernel
theorem dX9_locus_80 : decode cX9_locus 80 = .ok (.aload_n 0, 1) := by decide +kernel
theorem dX9_locus_81 : decode cX9_locus 81 = .ok (.iconst 0, 1) := by decide +kernel
theorem dX9_locus_82 : decode cX9_locus 82 = .ok (.putfield 180, 3) := by decide +kernel
theorem dX9_locus_85 : decode cX9_locus 85 = .ok (.iconst 0, 1) := by decide +kernel
theorem dX9_locus_86 : decode cX9_locus 86 = .ok (.istore 7, 2) := by decide +kernel
theorem dX9_locus_88 : decode cX9_locus 88 = .ok (.iload 7, 2) := by decide +kernel
theorem dX9_locus_90 : decode cX9_locus 90 = .ok (.aload_n 0, 1) := by decide +kernel
theorem dX9_locus_91 : decode cX9_locus 91 = .ok (.getfield 7, 3) := by decide +kernel
theorem dX9_locus_94 : decode cX9_locus 94 = .ok (.if_icmp .ge 46, 3) := by decide +kernel
theorem dX9_locus_97 : decode cX9_locus 97 = .ok (.aload_n 0, 1) := by decide +kernel
theorem dX9_locus_98 : decode cX9_locus 98 = .ok (.iload_n 2, 1) := by decide +kernel
theorem dX9_locus_99 : decode cX9_locus 99 = .ok (.iload 7, 2) := by decide +kernel
theorem dX9_locus_101 : decode cX9_locus 101 = .ok (.iload 5, 2) := by decide +kernel
theorem dX9_locus_103 : decode cX9_locus 103 = .ok (.invokevirtual 151, 3) := by decide +kernel
theorem dX9_locus_106 : decode cX9_locus 106 = .ok (.aload_n 0, 1) := by decide +kernel
theorem dX9_locus_107 : decode cX9_locus 107 = .ok (.iload_n 1, 1) := by decide +kernel
theorem dX9_locus_108 : decode cX9_locus 108 = .ok (.invokevirtual 111, 3) := by decide +kernel
theorem dX9_locus_111 : decode cX9_locus 111 = .ok (.ifCond .eq 9, 3) := by decide +kernel
theorem dX9_locus_114 : decode cX9_locus 114 = .ok (.iinc 6 1, 3) := by decide +kernel
theorem dX9_locus_117 : decode cX9_locus 117 = .ok (.goto 17, 3) := by decide +kernel
theorem dX9_locus_120 : decode cX9_locus 120 = .ok (.aload_n 0, 1) := by decide +kernel
theorem dX9_locus_121 : decode cX9_locus 121 = .ok (.aload_n 0, 1) := by decide +kernel
theorem dX9_locus_122 : decode cX9_locus 122 = .ok (.iload_n 1, 1) := by decide +kernel
theorem dX9_locus_123 : decode cX9_locus 123 = .ok (.invokevirtual 68, 3) := by decide +kernel
theorem dX9_locus_126 : decode cX9_locus 126 = .ok (.aload_n 0, 1) := by decide +kernel
theorem dX9_locus_127 : decode cX9_locus 127 = .ok (.iload_n 1, 1) := by decide +kernel
theorem dX9_locus_128 : decode cX9_locus 128 = .ok (.invokevirtual 71, 3) := by decide +kernel
theorem dX9_locus_131 : decode cX9_locus 131 = .ok (.invokevirtual 186, 3) := by decide +kernel
theorem dX9_locus_134 : decode cX9_locus 134 = .ok (.iinc 7 1, 3) := by decide +kernel
theorem dX9_locus_137 : decode cX9_locus 137 = .ok (.goto (-49), 3) := by decide +kernel
theorem dX9_locus_140 : decode cX9_locus 140 = .ok (.aload_n 0, 1) := by decide +kernel
theorem dX9_locus_141 : decode cX9_locus 141 = .ok (.iload_n 2, 1) := by decide +kernel
theorem dX9_locus_142 : decode cX9_locus 142 = .ok (.iload 4, 2) := by decide +kernel
theorem dX9_locus_144 : decode cX9_locus 144 = .ok (.iload 5, 2) := by decide +kernel
theorem dX9_locus_146 : decode cX9_locus 146 = .ok (.invokevirtual 151, 3) := by decide +kernel
theorem dX9_locus_149 : decode cX9_locus 149 = .ok (.iconst 0, 1) := by decide +kernel
theorem dX9_locus_150 : decode cX9_locus 150 = .ok (.istore 7, 2) := by decide +kernel
theorem dX9_locus_152 : decode cX9_locus 152 = .ok (.iconst 0, 1) := by decide +kernel
theorem dX9_locus_153 : decode cX9_locus 153 = .ok (.istore 8, 2) := by decide +kernel
theorem dX9_locus_155 : decode cX9_locus 155 = .ok (.iload 8, 2) := by decide +kernel
theorem dX9_locus_157 : decode cX9_locus 157 = .ok (.aload_n 0, 1) := by decide +kernel
theorem dX9_locus_158 : decode cX9_locus 158 = .ok (.getfield 180, 3) := by decide +kernel
theorem dX9_locus_161 : decode cX9_locus 161 = .ok (.if_icmp .ge 34, 3) := by decide +kernel
theorem dX9_locus_164 : decode cX9_locus 164 = .ok (.iload 7, 2) := by decide +kernel
theorem dX9_locus_166 : decode cX9_locus 166 = .ok (.aload_n 0, 1) := by decide +kernel
theorem dX9_locus_167 : decode cX9_locus 167 = .ok (.getfield 7, 3) := by decide +kernel
theorem dX9_locus_170 : decode cX9_locus 170 = .ok (.aload_n 0, 1) := by decide +kernel
theorem dX9_locus_171 : decode cX9_locus 171 = .ok (.getfield 23, 3) := by decide +kernel
theorem dX9_locus_174 : decode cX9_locus 174 = .ok (.iload 8, 2) := by decide +kernel
theorem dX9_locus_176 : decode cX9_locus 176 = .ok (.iaload, 1) := by decide +kernel
theorem dX9_locus_177 : decode cX9_locus 177 = .ok (.imul, 1) := by decide +kernel
theorem dX9_locus_178 : decode cX9_locus 178 = .ok (.aload_n 0, 1) := by decide +kernel
theorem dX9_locus_179 : decode cX9_locus 179 = .ok (.getfield 26, 3) := by decide +kernel
theorem dX9_locus_182 : decode cX9_locus 182 = .ok (.iload 8, 2) := by decide +kernel
theorem dX9_locus_184 : decode cX9_locus 184 = .ok (.iaload, 1) := by decide +kernel
theorem dX9_locus_185 : decode cX9_locus 185 = .ok (.iadd, 1) := by decide +kernel
theorem dX9_locus_186 : decode cX9_locus 186 = .ok (.iadd, 1) := by decide +kernel
theorem dX9_locus_187 : decode cX9_locus 187 = .ok (.istore 7, 2) := by decide +kernel
theorem dX9_locus_189 : decode cX9_locus 189 = .ok (.iinc 8 1, 3) := by decide +kernel
theorem dX9_locus_192 : decode cX9_locus 192 = .ok (.goto (-37), 3) := by decide +kernel
theorem dX9_locus_195 : decode cX9_locus 195 = .ok (.iload_n 3, 1) := by decide +kernel
theorem dX9_locus_196 : decode cX9_locus 196 = .ok (.ifCond .ne 10, 3) := by decide +kernel
theorem dX9_locus_199 : decode cX9_locus 199 = .ok (.aload_n 0, 1) := by decide +kernel
theorem dX9_locus_200 : decode cX9_locus 200 = .ok (.getfield 180, 3) := by decide +kernel
theorem dX9_locus_203 : decode cX9_locus 203 = .ok (.goto 27, 3) := by decide +kernel
theorem dX9_locus_206 : decode cX9_locus 206 = .ok (.iload_n 3, 1) := by decide +kernel
theorem dX9_locus_207 : decode cX9_locus 207 = .ok (.iconst 1, 1) := by decide +kernel
theorem dX9_locus_208 : decode cX9_locus 208 = .ok (.if_icmp .ne 10, 3) := by decide +kernel
theorem dX9_locus_211 : decode cX9_locus 211 = .ok (.aload_n 0, 1) := by decide +kernel
theorem dX9_locus_212 : decode cX9_locus 212 = .ok (.invokevirtual 190, 3) := by decide +kernel
theorem dX9_locus_215 : decode cX9_locus 215 = .ok (.goto 15, 3) := by decide +kernel
theorem dX9_locus_218 : decode cX9_locus 218 = .ok (.iload_n 3, 1) := by decide +kernel
theorem dX9_locus_219 : decode cX9_locus 219 = .ok (.iconst 2, 1) := by decide +kernel
theorem dX9_locus_220 : decode cX9_locus 220 = .ok (.if_icmp .ne 8, 3) := by decide +kernel
theorem dX9_locus_223 : decode cX9_locus 223 = .ok (.iload 6, 2) := by decide +kernel
theorem dX9_locus_225 : decode cX9_locus 225 = .ok (.goto 5, 3) := by decide +kernel
theorem dX9_locus_228 : decode cX9_locus 228 = .ok (.iload 7, 2) := by decide +kernel
theorem dX9_locus_230 : decode cX9_locus 230 = .ok (.ireturn, 1) := by decide +kernel
set_option maxRecDepth 20000 in
theorem ggX9_truth_X9_verdict : GoodIn wsX9_truth wsX9_verdict := goodIn_r _ [7, 8, 9, 10, 11, 12, 6, 13, 14, 15, 16, 17, 18, 19, 20, 21, 22, 23, 24, 25, 26, 27, 28, 29, 30, 31, 32, 33, 34, 35, 36, 37, 38, 39, 40, 41, 42, 43, 44, 45, 46, 47, 48, 49, 50, 51, 52, 53, 54, 55, 56, 57, 58, 59, 60, 61, 62, 63, 64, 65, 66, 67, 68, 69, 70, 71, 72, 73, 74, 75, 76, 77, 78, 79, 80, 81, 82, 83, 84, 85, 86] rfl (by decide +kernel)
set_option maxRecDepth 20000 in
theorem gX9_truth_X9_verdict : GoodIn wsX9_truth (wsV RX9 177 RX9 yX9_verdict wsX9_verdict) := goodIn_app (goodIn_of _ (by decide +kernel)) ggX9_truth_X9_verdict
theorem dX9_truth_0 : decode cX9_truth 0 = .ok (.aload_n 0, 1) := by decide +kernel
theorem dX9_truth_1 : decode cX9_truth 1 = .ok (.iconst 0, 1) := by decide +kernel
theorem dX9_truth_2 : decode cX9_truth 2 = .ok (.putfield 29, 3) := by decide +kernel
theorem dX9_truth_5 : decode cX9_truth 5 = .ok (.iconst 0, 1) := by decide +kernel
theorem dX9_truth_6 : decode cX9_truth 6 = .ok (.istore_n 1, 1) := by decide +kernel
theorem dX9_truth_7 : decode cX9_truth 7 = .ok (.iconst 0, 1) := by decide +kernel
theorem dX9_truth_8 : decode cX9_truth 8 = .ok (.istore_n 2, 1) := by decide +kernel
theorem dX9_truth_9 : decode cX9_truth 9 = .ok (.iconst 0, 1) := by decide +kernel
theorem dX9_truth_10 : decode cX9_truth 10 = .ok (.istore_n 3, 1) := by decide +kernel
theorem dX9_truth_11 : decode cX9_truth 11 = .ok (.iload_n 3, 1) := by decide +kernel
theorem dX9_truth_12 : decode cX9_truth 12 = .ok (.aload_n 0, 1) := by decide +kernel
theorem dX9_truth_13 : decode cX9_truth 13 = .ok (.getfield 55, 3) := by decide +kernel
theorem dX9_truth_16 : decode cX9_truth 16 = .ok (.if_icmp .ge 43, 3) := by decide +kernel
theorem dX9_truth_19 : decode cX9_truth 19 = .ok (.iload_n 1, 1) := by decide +kernel
theorem dX9_truth_20 : decode cX9_truth 20 = .ok (.aload_n 0, 1) := by decide +kernel
theorem dX9_truth_21 : decode cX9_truth 21 = .ok (.iload_n 3, 1) := by decide +kernel
theorem dX9_truth_22 : decode cX9_truth 22 = .ok (.invokevirtual 177, 3) := by decide +kernel
theorem dX9_truth_25 : decode cX9_truth 25 = .ok (.iconst 1, 1) := by decide +kernel
theorem dX9_truth_26 : decode cX9_truth 26 = .ok (.if_icmp .ne 7, 3) := by decide +kernel
theorem dX9_truth_29 : decode cX9_truth 29 = .ok (.iconst 1, 1) := by decide +kernel
theorem dX9_truth_30 : decode cX9_truth 30 = .ok (.goto 4, 3) := by decide +kernel
theorem dX9_truth_33 : decode cX9_truth 33 = .ok (.iconst 0, 1) := by decide +kernel
theorem dX9_truth_34 : decode cX9_truth 34 = .ok (.iadd, 1) := by decide +kernel
theorem dX9_truth_35 : decode cX9_truth 35 = .ok (.istore_n 1, 1) := by decide +kernel
theorem dX9_truth_36 : decode cX9_truth 36 = .ok (.iload_n 2, 1) := by decide +kernel
theorem dX9_truth_37 : decode cX9_truth 37 = .ok (.aload_n 0, 1) := by decide +kernel
theorem dX9_truth_38 : decode cX9_truth 38 = .ok (.iload_n 3, 1) := by decide +kernel
theorem dX9_truth_39 : decode cX9_truth 39 = .ok (.invokevirtual 177, 3) := by decide +kernel
theorem dX9_truth_42 : decode cX9_truth 42 = .ok (.iconst (-1), 1) := by decide +kernel
theorem dX9_truth_43 : decode cX9_truth 43 = .ok (.if_icmp .ne 7, 3) := by decide +kernel
theorem dX9_truth_46 : decode cX9_truth 46 = .ok (.iconst 0, 1) := by decide +kernel
theorem dX9_truth_47 : decode cX9_truth 47 = .ok (.goto 4, 3) := by decide +kernel
theorem dX9_truth_50 : decode cX9_truth 50 = .ok (.iconst 1, 1) := by decide +kernel
theorem dX9_truth_51 : decode cX9_truth 51 = .ok (.iadd, 1) := by decide +kernel
theorem dX9_truth_52 : decode cX9_truth 52 = .ok (.istore_n 2, 1) := by decide +kernel
theorem dX9_truth_53 : decode cX9_truth 53 = .ok (.iinc 3 1, 3) := by decide +kernel
theorem dX9_truth_56 : decode cX9_truth 56 = .ok (.goto (-45), 3) := by decide +kernel
theorem dX9_truth_59 : decode cX9_truth 59 = .ok (.iload_n 2, 1) := by decide +kernel
theorem dX9_truth_60 : decode cX9_truth 60 = .ok (.ifCond .ne 7, 3) := by decide +kernel
theorem dX9_truth_63 : decode cX9_truth 63 = .ok (.dconst 1, 1) := by decide +kernel
theorem dX9_truth_64 : decode cX9_truth 64 = .ok (.goto 8, 3) := by decide +kernel
theorem dX9_truth_67 : decode cX9_truth 67 = .ok (.iload_n 1, 1) := by decide +kernel
theorem dX9_truth_68 : decode cX9_truth 68 = .ok (.i2d, 1) := by decide +kernel
theorem dX9_truth_69 : decode cX9_truth 69 = .ok (.iload_n 2, 1) := by decide +kernel
theorem dX9_truth_70 : decode cX9_truth 70 = .ok (.i2d, 1) := by decide +kernel
theorem dX9_truth_71 : decode cX9_truth 71 = .ok (.ddiv, 1) := by decide +kernel
theorem dX9_truth_72 : decode cX9_truth 72 = .ok (.dreturn, 1) := by decide +kernel
set_option maxRecDepth 20000 in
theorem ggX9_digest_X9_counted : GoodIn wsX9_digest wsX9_counted := goodIn_r _ [10, 11, 4, 5, 12, 13, 14, 9, 15, 16, 88, 89, 90, 91, 92, 93, 94, 95, 96, 97] rfl (by decide +kernel)
set_option maxRecDepth 20000 in
theorem gX9_digest_X9_counted : GoodIn wsX9_digest (wsV RX9 118 RX9 yX9_counted wsX9_counted) := goodIn_app (goodIn_of _ (by decide +kernel)) ggX9_digest_X9_counted
set_option maxRecDepth 20000 in
theorem ggX9_digest_X9_objectTold : GoodIn wsX9_digest wsX9_objectTold := goodIn_r _ [20, 12, 13, 14, 9, 15, 16, 88, 89, 90, 91, 92, 93, 94, 95, 96, 97] rfl (by decide +kernel)
set_option maxRecDepth 20000 in
theorem gX9_digest_X9_objectTold : GoodIn wsX9_digest (wsV RX9 155 RX9 yX9_objectTold wsX9_objectTold) := goodIn_app (goodIn_of _ (by decide +kernel)) ggX9_digest_X9_objectTold
set_option maxRecDepth 20000 in
theorem ggX9_digest_X9_lacks : GoodIn wsX9_digest wsX9_lacks := goodIn_r _ [24, 12, 13, 14, 9, 15, 16, 88, 89, 90, 91, 92, 93, 94, 95, 96, 97] rfl (by decide +kernel)
set_option maxRecDepth 20000 in
theorem gX9_digest_X9_lacks : GoodIn wsX9_digest (wsV RX9 111 RX9 yX9_lacks wsX9_lacks) := goodIn_app (goodIn_of _ (by decide +kernel)) ggX9_digest_X9_lacks
set_option maxRecDepth 20000 in
theorem ggX9_digest_X9_get : GoodIn wsX9_digest wsX9_get := goodIn_r _ [15, 16, 88, 89, 90, 91, 92, 93, 94, 95, 96, 97] rfl (by decide +kernel)
set_option maxRecDepth 20000 in
theorem gX9_digest_X9_get : GoodIn wsX9_digest (wsV RX9 39 RX9 yX9_get wsX9_get) := goodIn_app (goodIn_of _ (by decide +kernel)) ggX9_digest_X9_get
set_option maxRecDepth 20000 in
theorem ggX9_digest_X9_verdict : GoodIn wsX9_digest wsX9_verdict := goodIn_r _ [28, 29, 30, 21, 22, 23, 9, 24, 12, 13, 14, 15, 16, 31, 32, 33, 34, 35, 36, 37, 38, 39, 40, 41, 42, 43, 44, 45, 46, 47, 48, 49, 50, 51, 52, 53, 54, 11, 55, 56, 57, 58, 59, 60, 61, 62, 63, 64, 65, 66, 67, 68, 69, 70, 71, 72, 73, 74, 75, 76, 77, 78, 79, 80, 81, 82, 83, 84, 85, 86, 87, 88, 89, 90, 91, 92, 93, 94, 95, 96, 97] rfl (by decide +kernel)
set_option maxRecDepth 20000 in
theorem gX9_digest_X9_verdict : GoodIn wsX9_digest (wsV RX9 177 RX9 yX9_verdict wsX9_verdict) := goodIn_app (goodIn_of _ (by decide +kernel)) ggX9_digest_X9_verdict
theorem dX9_digest_0 : decode cX9_digest 0 = .ok (.aload_n 0, 1) := by decide +kernel
theorem dX9_digest_1 : decode cX9_digest 1 = .ok (.iconst 0, 1) := by decide +kernel
theorem dX9_digest_2 : decode cX9_digest 2 = .ok (.putfield 29, 3) := by decide +kernel
theorem dX9_digest_5 : decode cX9_digest 5 = .ok (.ldc2_w 194, 3) := by decide +kernel
theorem dX9_digest_8 : decode cX9_digest 8 = .ok (.lstore_n 1, 1) := by decide +kernel
theorem dX9_digest_9 : decode cX9_digest 9 = .ok (.iconst 0, 1) := by decide +kernel
theorem dX9_digest_10 : decode cX9_digest 10 = .ok (.istore_n 3, 1) := by decide +kernel
theorem dX9_digest_11 : decode cX9_digest 11 = .ok (.iload_n 3, 1) := by decide +kernel
theorem dX9_digest_12 : decode cX9_digest 12 = .ok (.iconst 5, 1) := by decide +kernel
theorem dX9_digest_13 : decode cX9_digest 13 = .ok (.if_icmp .ge 22, 3) := by decide +kernel
theorem dX9_digest_16 : decode cX9_digest 16 = .ok (.lload_n 1, 1) := by decide +kernel
theorem dX9_digest_17 : decode cX9_digest 17 = .ok (.ldc2_w 196, 3) := by decide +kernel
theorem dX9_digest_20 : decode cX9_digest 20 = .ok (.lmul, 1) := by decide +kernel
theorem dX9_digest_21 : decode cX9_digest 21 = .ok (.aload_n 0, 1) := by decide +kernel
theorem dX9_digest_22 : decode cX9_digest 22 = .ok (.iload_n 3, 1) := by decide +kernel
theorem dX9_digest_23 : decode cX9_digest 23 = .ok (.invokevirtual 118, 3) := by decide +kernel
theorem dX9_digest_26 : decode cX9_digest 26 = .ok (.i2l, 1) := by decide +kernel
theorem dX9_digest_27 : decode cX9_digest 27 = .ok (.ladd, 1) := by decide +kernel
theorem dX9_digest_28 : decode cX9_digest 28 = .ok (.lstore_n 1, 1) := by decide +kernel
theorem dX9_digest_29 : decode cX9_digest 29 = .ok (.iinc 3 1, 3) := by decide +kernel
theorem dX9_digest_32 : decode cX9_digest 32 = .ok (.goto (-21), 3) := by decide +kernel
theorem dX9_digest_35 : decode cX9_digest 35 = .ok (.iconst 0, 1) := by decide +kernel
theorem dX9_digest_36 : decode cX9_digest 36 = .ok (.istore_n 3, 1) := by decide +kernel
theorem dX9_digest_37 : decode cX9_digest 37 = .ok (.iload_n 3, 1) := by decide +kernel
theorem dX9_digest_38 : decode cX9_digest 38 = .ok (.aload_n 0, 1) := by decide +kernel
theorem dX9_digest_39 : decode cX9_digest 39 = .ok (.getfield 32, 3) := by decide +kernel
theorem dX9_digest_42 : decode cX9_digest 42 = .ok (.if_icmp .ge 81, 3) := by decide +kernel
theorem dX9_digest_45 : decode cX9_digest 45 = .ok (.iconst 0, 1) := by decide +kernel
theorem dX9_digest_46 : decode cX9_digest 46 = .ok (.istore 4, 2) := by decide +kernel
theorem dX9_digest_48 : decode cX9_digest 48 = .ok (.iload 4, 2) := by decide +kernel
theorem dX9_digest_50 : decode cX9_digest 50 = .ok (.bipush 6, 2) := by decide +kernel
theorem dX9_digest_52 : decode cX9_digest 52 = .ok (.if_icmp .ge 24, 3) := by decide +kernel
theorem dX9_digest_55 : decode cX9_digest 55 = .ok (.lload_n 1, 1) := by decide +kernel
theorem dX9_digest_56 : decode cX9_digest 56 = .ok (.ldc2_w 196, 3) := by decide +kernel
theorem dX9_digest_59 : decode cX9_digest 59 = .ok (.lmul, 1) := by decide +kernel
theorem dX9_digest_60 : decode cX9_digest 60 = .ok (.aload_n 0, 1) := by decide +kernel
theorem dX9_digest_61 : decode cX9_digest 61 = .ok (.iload_n 3, 1) := by decide +kernel
theorem dX9_digest_62 : decode cX9_digest 62 = .ok (.iload 4, 2) := by decide +kernel
theorem dX9_digest_64 : decode cX9_digest 64 = .ok (.invokevirtual 155, 3) := by decide +kernel
theorem dX9_digest_67 : decode cX9_digest 67 = .ok (.i2l, 1) := by decide +kernel
theorem dX9_digest_68 : decode cX9_digest 68 = .ok (.ladd, 1) := by decide +kernel
theorem dX9_digest_69 : decode cX9_digest 69 = .ok (.lstore_n 1, 1) := by decide +kernel
theorem dX9_digest_70 : decode cX9_digest 70 = .ok (.iinc 4 1, 3) := by decide +kernel
theorem dX9_digest_73 : decode cX9_digest 73 = .ok (.goto (-25), 3) := by decide +kernel
theorem dX9_digest_76 : decode cX9_digest 76 = .ok (.iconst 0, 1) := by decide +kernel
theorem dX9_digest_77 : decode cX9_digest 77 = .ok (.istore 4, 2) := by decide +kernel
theorem dX9_digest_79 : decode cX9_digest 79 = .ok (.iload 4, 2) := by decide +kernel
theorem dX9_digest_81 : decode cX9_digest 81 = .ok (.iconst 3, 1) := by decide +kernel
theorem dX9_digest_82 : decode cX9_digest 82 = .ok (.if_icmp .ge 35, 3) := by decide +kernel
theorem dX9_digest_85 : decode cX9_digest 85 = .ok (.aload_n 0, 1) := by decide +kernel
theorem dX9_digest_86 : decode cX9_digest 86 = .ok (.iload_n 3, 1) := by decide +kernel
theorem dX9_digest_87 : decode cX9_digest 87 = .ok (.invokevirtual 111, 3) := by decide +kernel
theorem dX9_digest_90 : decode cX9_digest 90 = .ok (.ifCond .ne 27, 3) := by decide +kernel
theorem dX9_digest_93 : decode cX9_digest 93 = .ok (.lload_n 1, 1) := by decide +kernel
theorem dX9_digest_94 : decode cX9_digest 94 = .ok (.ldc2_w 196, 3) := by decide +kernel
theorem dX9_digest_97 : decode cX9_digest 97 = .ok (.lmul, 1) := by decide +kernel
theorem dX9_digest_98 : decode cX9_digest 98 = .ok (.aload_n 0, 1) := by decide +kernel
theorem dX9_digest_99 : decode cX9_digest 99 = .ok (.iload_n 3, 1) := by decide +kernel
theorem dX9_digest_100 : decode cX9_digest 100 = .ok (.bipush 8, 2) := by decide +kernel
theorem dX9_digest_102 : decode cX9_digest 102 = .ok (.iload 4, 2) := by decide +kernel
theorem dX9_digest_104 : decode cX9_digest 104 = .ok (.iadd, 1) := by decide +kernel
theorem dX9_digest_105 : decode cX9_digest 105 = .ok (.invokevirtual 39, 3) := by decide +kernel
theorem dX9_digest_108 : decode cX9_digest 108 = .ok (.i2l, 1) := by decide +kernel
theorem dX9_digest_109 : decode cX9_digest 109 = .ok (.ladd, 1) := by decide +kernel
theorem dX9_digest_110 : decode cX9_digest 110 = .ok (.lstore_n 1, 1) := by decide +kernel
theorem dX9_digest_111 : decode cX9_digest 111 = .ok (.iinc 4 1, 3) := by decide +kernel
theorem dX9_digest_114 : decode cX9_digest 114 = .ok (.goto (-35), 3) := by decide +kernel
theorem dX9_digest_117 : decode cX9_digest 117 = .ok (.iinc 3 1, 3) := by decide +kernel
theorem dX9_digest_120 : decode cX9_digest 120 = .ok (.goto (-83), 3) := by decide +kernel
theorem dX9_digest_123 : decode cX9_digest 123 = .ok (.iconst 0, 1) := by decide +kernel
theorem dX9_digest_124 : decode cX9_digest 124 = .ok (.istore_n 3, 1) := by decide +kernel
theorem dX9_digest_125 : decode cX9_digest 125 = .ok (.iload_n 3, 1) := by decide +kernel
theorem dX9_digest_126 : decode cX9_digest 126 = .ok (.aload_n 0, 1) := by decide +kernel
theorem dX9_digest_127 : decode cX9_digest 127 = .ok (.getfield 55, 3) := by decide +kernel
theorem dX9_digest_130 : decode cX9_digest 130 = .ok (.if_icmp .ge 22, 3) := by decide +kernel
theorem dX9_digest_133 : decode cX9_digest 133 = .ok (.lload_n 1, 1) := by decide +kernel
theorem dX9_digest_134 : decode cX9_digest 134 = .ok (.ldc2_w 196, 3) := by decide +kernel
theorem dX9_digest_137 : decode cX9_digest 137 = .ok (.lmul, 1) := by decide +kernel
theorem dX9_digest_138 : decode cX9_digest 138 = .ok (.aload_n 0, 1) := by decide +kernel
theorem dX9_digest_139 : decode cX9_digest 139 = .ok (.iload_n 3, 1) := by decide +kernel
theorem dX9_digest_140 : decode cX9_digest 140 = .ok (.invokevirtual 177, 3) := by decide +kernel
theorem dX9_digest_143 : decode cX9_digest 143 = .ok (.i2l, 1) := by decide +kernel
theorem dX9_digest_144 : decode cX9_digest 144 = .ok (.ladd, 1) := by decide +kernel
theorem dX9_digest_145 : decode cX9_digest 145 = .ok (.lstore_n 1, 1) := by decide +kernel
theorem dX9_digest_146 : decode cX9_digest 146 = .ok (.iinc 3 1, 3) := by decide +kernel
theorem dX9_digest_149 : decode cX9_digest 149 = .ok (.goto (-24), 3) := by decide +kernel
theorem dX9_digest_152 : decode cX9_digest 152 = .ok (.lload_n 1, 1) := by decide +kernel
theorem dX9_digest_153 : decode cX9_digest 153 = .ok (.lreturn, 1) := by decide +kernel
theorem dJ9_floorMod_7cf53_0 : decode cJ9_floorMod_7cf53 0 = .ok (.iload_n 0, 1) := by decide +kernel
theorem dJ9_floorMod_7cf53_1 : decode cJ9_floorMod_7cf53 1 = .ok (.iload_n 1, 1) := by decide +kernel
theorem dJ9_floorMod_7cf53_2 : decode cJ9_floorMod_7cf53 2 = .ok (.irem, 1) := by decide +kernel
theorem dJ9_floorMod_7cf53_3 : decode cJ9_floorMod_7cf53 3 = .ok (.istore_n 2, 1) := by decide +kernel
theorem dJ9_floorMod_7cf53_4 : decode cJ9_floorMod_7cf53 4 = .ok (.iload_n 0, 1) := by decide +kernel
theorem dJ9_floorMod_7cf53_5 : decode cJ9_floorMod_7cf53 5 = .ok (.iload_n 1, 1) := by decide +kernel
theorem dJ9_floorMod_7cf53_6 : decode cJ9_floorMod_7cf53 6 = .ok (.ixor, 1) := by decide +kernel
theorem dJ9_floorMod_7cf53_7 : decode cJ9_floorMod_7cf53 7 = .ok (.ifCond .ge 11, 3) := by decide +kernel
theorem dJ9_floorMod_7cf53_10 : decode cJ9_floorMod_7cf53 10 = .ok (.iload_n 2, 1) := by decide +kernel
theorem dJ9_floorMod_7cf53_11 : decode cJ9_floorMod_7cf53 11 = .ok (.ifCond .eq 7, 3) := by decide +kernel
theorem dJ9_floorMod_7cf53_14 : decode cJ9_floorMod_7cf53 14 = .ok (.iload_n 2, 1) := by decide +kernel
theorem dJ9_floorMod_7cf53_15 : decode cJ9_floorMod_7cf53 15 = .ok (.iload_n 1, 1) := by decide +kernel
theorem dJ9_floorMod_7cf53_16 : decode cJ9_floorMod_7cf53 16 = .ok (.iadd, 1) := by decide +kernel
theorem dJ9_floorMod_7cf53_17 : decode cJ9_floorMod_7cf53 17 = .ok (.ireturn, 1) := by decide +kernel
theorem dJ9_floorMod_7cf53_18 : decode cJ9_floorMod_7cf53 18 = .ok (.iload_n 2, 1) := by decide +kernel
theorem dJ9_floorMod_7cf53_19 : decode cJ9_floorMod_7cf53 19 = .ok (.ireturn, 1) := by decide +kernel
abbrev vwCl : List vw_C := [(RX0, TX0, 5), (RX1, TX1, 3), (RX2, TX2, 2), (RX3, TX3, 3), (RX4, TX4, 13), (RX5, TX5, 4), (RX6, TX6, 3), (RX7, TX7, 2), (RX8, TX8, 6), (RX9, TX9, 10)]
