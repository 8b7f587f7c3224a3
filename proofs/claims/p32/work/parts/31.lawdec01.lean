set_option maxRecDepth 20000 in
theorem AdL_law_31lawdec01_0 : decode cL_law 244 = .ok (.aload_n 1, 1) ∧ decode cL_law 245 = .ok (.aload_n 0, 1) ∧ decode cL_law 246 = .ok (.iload_n 3, 1) ∧ decode cL_law 247 = .ok (.iconst 1, 1) ∧ decode cL_law 248 = .ok (.iadd, 1) ∧ decode cL_law 249 = .ok (.iaload, 1) ∧ decode cL_law 250 = .ok (.aload_n 0, 1) ∧ decode cL_law 251 = .ok (.iload_n 3, 1) ∧ decode cL_law 252 = .ok (.iconst 2, 1) ∧ decode cL_law 253 = .ok (.iadd, 1) ∧ decode cL_law 254 = .ok (.iaload, 1) ∧ decode cL_law 255 = .ok (.invokevirtual 31, 3) ∧ decode cL_law 258 = .ok (.pop, 1) ∧ decode cL_law 259 = .ok (.aload_n 2, 1) ∧ decode cL_law 260 = .ok (.aload_n 0, 1) ∧ decode cL_law 261 = .ok (.iload_n 3, 1) := by decide +kernel
theorem dL_law_244 : decode cL_law 244 = .ok (.aload_n 1, 1) := AdL_law_31lawdec01_0.1
theorem dL_law_245 : decode cL_law 245 = .ok (.aload_n 0, 1) := AdL_law_31lawdec01_0.2.1
theorem dL_law_246 : decode cL_law 246 = .ok (.iload_n 3, 1) := AdL_law_31lawdec01_0.2.2.1
theorem dL_law_247 : decode cL_law 247 = .ok (.iconst 1, 1) := AdL_law_31lawdec01_0.2.2.2.1
theorem dL_law_248 : decode cL_law 248 = .ok (.iadd, 1) := AdL_law_31lawdec01_0.2.2.2.2.1
theorem dL_law_249 : decode cL_law 249 = .ok (.iaload, 1) := AdL_law_31lawdec01_0.2.2.2.2.2.1
theorem dL_law_250 : decode cL_law 250 = .ok (.aload_n 0, 1) := AdL_law_31lawdec01_0.2.2.2.2.2.2.1
theorem dL_law_251 : decode cL_law 251 = .ok (.iload_n 3, 1) := AdL_law_31lawdec01_0.2.2.2.2.2.2.2.1
theorem dL_law_252 : decode cL_law 252 = .ok (.iconst 2, 1) := AdL_law_31lawdec01_0.2.2.2.2.2.2.2.2.1
theorem dL_law_253 : decode cL_law 253 = .ok (.iadd, 1) := AdL_law_31lawdec01_0.2.2.2.2.2.2.2.2.2.1
theorem dL_law_254 : decode cL_law 254 = .ok (.iaload, 1) := AdL_law_31lawdec01_0.2.2.2.2.2.2.2.2.2.2.1
theorem dL_law_255 : decode cL_law 255 = .ok (.invokevirtual 31, 3) := AdL_law_31lawdec01_0.2.2.2.2.2.2.2.2.2.2.2.1
theorem dL_law_258 : decode cL_law 258 = .ok (.pop, 1) := AdL_law_31lawdec01_0.2.2.2.2.2.2.2.2.2.2.2.2.1
theorem dL_law_259 : decode cL_law 259 = .ok (.aload_n 2, 1) := AdL_law_31lawdec01_0.2.2.2.2.2.2.2.2.2.2.2.2.2.1
theorem dL_law_260 : decode cL_law 260 = .ok (.aload_n 0, 1) := AdL_law_31lawdec01_0.2.2.2.2.2.2.2.2.2.2.2.2.2.2.1
theorem dL_law_261 : decode cL_law 261 = .ok (.iload_n 3, 1) := AdL_law_31lawdec01_0.2.2.2.2.2.2.2.2.2.2.2.2.2.2.2
set_option maxRecDepth 20000 in
theorem AdL_law_31lawdec01_1 : decode cL_law 262 = .ok (.iconst 1, 1) ∧ decode cL_law 263 = .ok (.iadd, 1) ∧ decode cL_law 264 = .ok (.iaload, 1) ∧ decode cL_law 265 = .ok (.aload_n 0, 1) ∧ decode cL_law 266 = .ok (.iload_n 3, 1) ∧ decode cL_law 267 = .ok (.iconst 2, 1) ∧ decode cL_law 268 = .ok (.iadd, 1) ∧ decode cL_law 269 = .ok (.iaload, 1) ∧ decode cL_law 270 = .ok (.invokevirtual 35, 3) ∧ decode cL_law 273 = .ok (.pop, 1) ∧ decode cL_law 274 = .ok (.goto 567, 3) ∧ decode cL_law 277 = .ok (.aload_n 1, 1) ∧ decode cL_law 278 = .ok (.aload_n 0, 1) ∧ decode cL_law 279 = .ok (.iload_n 3, 1) ∧ decode cL_law 280 = .ok (.iconst 1, 1) ∧ decode cL_law 281 = .ok (.iadd, 1) := by decide +kernel
theorem dL_law_262 : decode cL_law 262 = .ok (.iconst 1, 1) := AdL_law_31lawdec01_1.1
theorem dL_law_263 : decode cL_law 263 = .ok (.iadd, 1) := AdL_law_31lawdec01_1.2.1
theorem dL_law_264 : decode cL_law 264 = .ok (.iaload, 1) := AdL_law_31lawdec01_1.2.2.1
theorem dL_law_265 : decode cL_law 265 = .ok (.aload_n 0, 1) := AdL_law_31lawdec01_1.2.2.2.1
theorem dL_law_266 : decode cL_law 266 = .ok (.iload_n 3, 1) := AdL_law_31lawdec01_1.2.2.2.2.1
theorem dL_law_267 : decode cL_law 267 = .ok (.iconst 2, 1) := AdL_law_31lawdec01_1.2.2.2.2.2.1
theorem dL_law_268 : decode cL_law 268 = .ok (.iadd, 1) := AdL_law_31lawdec01_1.2.2.2.2.2.2.1
theorem dL_law_269 : decode cL_law 269 = .ok (.iaload, 1) := AdL_law_31lawdec01_1.2.2.2.2.2.2.2.1
theorem dL_law_270 : decode cL_law 270 = .ok (.invokevirtual 35, 3) := AdL_law_31lawdec01_1.2.2.2.2.2.2.2.2.1
theorem dL_law_273 : decode cL_law 273 = .ok (.pop, 1) := AdL_law_31lawdec01_1.2.2.2.2.2.2.2.2.2.1
theorem dL_law_274 : decode cL_law 274 = .ok (.goto 567, 3) := AdL_law_31lawdec01_1.2.2.2.2.2.2.2.2.2.2.1
theorem dL_law_277 : decode cL_law 277 = .ok (.aload_n 1, 1) := AdL_law_31lawdec01_1.2.2.2.2.2.2.2.2.2.2.2.1
theorem dL_law_278 : decode cL_law 278 = .ok (.aload_n 0, 1) := AdL_law_31lawdec01_1.2.2.2.2.2.2.2.2.2.2.2.2.1
theorem dL_law_279 : decode cL_law 279 = .ok (.iload_n 3, 1) := AdL_law_31lawdec01_1.2.2.2.2.2.2.2.2.2.2.2.2.2.1
theorem dL_law_280 : decode cL_law 280 = .ok (.iconst 1, 1) := AdL_law_31lawdec01_1.2.2.2.2.2.2.2.2.2.2.2.2.2.2.1
theorem dL_law_281 : decode cL_law 281 = .ok (.iadd, 1) := AdL_law_31lawdec01_1.2.2.2.2.2.2.2.2.2.2.2.2.2.2.2
set_option maxRecDepth 20000 in
theorem AdL_law_31lawdec01_2 : decode cL_law 282 = .ok (.iaload, 1) ∧ decode cL_law 283 = .ok (.aload_n 0, 1) ∧ decode cL_law 284 = .ok (.iload_n 3, 1) ∧ decode cL_law 285 = .ok (.iconst 2, 1) ∧ decode cL_law 286 = .ok (.iadd, 1) ∧ decode cL_law 287 = .ok (.iaload, 1) ∧ decode cL_law 288 = .ok (.invokevirtual 36, 3) ∧ decode cL_law 291 = .ok (.pop, 1) ∧ decode cL_law 292 = .ok (.aload_n 2, 1) ∧ decode cL_law 293 = .ok (.aload_n 0, 1) ∧ decode cL_law 294 = .ok (.iload_n 3, 1) ∧ decode cL_law 295 = .ok (.iconst 1, 1) ∧ decode cL_law 296 = .ok (.iadd, 1) ∧ decode cL_law 297 = .ok (.iaload, 1) ∧ decode cL_law 298 = .ok (.aload_n 0, 1) ∧ decode cL_law 299 = .ok (.iload_n 3, 1) := by decide +kernel
theorem dL_law_282 : decode cL_law 282 = .ok (.iaload, 1) := AdL_law_31lawdec01_2.1
theorem dL_law_283 : decode cL_law 283 = .ok (.aload_n 0, 1) := AdL_law_31lawdec01_2.2.1
theorem dL_law_284 : decode cL_law 284 = .ok (.iload_n 3, 1) := AdL_law_31lawdec01_2.2.2.1
theorem dL_law_285 : decode cL_law 285 = .ok (.iconst 2, 1) := AdL_law_31lawdec01_2.2.2.2.1
theorem dL_law_286 : decode cL_law 286 = .ok (.iadd, 1) := AdL_law_31lawdec01_2.2.2.2.2.1
theorem dL_law_287 : decode cL_law 287 = .ok (.iaload, 1) := AdL_law_31lawdec01_2.2.2.2.2.2.1
theorem dL_law_288 : decode cL_law 288 = .ok (.invokevirtual 36, 3) := AdL_law_31lawdec01_2.2.2.2.2.2.2.1
theorem dL_law_291 : decode cL_law 291 = .ok (.pop, 1) := AdL_law_31lawdec01_2.2.2.2.2.2.2.2.1
theorem dL_law_292 : decode cL_law 292 = .ok (.aload_n 2, 1) := AdL_law_31lawdec01_2.2.2.2.2.2.2.2.2.1
theorem dL_law_293 : decode cL_law 293 = .ok (.aload_n 0, 1) := AdL_law_31lawdec01_2.2.2.2.2.2.2.2.2.2.1
theorem dL_law_294 : decode cL_law 294 = .ok (.iload_n 3, 1) := AdL_law_31lawdec01_2.2.2.2.2.2.2.2.2.2.2.1
theorem dL_law_295 : decode cL_law 295 = .ok (.iconst 1, 1) := AdL_law_31lawdec01_2.2.2.2.2.2.2.2.2.2.2.2.1
theorem dL_law_296 : decode cL_law 296 = .ok (.iadd, 1) := AdL_law_31lawdec01_2.2.2.2.2.2.2.2.2.2.2.2.2.1
theorem dL_law_297 : decode cL_law 297 = .ok (.iaload, 1) := AdL_law_31lawdec01_2.2.2.2.2.2.2.2.2.2.2.2.2.2.1
theorem dL_law_298 : decode cL_law 298 = .ok (.aload_n 0, 1) := AdL_law_31lawdec01_2.2.2.2.2.2.2.2.2.2.2.2.2.2.2.1
theorem dL_law_299 : decode cL_law 299 = .ok (.iload_n 3, 1) := AdL_law_31lawdec01_2.2.2.2.2.2.2.2.2.2.2.2.2.2.2.2
set_option maxRecDepth 20000 in
theorem AdL_law_31lawdec01_3 : decode cL_law 300 = .ok (.iconst 2, 1) ∧ decode cL_law 301 = .ok (.iadd, 1) ∧ decode cL_law 302 = .ok (.iaload, 1) ∧ decode cL_law 303 = .ok (.invokevirtual 39, 3) ∧ decode cL_law 306 = .ok (.pop, 1) ∧ decode cL_law 307 = .ok (.goto 534, 3) ∧ decode cL_law 310 = .ok (.aload_n 1, 1) ∧ decode cL_law 311 = .ok (.invokevirtual 40, 3) ∧ decode cL_law 314 = .ok (.pop, 1) ∧ decode cL_law 315 = .ok (.aload_n 2, 1) ∧ decode cL_law 316 = .ok (.invokevirtual 43, 3) ∧ decode cL_law 319 = .ok (.pop, 1) ∧ decode cL_law 320 = .ok (.goto 521, 3) ∧ decode cL_law 323 = .ok (.aload_n 1, 1) ∧ decode cL_law 324 = .ok (.aload_n 0, 1) ∧ decode cL_law 325 = .ok (.iload_n 3, 1) := by decide +kernel
theorem dL_law_300 : decode cL_law 300 = .ok (.iconst 2, 1) := AdL_law_31lawdec01_3.1
theorem dL_law_301 : decode cL_law 301 = .ok (.iadd, 1) := AdL_law_31lawdec01_3.2.1
theorem dL_law_302 : decode cL_law 302 = .ok (.iaload, 1) := AdL_law_31lawdec01_3.2.2.1
theorem dL_law_303 : decode cL_law 303 = .ok (.invokevirtual 39, 3) := AdL_law_31lawdec01_3.2.2.2.1
theorem dL_law_306 : decode cL_law 306 = .ok (.pop, 1) := AdL_law_31lawdec01_3.2.2.2.2.1
theorem dL_law_307 : decode cL_law 307 = .ok (.goto 534, 3) := AdL_law_31lawdec01_3.2.2.2.2.2.1
theorem dL_law_310 : decode cL_law 310 = .ok (.aload_n 1, 1) := AdL_law_31lawdec01_3.2.2.2.2.2.2.1
theorem dL_law_311 : decode cL_law 311 = .ok (.invokevirtual 40, 3) := AdL_law_31lawdec01_3.2.2.2.2.2.2.2.1
theorem dL_law_314 : decode cL_law 314 = .ok (.pop, 1) := AdL_law_31lawdec01_3.2.2.2.2.2.2.2.2.1
theorem dL_law_315 : decode cL_law 315 = .ok (.aload_n 2, 1) := AdL_law_31lawdec01_3.2.2.2.2.2.2.2.2.2.1
theorem dL_law_316 : decode cL_law 316 = .ok (.invokevirtual 43, 3) := AdL_law_31lawdec01_3.2.2.2.2.2.2.2.2.2.2.1
theorem dL_law_319 : decode cL_law 319 = .ok (.pop, 1) := AdL_law_31lawdec01_3.2.2.2.2.2.2.2.2.2.2.2.1
theorem dL_law_320 : decode cL_law 320 = .ok (.goto 521, 3) := AdL_law_31lawdec01_3.2.2.2.2.2.2.2.2.2.2.2.2.1
theorem dL_law_323 : decode cL_law 323 = .ok (.aload_n 1, 1) := AdL_law_31lawdec01_3.2.2.2.2.2.2.2.2.2.2.2.2.2.1
theorem dL_law_324 : decode cL_law 324 = .ok (.aload_n 0, 1) := AdL_law_31lawdec01_3.2.2.2.2.2.2.2.2.2.2.2.2.2.2.1
theorem dL_law_325 : decode cL_law 325 = .ok (.iload_n 3, 1) := AdL_law_31lawdec01_3.2.2.2.2.2.2.2.2.2.2.2.2.2.2.2
set_option maxRecDepth 20000 in
theorem AdL_law_31lawdec01_4 : decode cL_law 326 = .ok (.iconst 1, 1) ∧ decode cL_law 327 = .ok (.iadd, 1) ∧ decode cL_law 328 = .ok (.iaload, 1) ∧ decode cL_law 329 = .ok (.invokevirtual 44, 3) ∧ decode cL_law 332 = .ok (.pop, 1) ∧ decode cL_law 333 = .ok (.aload_n 2, 1) := by decide +kernel
theorem dL_law_326 : decode cL_law 326 = .ok (.iconst 1, 1) := AdL_law_31lawdec01_4.1
theorem dL_law_327 : decode cL_law 327 = .ok (.iadd, 1) := AdL_law_31lawdec01_4.2.1
theorem dL_law_328 : decode cL_law 328 = .ok (.iaload, 1) := AdL_law_31lawdec01_4.2.2.1
theorem dL_law_329 : decode cL_law 329 = .ok (.invokevirtual 44, 3) := AdL_law_31lawdec01_4.2.2.2.1
theorem dL_law_332 : decode cL_law 332 = .ok (.pop, 1) := AdL_law_31lawdec01_4.2.2.2.2.1
theorem dL_law_333 : decode cL_law 333 = .ok (.aload_n 2, 1) := AdL_law_31lawdec01_4.2.2.2.2.2
