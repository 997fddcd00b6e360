set_option maxRecDepth 1000000 in
theorem fc_fq_270 : tr_all am_oke 5 fq_270 = true := by decide +kernel
set_option maxRecDepth 1000000 in
theorem fc_fq_271 : tr_all am_oke 5 fq_271 = true := by decide +kernel
set_option maxRecDepth 1000000 in
theorem fc_fq_272 : tr_all am_oke 5 fq_272 = true := by decide +kernel
set_option maxRecDepth 1000000 in
theorem fc_fq_273 : tr_all am_oke 5 fq_273 = true := by decide +kernel
set_option maxRecDepth 1000000 in
theorem fc_fq_274 : tr_all am_oke 5 fq_274 = true := by decide +kernel
set_option maxRecDepth 1000000 in
theorem fc_fq_275 : tr_all am_oke 5 fq_275 = true := by decide +kernel
set_option maxRecDepth 1000000 in
theorem fc_fq_276 : tr_all am_oke 5 fq_276 = true := by decide +kernel
set_option maxRecDepth 1000000 in
theorem fc_fq_277 : tr_all am_oke 5 fq_277 = true := by decide +kernel
set_option maxRecDepth 1000000 in
theorem fc_fq_278 : tr_all am_oke 5 fq_278 = true := by decide +kernel
set_option maxRecDepth 1000000 in
theorem fc_fq_279 : tr_all am_oke 5 fq_279 = true := by decide +kernel
set_option maxRecDepth 1000000 in
theorem fc_fq_280 : tr_all am_oke 5 fq_280 = true := by decide +kernel
set_option maxRecDepth 1000000 in
theorem fc_fq_281 : tr_all am_oke 5 fq_281 = true := by decide +kernel
set_option maxRecDepth 1000000 in
theorem fc_fq_282 : tr_all am_oke 5 fq_282 = true := by decide +kernel
set_option maxRecDepth 1000000 in
theorem fc_fq_283 : tr_all am_oke 5 fq_283 = true := by decide +kernel
set_option maxRecDepth 1000000 in
theorem fc_fq_284 : tr_all am_oke 5 fq_284 = true := by decide +kernel
set_option maxRecDepth 1000000 in
theorem fc_fq_285 : tr_all am_oke 5 fq_285 = true := by decide +kernel
set_option maxRecDepth 1000000 in
theorem fc_fq_286 : tr_all am_oke 5 fq_286 = true := by decide +kernel
set_option maxRecDepth 1000000 in
theorem fc_fq_287 : tr_all am_oke 5 fq_287 = true := by decide +kernel
set_option maxRecDepth 1000000 in
theorem fc_fq_288 : tr_all am_oke 5 fq_288 = true := by decide +kernel
set_option maxRecDepth 1000000 in
theorem fc_fq_289 : tr_all am_oke 5 fq_289 = true := by decide +kernel
set_option maxRecDepth 1000000 in
theorem fc_fq_290 : tr_all am_oke 5 fq_290 = true := by decide +kernel
set_option maxRecDepth 1000000 in
theorem fc_fq_291 : tr_all am_oke 5 fq_291 = true := by decide +kernel
set_option maxRecDepth 1000000 in
theorem fc_fq_292 : tr_all am_oke 5 fq_292 = true := by decide +kernel
set_option maxRecDepth 1000000 in
theorem fc_fq_293 : tr_all am_oke 5 fq_293 = true := by decide +kernel
set_option maxRecDepth 1000000 in
theorem fc_fq_294 : tr_all am_oke 5 fq_294 = true := by decide +kernel
set_option maxRecDepth 1000000 in
theorem fc_fq_295 : tr_all am_oke 5 fq_295 = true := by decide +kernel
set_option maxRecDepth 1000000 in
theorem fc_fq_296 : tr_all am_oke 5 fq_296 = true := by decide +kernel
set_option maxRecDepth 1000000 in
theorem fc_fq_297 : tr_all am_oke 5 fq_297 = true := by decide +kernel
set_option maxRecDepth 1000000 in
theorem fc_fq_298 : tr_all am_oke 5 fq_298 = true := by decide +kernel
set_option maxRecDepth 1000000 in
theorem fc_fq_299 : tr_all am_oke 5 fq_299 = true := by decide +kernel
set_option maxRecDepth 1000000 in
theorem fc_fq_300 : tr_all am_oke 5 fq_300 = true := by decide +kernel
set_option maxRecDepth 1000000 in
theorem fc_fq_301 : tr_all am_oke 5 fq_301 = true := by decide +kernel
set_option maxRecDepth 1000000 in
theorem fc_fq_302 : tr_all am_oke 5 fq_302 = true := by decide +kernel
set_option maxRecDepth 1000000 in
theorem fc_fq_303 : tr_all am_oke 5 fq_303 = true := by decide +kernel
set_option maxRecDepth 1000000 in
theorem fc_fq_304 : tr_all am_oke 5 fq_304 = true := by decide +kernel
set_option maxRecDepth 1000000 in
theorem fc_fq_305 : tr_all am_oke 5 fq_305 = true := by decide +kernel
set_option maxRecDepth 1000000 in
theorem fc_fq_306 : tr_all am_oke 5 fq_306 = true := by decide +kernel
set_option maxRecDepth 1000000 in
theorem fc_fq_307 : tr_all am_oke 5 fq_307 = true := by decide +kernel
set_option maxRecDepth 1000000 in
theorem fc_fq_308 : tr_all am_oke 5 fq_308 = true := by decide +kernel
set_option maxRecDepth 1000000 in
theorem fc_fq_309 : tr_all am_oke 5 fq_309 = true := by decide +kernel
set_option maxRecDepth 1000000 in
theorem fc_fq_310 : tr_all am_oke 5 fq_310 = true := by decide +kernel
set_option maxRecDepth 1000000 in
theorem fc_fq_311 : tr_all am_oke 5 fq_311 = true := by decide +kernel
set_option maxRecDepth 1000000 in
theorem fc_fq_312 : tr_all am_oke 5 fq_312 = true := by decide +kernel
set_option maxRecDepth 1000000 in
theorem fc_fq_313 : tr_all am_oke 5 fq_313 = true := by decide +kernel
set_option maxRecDepth 1000000 in
theorem fc_fq_314 : tr_all am_oke 5 fq_314 = true := by decide +kernel
set_option maxRecDepth 1000000 in
theorem fc_fq_315 : tr_all am_oke 5 fq_315 = true := by decide +kernel
set_option maxRecDepth 1000000 in
theorem fc_fq_316 : tr_all am_oke 5 fq_316 = true := by decide +kernel
set_option maxRecDepth 1000000 in
theorem fc_fq_317 : tr_all am_oke 5 fq_317 = true := by decide +kernel
set_option maxRecDepth 1000000 in
theorem fc_fq_318 : tr_all am_oke 5 fq_318 = true := by decide +kernel
set_option maxRecDepth 1000000 in
theorem fc_fq_319 : tr_all am_oke 5 fq_319 = true := by decide +kernel
set_option maxRecDepth 1000000 in
theorem fc_fq_320 : tr_all am_oke 5 fq_320 = true := by decide +kernel
set_option maxRecDepth 1000000 in
theorem fc_fq_321 : tr_all am_oke 5 fq_321 = true := by decide +kernel
set_option maxRecDepth 1000000 in
theorem fc_fq_322 : tr_all am_oke 5 fq_322 = true := by decide +kernel
set_option maxRecDepth 1000000 in
theorem fc_fq_323 : tr_all am_oke 5 fq_323 = true := by decide +kernel
set_option maxRecDepth 1000000 in
theorem fc_fq_324 : tr_all am_oke 5 fq_324 = true := by decide +kernel
set_option maxRecDepth 1000000 in
theorem fc_fq_325 : tr_all am_oke 5 fq_325 = true := by decide +kernel
set_option maxRecDepth 1000000 in
theorem fc_fq_326 : tr_all am_oke 5 fq_326 = true := by decide +kernel
set_option maxRecDepth 1000000 in
theorem fc_fq_327 : tr_all am_oke 5 fq_327 = true := by decide +kernel
set_option maxRecDepth 1000000 in
theorem fc_fq_328 : tr_all am_oke 5 fq_328 = true := by decide +kernel
set_option maxRecDepth 1000000 in
theorem fc_fq_329 : tr_all am_oke 5 fq_329 = true := by decide +kernel
set_option maxRecDepth 1000000 in
theorem fc_fq_330 : tr_all am_oke 5 fq_330 = true := by decide +kernel
set_option maxRecDepth 1000000 in
theorem fc_fq_331 : tr_all am_oke 5 fq_331 = true := by decide +kernel
set_option maxRecDepth 1000000 in
theorem fc_fq_332 : tr_all am_oke 5 fq_332 = true := by decide +kernel
set_option maxRecDepth 1000000 in
theorem fc_fq_333 : tr_all am_oke 5 fq_333 = true := by decide +kernel
set_option maxRecDepth 1000000 in
theorem fc_fq_334 : tr_all am_oke 5 fq_334 = true := by decide +kernel
set_option maxRecDepth 1000000 in
theorem fc_fq_335 : tr_all am_oke 5 fq_335 = true := by decide +kernel
set_option maxRecDepth 1000000 in
theorem fc_fq_336 : tr_all am_oke 5 fq_336 = true := by decide +kernel
set_option maxRecDepth 1000000 in
theorem fc_fq_337 : tr_all am_oke 5 fq_337 = true := by decide +kernel
set_option maxRecDepth 1000000 in
theorem fc_fq_338 : tr_all am_oke 5 fq_338 = true := by decide +kernel
set_option maxRecDepth 1000000 in
theorem fc_fq_339 : tr_all am_oke 5 fq_339 = true := by decide +kernel
set_option maxRecDepth 1000000 in
theorem fc_fq_340 : tr_all am_oke 5 fq_340 = true := by decide +kernel
set_option maxRecDepth 1000000 in
theorem fc_fq_341 : tr_all am_oke 5 fq_341 = true := by decide +kernel
set_option maxRecDepth 1000000 in
theorem fc_fq_342 : tr_all am_oke 5 fq_342 = true := by decide +kernel
set_option maxRecDepth 1000000 in
theorem fc_fq_343 : tr_all am_oke 5 fq_343 = true := by decide +kernel
set_option maxRecDepth 1000000 in
theorem fc_fq_344 : tr_all am_oke 5 fq_344 = true := by decide +kernel
set_option maxRecDepth 1000000 in
theorem fc_fq_345 : tr_all am_oke 5 fq_345 = true := by decide +kernel
set_option maxRecDepth 1000000 in
theorem fc_fq_346 : tr_all am_oke 5 fq_346 = true := by decide +kernel
set_option maxRecDepth 1000000 in
theorem fc_fq_347 : tr_all am_oke 5 fq_347 = true := by decide +kernel
set_option maxRecDepth 1000000 in
theorem fc_fq_348 : tr_all am_oke 5 fq_348 = true := by decide +kernel
set_option maxRecDepth 1000000 in
theorem fc_fq_349 : tr_all am_oke 5 fq_349 = true := by decide +kernel
set_option maxRecDepth 1000000 in
theorem fc_fq_350 : tr_all am_oke 5 fq_350 = true := by decide +kernel
set_option maxRecDepth 1000000 in
theorem fc_fq_351 : tr_all am_oke 5 fq_351 = true := by decide +kernel
set_option maxRecDepth 1000000 in
theorem fc_fq_352 : tr_all am_oke 5 fq_352 = true := by decide +kernel
set_option maxRecDepth 1000000 in
theorem fc_fq_353 : tr_all am_oke 5 fq_353 = true := by decide +kernel
set_option maxRecDepth 1000000 in
theorem fc_fq_354 : tr_all am_oke 5 fq_354 = true := by decide +kernel
set_option maxRecDepth 1000000 in
theorem fc_fq_355 : tr_all am_oke 5 fq_355 = true := by decide +kernel
set_option maxRecDepth 1000000 in
theorem fc_fq_356 : tr_all am_oke 5 fq_356 = true := by decide +kernel
set_option maxRecDepth 1000000 in
theorem fc_fq_357 : tr_all am_oke 5 fq_357 = true := by decide +kernel
set_option maxRecDepth 1000000 in
theorem fc_fq_358 : tr_all am_oke 5 fq_358 = true := by decide +kernel
set_option maxRecDepth 1000000 in
theorem fc_fq_359 : tr_all am_oke 5 fq_359 = true := by decide +kernel
