set_option maxRecDepth 1000000 in
theorem fc_fq_200 : tr_all am_oke 5 fq_200 = true := dc_fq (by decide +kernel) (by decide +kernel)
set_option maxRecDepth 1000000 in
theorem fc_fq_201 : tr_all am_oke 5 fq_201 = true := dc_fq (by decide +kernel) (by decide +kernel)
set_option maxRecDepth 1000000 in
theorem fc_fq_202 : tr_all am_oke 5 fq_202 = true := dc_fq (by decide +kernel) (by decide +kernel)
set_option maxRecDepth 1000000 in
theorem fc_fq_203 : tr_all am_oke 5 fq_203 = true := dc_fq (by decide +kernel) (by decide +kernel)
set_option maxRecDepth 1000000 in
theorem fc_fq_204 : tr_all am_oke 5 fq_204 = true := dc_fq (by decide +kernel) (by decide +kernel)
set_option maxRecDepth 1000000 in
theorem fc_fq_205 : tr_all am_oke 5 fq_205 = true := dc_fq (by decide +kernel) (by decide +kernel)
set_option maxRecDepth 1000000 in
theorem fc_fq_206 : tr_all am_oke 5 fq_206 = true := dc_fq (by decide +kernel) (by decide +kernel)
set_option maxRecDepth 1000000 in
theorem fc_fq_207 : tr_all am_oke 5 fq_207 = true := dc_fq (by decide +kernel) (by decide +kernel)
set_option maxRecDepth 1000000 in
theorem fc_fq_208 : tr_all am_oke 5 fq_208 = true := dc_fq (by decide +kernel) (by decide +kernel)
set_option maxRecDepth 1000000 in
theorem fc_fq_209 : tr_all am_oke 5 fq_209 = true := dc_fq (by decide +kernel) (by decide +kernel)
set_option maxRecDepth 1000000 in
theorem fc_fq_210 : tr_all am_oke 5 fq_210 = true := dc_fq (by decide +kernel) (by decide +kernel)
set_option maxRecDepth 1000000 in
theorem fc_fq_211 : tr_all am_oke 5 fq_211 = true := dc_fq (by decide +kernel) (by decide +kernel)
set_option maxRecDepth 1000000 in
theorem fc_fq_212 : tr_all am_oke 5 fq_212 = true := dc_fq (by decide +kernel) (by decide +kernel)
set_option maxRecDepth 1000000 in
theorem fc_fq_213 : tr_all am_oke 5 fq_213 = true := dc_fq (by decide +kernel) (by decide +kernel)
set_option maxRecDepth 1000000 in
theorem fc_fq_214 : tr_all am_oke 5 fq_214 = true := dc_fq (by decide +kernel) (by decide +kernel)
set_option maxRecDepth 1000000 in
theorem fc_fq_215 : tr_all am_oke 5 fq_215 = true := dc_fq (by decide +kernel) (by decide +kernel)
set_option maxRecDepth 1000000 in
theorem fc_fq_216 : tr_all am_oke 5 fq_216 = true := dc_fq (by decide +kernel) (by decide +kernel)
set_option maxRecDepth 1000000 in
theorem fc_fq_217 : tr_all am_oke 5 fq_217 = true := dc_fq (by decide +kernel) (by decide +kernel)
set_option maxRecDepth 1000000 in
theorem fc_fq_218 : tr_all am_oke 5 fq_218 = true := dc_fq (by decide +kernel) (by decide +kernel)
set_option maxRecDepth 1000000 in
theorem fc_fq_219 : tr_all am_oke 5 fq_219 = true := dc_fq (by decide +kernel) (by decide +kernel)
set_option maxRecDepth 1000000 in
theorem fc_fq_220 : tr_all am_oke 5 fq_220 = true := dc_fq (by decide +kernel) (by decide +kernel)
set_option maxRecDepth 1000000 in
theorem fc_fq_221 : tr_all am_oke 5 fq_221 = true := dc_fq (by decide +kernel) (by decide +kernel)
set_option maxRecDepth 1000000 in
theorem fc_fq_222 : tr_all am_oke 5 fq_222 = true := dc_fq (by decide +kernel) (by decide +kernel)
set_option maxRecDepth 1000000 in
theorem fc_fq_223 : tr_all am_oke 5 fq_223 = true := dc_fq (by decide +kernel) (by decide +kernel)
set_option maxRecDepth 1000000 in
theorem fc_fq_224 : tr_all am_oke 5 fq_224 = true := dc_fq (by decide +kernel) (by decide +kernel)
set_option maxRecDepth 1000000 in
theorem fc_fq_225 : tr_all am_oke 5 fq_225 = true := dc_fq (by decide +kernel) (by decide +kernel)
set_option maxRecDepth 1000000 in
theorem fc_fq_226 : tr_all am_oke 5 fq_226 = true := dc_fq (by decide +kernel) (by decide +kernel)
set_option maxRecDepth 1000000 in
theorem fc_fq_227 : tr_all am_oke 5 fq_227 = true := dc_fq (by decide +kernel) (by decide +kernel)
set_option maxRecDepth 1000000 in
theorem fc_fq_228 : tr_all am_oke 5 fq_228 = true := dc_fq (by decide +kernel) (by decide +kernel)
set_option maxRecDepth 1000000 in
theorem fc_fq_229 : tr_all am_oke 5 fq_229 = true := dc_fq (by decide +kernel) (by decide +kernel)
set_option maxRecDepth 1000000 in
theorem fc_fq_230 : tr_all am_oke 5 fq_230 = true := dc_fq (by decide +kernel) (by decide +kernel)
set_option maxRecDepth 1000000 in
theorem fc_fq_231 : tr_all am_oke 5 fq_231 = true := dc_fq (by decide +kernel) (by decide +kernel)
set_option maxRecDepth 1000000 in
theorem fc_fq_232 : tr_all am_oke 5 fq_232 = true := dc_fq (by decide +kernel) (by decide +kernel)
set_option maxRecDepth 1000000 in
theorem fc_fq_233 : tr_all am_oke 5 fq_233 = true := dc_fq (by decide +kernel) (by decide +kernel)
set_option maxRecDepth 1000000 in
theorem fc_fq_234 : tr_all am_oke 5 fq_234 = true := dc_fq (by decide +kernel) (by decide +kernel)
set_option maxRecDepth 1000000 in
theorem fc_fq_235 : tr_all am_oke 5 fq_235 = true := dc_fq (by decide +kernel) (by decide +kernel)
set_option maxRecDepth 1000000 in
theorem fc_fq_236 : tr_all am_oke 5 fq_236 = true := dc_fq (by decide +kernel) (by decide +kernel)
set_option maxRecDepth 1000000 in
theorem fc_fq_237 : tr_all am_oke 5 fq_237 = true := dc_fq (by decide +kernel) (by decide +kernel)
set_option maxRecDepth 1000000 in
theorem fc_fq_238 : tr_all am_oke 5 fq_238 = true := dc_fq (by decide +kernel) (by decide +kernel)
set_option maxRecDepth 1000000 in
theorem fc_fq_239 : tr_all am_oke 5 fq_239 = true := dc_fq (by decide +kernel) (by decide +kernel)
set_option maxRecDepth 1000000 in
theorem fc_fq_240 : tr_all am_oke 5 fq_240 = true := dc_fq (by decide +kernel) (by decide +kernel)
set_option maxRecDepth 1000000 in
theorem fc_fq_241 : tr_all am_oke 5 fq_241 = true := dc_fq (by decide +kernel) (by decide +kernel)
set_option maxRecDepth 1000000 in
theorem fc_fq_242 : tr_all am_oke 5 fq_242 = true := dc_fq (by decide +kernel) (by decide +kernel)
set_option maxRecDepth 1000000 in
theorem fc_fq_243 : tr_all am_oke 5 fq_243 = true := dc_fq (by decide +kernel) (by decide +kernel)
set_option maxRecDepth 1000000 in
theorem fc_fq_244 : tr_all am_oke 5 fq_244 = true := dc_fq (by decide +kernel) (by decide +kernel)
set_option maxRecDepth 1000000 in
theorem fc_fq_245 : tr_all am_oke 5 fq_245 = true := dc_fq (by decide +kernel) (by decide +kernel)
set_option maxRecDepth 1000000 in
theorem fc_fq_246 : tr_all am_oke 5 fq_246 = true := dc_fq (by decide +kernel) (by decide +kernel)
set_option maxRecDepth 1000000 in
theorem fc_fq_247 : tr_all am_oke 5 fq_247 = true := dc_fq (by decide +kernel) (by decide +kernel)
set_option maxRecDepth 1000000 in
theorem fc_fq_248 : tr_all am_oke 5 fq_248 = true := dc_fq (by decide +kernel) (by decide +kernel)
set_option maxRecDepth 1000000 in
theorem fc_fq_249 : tr_all am_oke 5 fq_249 = true := dc_fq (by decide +kernel) (by decide +kernel)
set_option maxRecDepth 1000000 in
theorem fc_fq_250 : tr_all am_oke 5 fq_250 = true := dc_fq (by decide +kernel) (by decide +kernel)
set_option maxRecDepth 1000000 in
theorem fc_fq_251 : tr_all am_oke 5 fq_251 = true := dc_fq (by decide +kernel) (by decide +kernel)
set_option maxRecDepth 1000000 in
theorem fc_fq_252 : tr_all am_oke 5 fq_252 = true := dc_fq (by decide +kernel) (by decide +kernel)
set_option maxRecDepth 1000000 in
theorem fc_fq_253 : tr_all am_oke 5 fq_253 = true := dc_fq (by decide +kernel) (by decide +kernel)
set_option maxRecDepth 1000000 in
theorem fc_fq_254 : tr_all am_oke 5 fq_254 = true := dc_fq (by decide +kernel) (by decide +kernel)
set_option maxRecDepth 1000000 in
theorem fc_fq_255 : tr_all am_oke 5 fq_255 = true := dc_fq (by decide +kernel) (by decide +kernel)
set_option maxRecDepth 1000000 in
theorem fc_fq_256 : tr_all am_oke 5 fq_256 = true := dc_fq (by decide +kernel) (by decide +kernel)
set_option maxRecDepth 1000000 in
theorem fc_fq_257 : tr_all am_oke 5 fq_257 = true := dc_fq (by decide +kernel) (by decide +kernel)
set_option maxRecDepth 1000000 in
theorem fc_fq_258 : tr_all am_oke 5 fq_258 = true := dc_fq (by decide +kernel) (by decide +kernel)
set_option maxRecDepth 1000000 in
theorem fc_fq_259 : tr_all am_oke 5 fq_259 = true := dc_fq (by decide +kernel) (by decide +kernel)
set_option maxRecDepth 1000000 in
theorem fc_fq_260 : tr_all am_oke 5 fq_260 = true := dc_fq (by decide +kernel) (by decide +kernel)
set_option maxRecDepth 1000000 in
theorem fc_fq_261 : tr_all am_oke 5 fq_261 = true := dc_fq (by decide +kernel) (by decide +kernel)
set_option maxRecDepth 1000000 in
theorem fc_fq_262 : tr_all am_oke 5 fq_262 = true := dc_fq (by decide +kernel) (by decide +kernel)
set_option maxRecDepth 1000000 in
theorem fc_fq_263 : tr_all am_oke 5 fq_263 = true := dc_fq (by decide +kernel) (by decide +kernel)
set_option maxRecDepth 1000000 in
theorem fc_fq_264 : tr_all am_oke 5 fq_264 = true := dc_fq (by decide +kernel) (by decide +kernel)
set_option maxRecDepth 1000000 in
theorem fc_fq_265 : tr_all am_oke 5 fq_265 = true := dc_fq (by decide +kernel) (by decide +kernel)
set_option maxRecDepth 1000000 in
theorem fc_fq_266 : tr_all am_oke 5 fq_266 = true := dc_fq (by decide +kernel) (by decide +kernel)
set_option maxRecDepth 1000000 in
theorem fc_fq_267 : tr_all am_oke 5 fq_267 = true := dc_fq (by decide +kernel) (by decide +kernel)
set_option maxRecDepth 1000000 in
theorem fc_fq_268 : tr_all am_oke 5 fq_268 = true := dc_fq (by decide +kernel) (by decide +kernel)
set_option maxRecDepth 1000000 in
theorem fc_fq_269 : tr_all am_oke 5 fq_269 = true := dc_fq (by decide +kernel) (by decide +kernel)
set_option maxRecDepth 1000000 in
theorem fc_fq_270 : tr_all am_oke 5 fq_270 = true := dc_fq (by decide +kernel) (by decide +kernel)
set_option maxRecDepth 1000000 in
theorem fc_fq_271 : tr_all am_oke 5 fq_271 = true := dc_fq (by decide +kernel) (by decide +kernel)
set_option maxRecDepth 1000000 in
theorem fc_fq_272 : tr_all am_oke 5 fq_272 = true := dc_fq (by decide +kernel) (by decide +kernel)
set_option maxRecDepth 1000000 in
theorem fc_fq_273 : tr_all am_oke 5 fq_273 = true := dc_fq (by decide +kernel) (by decide +kernel)
set_option maxRecDepth 1000000 in
theorem fc_fq_274 : tr_all am_oke 5 fq_274 = true := dc_fq (by decide +kernel) (by decide +kernel)
set_option maxRecDepth 1000000 in
theorem fc_fq_275 : tr_all am_oke 5 fq_275 = true := dc_fq (by decide +kernel) (by decide +kernel)
set_option maxRecDepth 1000000 in
theorem fc_fq_276 : tr_all am_oke 5 fq_276 = true := dc_fq (by decide +kernel) (by decide +kernel)
set_option maxRecDepth 1000000 in
theorem fc_fq_277 : tr_all am_oke 5 fq_277 = true := dc_fq (by decide +kernel) (by decide +kernel)
set_option maxRecDepth 1000000 in
theorem fc_fq_278 : tr_all am_oke 5 fq_278 = true := dc_fq (by decide +kernel) (by decide +kernel)
set_option maxRecDepth 1000000 in
theorem fc_fq_279 : tr_all am_oke 5 fq_279 = true := dc_fq (by decide +kernel) (by decide +kernel)
set_option maxRecDepth 1000000 in
theorem fc_fq_280 : tr_all am_oke 5 fq_280 = true := dc_fq (by decide +kernel) (by decide +kernel)
set_option maxRecDepth 1000000 in
theorem fc_fq_281 : tr_all am_oke 5 fq_281 = true := dc_fq (by decide +kernel) (by decide +kernel)
set_option maxRecDepth 1000000 in
theorem fc_fq_282 : tr_all am_oke 5 fq_282 = true := dc_fq (by decide +kernel) (by decide +kernel)
set_option maxRecDepth 1000000 in
theorem fc_fq_283 : tr_all am_oke 5 fq_283 = true := dc_fq (by decide +kernel) (by decide +kernel)
set_option maxRecDepth 1000000 in
theorem fc_fq_284 : tr_all am_oke 5 fq_284 = true := dc_fq (by decide +kernel) (by decide +kernel)
set_option maxRecDepth 1000000 in
theorem fc_fq_285 : tr_all am_oke 5 fq_285 = true := dc_fq (by decide +kernel) (by decide +kernel)
set_option maxRecDepth 1000000 in
theorem fc_fq_286 : tr_all am_oke 5 fq_286 = true := dc_fq (by decide +kernel) (by decide +kernel)
set_option maxRecDepth 1000000 in
theorem fc_fq_287 : tr_all am_oke 5 fq_287 = true := dc_fq (by decide +kernel) (by decide +kernel)
set_option maxRecDepth 1000000 in
theorem fc_fq_288 : tr_all am_oke 5 fq_288 = true := dc_fq (by decide +kernel) (by decide +kernel)
set_option maxRecDepth 1000000 in
theorem fc_fq_289 : tr_all am_oke 5 fq_289 = true := dc_fq (by decide +kernel) (by decide +kernel)
set_option maxRecDepth 1000000 in
theorem fc_fq_290 : tr_all am_oke 5 fq_290 = true := dc_fq (by decide +kernel) (by decide +kernel)
set_option maxRecDepth 1000000 in
theorem fc_fq_291 : tr_all am_oke 5 fq_291 = true := dc_fq (by decide +kernel) (by decide +kernel)
set_option maxRecDepth 1000000 in
theorem fc_fq_292 : tr_all am_oke 5 fq_292 = true := dc_fq (by decide +kernel) (by decide +kernel)
set_option maxRecDepth 1000000 in
theorem fc_fq_293 : tr_all am_oke 5 fq_293 = true := dc_fq (by decide +kernel) (by decide +kernel)
set_option maxRecDepth 1000000 in
theorem fc_fq_294 : tr_all am_oke 5 fq_294 = true := dc_fq (by decide +kernel) (by decide +kernel)
set_option maxRecDepth 1000000 in
theorem fc_fq_295 : tr_all am_oke 5 fq_295 = true := dc_fq (by decide +kernel) (by decide +kernel)
set_option maxRecDepth 1000000 in
theorem fc_fq_296 : tr_all am_oke 5 fq_296 = true := dc_fq (by decide +kernel) (by decide +kernel)
set_option maxRecDepth 1000000 in
theorem fc_fq_297 : tr_all am_oke 5 fq_297 = true := dc_fq (by decide +kernel) (by decide +kernel)
set_option maxRecDepth 1000000 in
theorem fc_fq_298 : tr_all am_oke 5 fq_298 = true := dc_fq (by decide +kernel) (by decide +kernel)
set_option maxRecDepth 1000000 in
theorem fc_fq_299 : tr_all am_oke 5 fq_299 = true := dc_fq (by decide +kernel) (by decide +kernel)
set_option maxRecDepth 1000000 in
theorem fc_fq_300 : tr_all am_oke 5 fq_300 = true := dc_fq (by decide +kernel) (by decide +kernel)
set_option maxRecDepth 1000000 in
theorem fc_fq_301 : tr_all am_oke 5 fq_301 = true := dc_fq (by decide +kernel) (by decide +kernel)
set_option maxRecDepth 1000000 in
theorem fc_fq_302 : tr_all am_oke 5 fq_302 = true := dc_fq (by decide +kernel) (by decide +kernel)
set_option maxRecDepth 1000000 in
theorem fc_fq_303 : tr_all am_oke 5 fq_303 = true := dc_fq (by decide +kernel) (by decide +kernel)
set_option maxRecDepth 1000000 in
theorem fc_fq_304 : tr_all am_oke 5 fq_304 = true := dc_fq (by decide +kernel) (by decide +kernel)
set_option maxRecDepth 1000000 in
theorem fc_fq_305 : tr_all am_oke 5 fq_305 = true := dc_fq (by decide +kernel) (by decide +kernel)
set_option maxRecDepth 1000000 in
theorem fc_fq_306 : tr_all am_oke 5 fq_306 = true := dc_fq (by decide +kernel) (by decide +kernel)
set_option maxRecDepth 1000000 in
theorem fc_fq_307 : tr_all am_oke 5 fq_307 = true := dc_fq (by decide +kernel) (by decide +kernel)
set_option maxRecDepth 1000000 in
theorem fc_fq_308 : tr_all am_oke 5 fq_308 = true := dc_fq (by decide +kernel) (by decide +kernel)
set_option maxRecDepth 1000000 in
theorem fc_fq_309 : tr_all am_oke 5 fq_309 = true := dc_fq (by decide +kernel) (by decide +kernel)
set_option maxRecDepth 1000000 in
theorem fc_fq_310 : tr_all am_oke 5 fq_310 = true := dc_fq (by decide +kernel) (by decide +kernel)
set_option maxRecDepth 1000000 in
theorem fc_fq_311 : tr_all am_oke 5 fq_311 = true := dc_fq (by decide +kernel) (by decide +kernel)
set_option maxRecDepth 1000000 in
theorem fc_fq_312 : tr_all am_oke 5 fq_312 = true := dc_fq (by decide +kernel) (by decide +kernel)
set_option maxRecDepth 1000000 in
theorem fc_fq_313 : tr_all am_oke 5 fq_313 = true := dc_fq (by decide +kernel) (by decide +kernel)
set_option maxRecDepth 1000000 in
theorem fc_fq_314 : tr_all am_oke 5 fq_314 = true := dc_fq (by decide +kernel) (by decide +kernel)
set_option maxRecDepth 1000000 in
theorem fc_fq_315 : tr_all am_oke 5 fq_315 = true := dc_fq (by decide +kernel) (by decide +kernel)
set_option maxRecDepth 1000000 in
theorem fc_fq_316 : tr_all am_oke 5 fq_316 = true := dc_fq (by decide +kernel) (by decide +kernel)
set_option maxRecDepth 1000000 in
theorem fc_fq_317 : tr_all am_oke 5 fq_317 = true := dc_fq (by decide +kernel) (by decide +kernel)
set_option maxRecDepth 1000000 in
theorem fc_fq_318 : tr_all am_oke 5 fq_318 = true := dc_fq (by decide +kernel) (by decide +kernel)
set_option maxRecDepth 1000000 in
theorem fc_fq_319 : tr_all am_oke 5 fq_319 = true := dc_fq (by decide +kernel) (by decide +kernel)
set_option maxRecDepth 1000000 in
theorem fc_fq_320 : tr_all am_oke 5 fq_320 = true := dc_fq (by decide +kernel) (by decide +kernel)
set_option maxRecDepth 1000000 in
theorem fc_fq_321 : tr_all am_oke 5 fq_321 = true := dc_fq (by decide +kernel) (by decide +kernel)
set_option maxRecDepth 1000000 in
theorem fc_fq_322 : tr_all am_oke 5 fq_322 = true := dc_fq (by decide +kernel) (by decide +kernel)
set_option maxRecDepth 1000000 in
theorem fc_fq_323 : tr_all am_oke 5 fq_323 = true := dc_fq (by decide +kernel) (by decide +kernel)
set_option maxRecDepth 1000000 in
theorem fc_fq_324 : tr_all am_oke 5 fq_324 = true := dc_fq (by decide +kernel) (by decide +kernel)
set_option maxRecDepth 1000000 in
theorem fc_fq_325 : tr_all am_oke 5 fq_325 = true := dc_fq (by decide +kernel) (by decide +kernel)
set_option maxRecDepth 1000000 in
theorem fc_fq_326 : tr_all am_oke 5 fq_326 = true := dc_fq (by decide +kernel) (by decide +kernel)
set_option maxRecDepth 1000000 in
theorem fc_fq_327 : tr_all am_oke 5 fq_327 = true := dc_fq (by decide +kernel) (by decide +kernel)
set_option maxRecDepth 1000000 in
theorem fc_fq_328 : tr_all am_oke 5 fq_328 = true := dc_fq (by decide +kernel) (by decide +kernel)
set_option maxRecDepth 1000000 in
theorem fc_fq_329 : tr_all am_oke 5 fq_329 = true := dc_fq (by decide +kernel) (by decide +kernel)
set_option maxRecDepth 1000000 in
theorem fc_fq_330 : tr_all am_oke 5 fq_330 = true := dc_fq (by decide +kernel) (by decide +kernel)
set_option maxRecDepth 1000000 in
theorem fc_fq_331 : tr_all am_oke 5 fq_331 = true := dc_fq (by decide +kernel) (by decide +kernel)
set_option maxRecDepth 1000000 in
theorem fc_fq_332 : tr_all am_oke 5 fq_332 = true := dc_fq (by decide +kernel) (by decide +kernel)
set_option maxRecDepth 1000000 in
theorem fc_fq_333 : tr_all am_oke 5 fq_333 = true := dc_fq (by decide +kernel) (by decide +kernel)
set_option maxRecDepth 1000000 in
theorem fc_fq_334 : tr_all am_oke 5 fq_334 = true := dc_fq (by decide +kernel) (by decide +kernel)
set_option maxRecDepth 1000000 in
theorem fc_fq_335 : tr_all am_oke 5 fq_335 = true := dc_fq (by decide +kernel) (by decide +kernel)
set_option maxRecDepth 1000000 in
theorem fc_fq_336 : tr_all am_oke 5 fq_336 = true := dc_fq (by decide +kernel) (by decide +kernel)
set_option maxRecDepth 1000000 in
theorem fc_fq_337 : tr_all am_oke 5 fq_337 = true := dc_fq (by decide +kernel) (by decide +kernel)
set_option maxRecDepth 1000000 in
theorem fc_fq_338 : tr_all am_oke 5 fq_338 = true := dc_fq (by decide +kernel) (by decide +kernel)
set_option maxRecDepth 1000000 in
theorem fc_fq_339 : tr_all am_oke 5 fq_339 = true := dc_fq (by decide +kernel) (by decide +kernel)
set_option maxRecDepth 1000000 in
theorem fc_fq_340 : tr_all am_oke 5 fq_340 = true := dc_fq (by decide +kernel) (by decide +kernel)
set_option maxRecDepth 1000000 in
theorem fc_fq_341 : tr_all am_oke 5 fq_341 = true := dc_fq (by decide +kernel) (by decide +kernel)
set_option maxRecDepth 1000000 in
theorem fc_fq_342 : tr_all am_oke 5 fq_342 = true := dc_fq (by decide +kernel) (by decide +kernel)
set_option maxRecDepth 1000000 in
theorem fc_fq_343 : tr_all am_oke 5 fq_343 = true := dc_fq (by decide +kernel) (by decide +kernel)
set_option maxRecDepth 1000000 in
theorem fc_fq_344 : tr_all am_oke 5 fq_344 = true := dc_fq (by decide +kernel) (by decide +kernel)
set_option maxRecDepth 1000000 in
theorem fc_fq_345 : tr_all am_oke 5 fq_345 = true := dc_fq (by decide +kernel) (by decide +kernel)
set_option maxRecDepth 1000000 in
theorem fc_fq_346 : tr_all am_oke 5 fq_346 = true := dc_fq (by decide +kernel) (by decide +kernel)
set_option maxRecDepth 1000000 in
theorem fc_fq_347 : tr_all am_oke 5 fq_347 = true := dc_fq (by decide +kernel) (by decide +kernel)
set_option maxRecDepth 1000000 in
theorem fc_fq_348 : tr_all am_oke 5 fq_348 = true := dc_fq (by decide +kernel) (by decide +kernel)
set_option maxRecDepth 1000000 in
theorem fc_fq_349 : tr_all am_oke 5 fq_349 = true := dc_fq (by decide +kernel) (by decide +kernel)
set_option maxRecDepth 1000000 in
theorem fc_fq_350 : tr_all am_oke 5 fq_350 = true := dc_fq (by decide +kernel) (by decide +kernel)
set_option maxRecDepth 1000000 in
theorem fc_fq_351 : tr_all am_oke 5 fq_351 = true := dc_fq (by decide +kernel) (by decide +kernel)
set_option maxRecDepth 1000000 in
theorem fc_fq_352 : tr_all am_oke 5 fq_352 = true := dc_fq (by decide +kernel) (by decide +kernel)
set_option maxRecDepth 1000000 in
theorem fc_fq_353 : tr_all am_oke 5 fq_353 = true := dc_fq (by decide +kernel) (by decide +kernel)
set_option maxRecDepth 1000000 in
theorem fc_fq_354 : tr_all am_oke 5 fq_354 = true := dc_fq (by decide +kernel) (by decide +kernel)
set_option maxRecDepth 1000000 in
theorem fc_fq_355 : tr_all am_oke 5 fq_355 = true := dc_fq (by decide +kernel) (by decide +kernel)
set_option maxRecDepth 1000000 in
theorem fc_fq_356 : tr_all am_oke 5 fq_356 = true := dc_fq (by decide +kernel) (by decide +kernel)
set_option maxRecDepth 1000000 in
theorem fc_fq_357 : tr_all am_oke 5 fq_357 = true := dc_fq (by decide +kernel) (by decide +kernel)
set_option maxRecDepth 1000000 in
theorem fc_fq_358 : tr_all am_oke 5 fq_358 = true := dc_fq (by decide +kernel) (by decide +kernel)
set_option maxRecDepth 1000000 in
theorem fc_fq_359 : tr_all am_oke 5 fq_359 = true := dc_fq (by decide +kernel) (by decide +kernel)
set_option maxRecDepth 1000000 in
theorem fc_fq_360 : tr_all am_oke 5 fq_360 = true := dc_fq (by decide +kernel) (by decide +kernel)
set_option maxRecDepth 1000000 in
theorem fc_fq_361 : tr_all am_oke 5 fq_361 = true := dc_fq (by decide +kernel) (by decide +kernel)
set_option maxRecDepth 1000000 in
theorem fc_fq_362 : tr_all am_oke 5 fq_362 = true := dc_fq (by decide +kernel) (by decide +kernel)
