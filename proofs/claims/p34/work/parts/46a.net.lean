/-- yX5_agrees -/
def ct_241 : ax_c := (47, 0, [.inr [15, 16, 17, 18, 19, 20, 21, 22, 23, 24, 25, 26, 27], .inr [6], .inl (false, [(.ofNat 0, .ofNat 0)])], [(11, 0, [(.ofNat 0, .ofNat 7)])], [(some (false, [(.ofNat 0, .ofNat 1)]), [])], [])
def an_241 : ax_n := []
set_option maxRecDepth 1000000 in
theorem go_241 : ax_go an_241 [] 4000 ct_241 = true := by decide +kernel
theorem mt_241 : ax_Met ct_241 := ax_go_ok ax_M0 go_241
/-- yX5_agrees -/
def ct_242 : ax_c := (47, 0, [.inr [15, 16, 17, 18, 19, 20, 21, 22, 23, 24, 25, 26, 27], .inr [6], .inl (false, [(.ofNat 1, .ofNat 1)])], [(11, 1, [(.ofNat 0, .ofNat 7)])], [(some (false, [(.ofNat 0, .ofNat 1)]), [])], [])
def an_242 : ax_n := []
set_option maxRecDepth 1000000 in
theorem go_242 : ax_go an_242 [] 4000 ct_242 = true := by decide +kernel
theorem mt_242 : ax_Met ct_242 := ax_go_ok ax_M0 go_242
/-- yX5_agrees -/
def ct_243 : ax_c := (47, 0, [.inr [15, 16, 17, 18, 19, 20, 21, 22, 23, 24, 25, 26, 27], .inr [6], .inl (false, [(.ofNat 2, .ofNat 2)])], [(11, 2, [(.ofNat 0, .ofNat 7)])], [(some (false, [(.ofNat 0, .ofNat 1)]), [])], [])
def an_243 : ax_n := []
set_option maxRecDepth 1000000 in
theorem go_243 : ax_go an_243 [] 4000 ct_243 = true := by decide +kernel
theorem mt_243 : ax_Met ct_243 := ax_go_ok ax_M0 go_243
/-- yX5_agrees -/
def ct_244 : ax_c := (47, 0, [.inr [15, 16, 17, 18, 19, 20, 21, 22, 23, 24, 25, 26, 27], .inr [6], .inl (false, [(.ofNat 3, .ofNat 3)])], [(11, 3, [(.ofNat 0, .ofNat 7)])], [(some (false, [(.ofNat 0, .ofNat 1)]), [])], [])
def an_244 : ax_n := []
set_option maxRecDepth 1000000 in
theorem go_244 : ax_go an_244 [] 4000 ct_244 = true := by decide +kernel
theorem mt_244 : ax_Met ct_244 := ax_go_ok ax_M0 go_244
/-- yX5_agrees -/
def ct_245 : ax_c := (47, 0, [.inr [15, 16, 17, 18, 19, 20, 21, 22, 23, 24, 25, 26, 27], .inr [6], .inl (false, [(.ofNat 4, .ofNat 4)])], [(11, 4, [(.ofNat 0, .ofNat 7)])], [(some (false, [(.ofNat 0, .ofNat 1)]), [])], [])
def an_245 : ax_n := []
set_option maxRecDepth 1000000 in
theorem go_245 : ax_go an_245 [] 4000 ct_245 = true := by decide +kernel
theorem mt_245 : ax_Met ct_245 := ax_go_ok ax_M0 go_245
/-- yX5_agrees -/
def ct_246 : ax_c := (47, 0, [.inr [15, 16, 17, 18, 19, 20, 21, 22, 23, 24, 25, 26, 27], .inr [6], .inl (false, [(.ofNat 5, .ofNat 5)])], [(11, 5, [(.ofNat 0, .ofNat 7)])], [(some (false, [(.ofNat 0, .ofNat 1)]), [])], [])
def an_246 : ax_n := []
set_option maxRecDepth 1000000 in
theorem go_246 : ax_go an_246 [] 4000 ct_246 = true := by decide +kernel
theorem mt_246 : ax_Met ct_246 := ax_go_ok ax_M0 go_246
/-- yX5_agrees -/
def ct_247 : ax_c := (47, 0, [.inr [15, 16, 17, 18, 19, 20, 21, 22, 23, 24, 25, 26, 27], .inr [6], .inl (false, [(.ofNat 6, .ofNat 6)])], [(11, 6, [(.ofNat 0, .ofNat 7)])], [(some (false, [(.ofNat 0, .ofNat 1)]), [])], [])
def an_247 : ax_n := []
set_option maxRecDepth 1000000 in
theorem go_247 : ax_go an_247 [] 4000 ct_247 = true := by decide +kernel
theorem mt_247 : ax_Met ct_247 := ax_go_ok ax_M0 go_247
/-- yX5_agrees -/
def ct_248 : ax_c := (47, 0, [.inr [15, 16, 17, 18, 19, 20, 21, 22, 23, 24, 25, 26, 27], .inr [6], .inl (false, [(.ofNat 7, .ofNat 7)])], [(11, 7, [(.ofNat 0, .ofNat 7)])], [(some (false, [(.ofNat 0, .ofNat 1)]), [])], [])
def an_248 : ax_n := []
set_option maxRecDepth 1000000 in
theorem go_248 : ax_go an_248 [] 4000 ct_248 = true := by decide +kernel
theorem mt_248 : ax_Met ct_248 := ax_go_ok ax_M0 go_248
/-- yX5_agrees -/
def ct_249 : ax_c := (47, 0, [.inr [15, 16, 17, 18, 19, 20, 21, 22, 23, 24, 25, 26, 27], .inr [6], .inl (false, [(.ofNat 8, .ofNat 8)])], [(11, 8, [(.ofNat 0, .ofNat 7)])], [(some (false, [(.ofNat 0, .ofNat 1)]), [])], [])
def an_249 : ax_n := []
set_option maxRecDepth 1000000 in
theorem go_249 : ax_go an_249 [] 4000 ct_249 = true := by decide +kernel
theorem mt_249 : ax_Met ct_249 := ax_go_ok ax_M0 go_249
/-- yX5_agrees -/
def ct_250 : ax_c := (47, 0, [.inr [15, 16, 17, 18, 19, 20, 21, 22, 23, 24, 25, 26, 27], .inr [6], .inl (false, [(.ofNat 9, .ofNat 9)])], [(11, 9, [(.ofNat 0, .ofNat 7)])], [(some (false, [(.ofNat 0, .ofNat 1)]), [])], [])
def an_250 : ax_n := []
set_option maxRecDepth 1000000 in
theorem go_250 : ax_go an_250 [] 4000 ct_250 = true := by decide +kernel
theorem mt_250 : ax_Met ct_250 := ax_go_ok ax_M0 go_250
/-- yX5_agrees -/
def ct_251 : ax_c := (47, 0, [.inr [15, 16, 17, 18, 19, 20, 21, 22, 23, 24, 25, 26, 27], .inr [6], .inl (false, [(.ofNat 10, .ofNat 10)])], [(11, 10, [(.ofNat 0, .ofNat 7)])], [(some (false, [(.ofNat 0, .ofNat 1)]), [])], [])
def an_251 : ax_n := []
set_option maxRecDepth 1000000 in
theorem go_251 : ax_go an_251 [] 4000 ct_251 = true := by decide +kernel
theorem mt_251 : ax_Met ct_251 := ax_go_ok ax_M0 go_251
/-- yX5_agrees -/
def ct_252 : ax_c := (47, 0, [.inr [15, 16, 17, 18, 19, 20, 21, 22, 23, 24, 25, 26, 27], .inr [6], .inl (false, [(.ofNat 11, .ofNat 11)])], [(11, 11, [(.ofNat 0, .ofNat 7)])], [(some (false, [(.ofNat 0, .ofNat 1)]), [])], [])
def an_252 : ax_n := []
set_option maxRecDepth 1000000 in
theorem go_252 : ax_go an_252 [] 4000 ct_252 = true := by decide +kernel
theorem mt_252 : ax_Met ct_252 := ax_go_ok ax_M0 go_252
/-- yX5_agrees -/
def ct_253 : ax_c := (47, 0, [.inr [15, 16, 17, 18, 19, 20, 21, 22, 23, 24, 25, 26, 27], .inr [6], .inl (false, [(.ofNat 12, .ofNat 12)])], [(11, 12, [(.ofNat 0, .ofNat 7)])], [(some (false, [(.ofNat 0, .ofNat 1)]), [])], [])
def an_253 : ax_n := []
set_option maxRecDepth 1000000 in
theorem go_253 : ax_go an_253 [] 4000 ct_253 = true := by decide +kernel
theorem mt_253 : ax_Met ct_253 := ax_go_ok ax_M0 go_253
/-- yX5_agrees -/
def ct_254 : ax_c := (47, 0, [.inr [15, 16, 17, 18, 19, 20, 21, 22, 23, 24, 25, 26, 27], .inr [6], .inl (false, [(.ofNat 13, .ofNat 13)])], [(11, 13, [(.ofNat 0, .ofNat 7)])], [(some (false, [(.ofNat 0, .ofNat 1)]), [])], [])
def an_254 : ax_n := []
set_option maxRecDepth 1000000 in
theorem go_254 : ax_go an_254 [] 4000 ct_254 = true := by decide +kernel
theorem mt_254 : ax_Met ct_254 := ax_go_ok ax_M0 go_254
/-- yX5_agrees -/
def ct_255 : ax_c := (47, 0, [.inr [15, 16, 17, 18, 19, 20, 21, 22, 23, 24, 25, 26, 27], .inr [6], .inl (false, [(.ofNat 14, .ofNat 14)])], [(11, 14, [(.ofNat 0, .ofNat 7)])], [(some (false, [(.ofNat 0, .ofNat 1)]), [])], [])
def an_255 : ax_n := []
set_option maxRecDepth 1000000 in
theorem go_255 : ax_go an_255 [] 4000 ct_255 = true := by decide +kernel
theorem mt_255 : ax_Met ct_255 := ax_go_ok ax_M0 go_255
/-- yX5_agrees -/
def ct_256 : ax_c := (47, 0, [.inr [15, 16, 17, 18, 19, 20, 21, 22, 23, 24, 25, 26, 27], .inr [6], .inl (false, [(.ofNat 15, .ofNat 15)])], [(11, 15, [(.ofNat 0, .ofNat 7)])], [(some (false, [(.ofNat 0, .ofNat 1)]), [])], [])
def an_256 : ax_n := []
set_option maxRecDepth 1000000 in
theorem go_256 : ax_go an_256 [] 4000 ct_256 = true := by decide +kernel
theorem mt_256 : ax_Met ct_256 := ax_go_ok ax_M0 go_256
/-- yX5_tighten -/
def ct_257 : ax_c := (48, 1, [.inr [15, 16, 17, 18, 19, 20, 21, 22, 23, 24, 25, 26, 27], .inr [6], .inl (false, [(.ofNat 0, .ofNat 0)])], [(11, 0, [(.ofNat 0, .ofNat 7)])], [(none, [])], [(15, none), (16, none), (17, none), (18, none), (19, none), (20, none), (21, none), (22, none), (23, none), (24, none), (25, none), (26, none), (27, none)])
def an_257 : ax_n := [(3211280, .inl ([(.inl (4, false), [(.ofNat 0, .ofNat 8)])], [], [], 0, true)), (3211308, .inl ([(.inl (6, false), [(.ofNat 0, .ofNat 8)])], [], [], 0, true))]
set_option maxRecDepth 1000000 in
theorem go_257 : ax_go an_257 [] 4000 ct_257 = true := by decide +kernel
theorem mt_257 : ax_Met ct_257 := ax_go_ok ax_M0 go_257
/-- yX5_tighten -/
def ct_258 : ax_c := (48, 1, [.inr [15, 16, 17, 18, 19, 20, 21, 22, 23, 24, 25, 26, 27], .inr [6], .inl (false, [(.ofNat 1, .ofNat 1)])], [(11, 1, [(.ofNat 0, .ofNat 7)])], [(none, [])], [(15, none), (16, none), (17, none), (18, none), (19, none), (20, none), (21, none), (22, none), (23, none), (24, none), (25, none), (26, none), (27, none)])
def an_258 : ax_n := [(3211280, .inl ([(.inl (4, false), [(.ofNat 0, .ofNat 8)])], [], [], 0, true)), (3211308, .inl ([(.inl (6, false), [(.ofNat 0, .ofNat 8)])], [], [], 0, true))]
set_option maxRecDepth 1000000 in
theorem go_258 : ax_go an_258 [] 4000 ct_258 = true := by decide +kernel
theorem mt_258 : ax_Met ct_258 := ax_go_ok ax_M0 go_258
/-- yX5_tighten -/
def ct_259 : ax_c := (48, 1, [.inr [15, 16, 17, 18, 19, 20, 21, 22, 23, 24, 25, 26, 27], .inr [6], .inl (false, [(.ofNat 2, .ofNat 2)])], [(11, 2, [(.ofNat 0, .ofNat 7)])], [(none, [])], [(15, none), (16, none), (17, none), (18, none), (19, none), (20, none), (21, none), (22, none), (23, none), (24, none), (25, none), (26, none), (27, none)])
def an_259 : ax_n := [(3211280, .inl ([(.inl (4, false), [(.ofNat 0, .ofNat 8)])], [], [], 0, true)), (3211308, .inl ([(.inl (6, false), [(.ofNat 0, .ofNat 8)])], [], [], 0, true))]
set_option maxRecDepth 1000000 in
theorem go_259 : ax_go an_259 [] 4000 ct_259 = true := by decide +kernel
theorem mt_259 : ax_Met ct_259 := ax_go_ok ax_M0 go_259
/-- yX5_tighten -/
def ct_260 : ax_c := (48, 1, [.inr [15, 16, 17, 18, 19, 20, 21, 22, 23, 24, 25, 26, 27], .inr [6], .inl (false, [(.ofNat 3, .ofNat 3)])], [(11, 3, [(.ofNat 0, .ofNat 7)])], [(none, [])], [(15, none), (16, none), (17, none), (18, none), (19, none), (20, none), (21, none), (22, none), (23, none), (24, none), (25, none), (26, none), (27, none)])
def an_260 : ax_n := [(3211280, .inl ([(.inl (4, false), [(.ofNat 0, .ofNat 8)])], [], [], 0, true)), (3211308, .inl ([(.inl (6, false), [(.ofNat 0, .ofNat 8)])], [], [], 0, true))]
set_option maxRecDepth 1000000 in
theorem go_260 : ax_go an_260 [] 4000 ct_260 = true := by decide +kernel
theorem mt_260 : ax_Met ct_260 := ax_go_ok ax_M0 go_260
/-- yX5_tighten -/
def ct_261 : ax_c := (48, 1, [.inr [15, 16, 17, 18, 19, 20, 21, 22, 23, 24, 25, 26, 27], .inr [6], .inl (false, [(.ofNat 4, .ofNat 4)])], [(11, 4, [(.ofNat 0, .ofNat 7)])], [(none, [])], [(15, none), (16, none), (17, none), (18, none), (19, none), (20, none), (21, none), (22, none), (23, none), (24, none), (25, none), (26, none), (27, none)])
def an_261 : ax_n := [(3211280, .inl ([(.inl (4, false), [(.ofNat 0, .ofNat 8)])], [], [], 0, true)), (3211308, .inl ([(.inl (6, false), [(.ofNat 0, .ofNat 8)])], [], [], 0, true))]
set_option maxRecDepth 1000000 in
theorem go_261 : ax_go an_261 [] 4000 ct_261 = true := by decide +kernel
theorem mt_261 : ax_Met ct_261 := ax_go_ok ax_M0 go_261
/-- yX5_tighten -/
def ct_262 : ax_c := (48, 1, [.inr [15, 16, 17, 18, 19, 20, 21, 22, 23, 24, 25, 26, 27], .inr [6], .inl (false, [(.ofNat 5, .ofNat 5)])], [(11, 5, [(.ofNat 0, .ofNat 7)])], [(none, [])], [(15, none), (16, none), (17, none), (18, none), (19, none), (20, none), (21, none), (22, none), (23, none), (24, none), (25, none), (26, none), (27, none)])
def an_262 : ax_n := [(3211280, .inl ([(.inl (4, false), [(.ofNat 0, .ofNat 8)])], [], [], 0, true)), (3211308, .inl ([(.inl (6, false), [(.ofNat 0, .ofNat 8)])], [], [], 0, true))]
set_option maxRecDepth 1000000 in
theorem go_262 : ax_go an_262 [] 4000 ct_262 = true := by decide +kernel
theorem mt_262 : ax_Met ct_262 := ax_go_ok ax_M0 go_262
/-- yX5_tighten -/
def ct_263 : ax_c := (48, 1, [.inr [15, 16, 17, 18, 19, 20, 21, 22, 23, 24, 25, 26, 27], .inr [6], .inl (false, [(.ofNat 6, .ofNat 6)])], [(11, 6, [(.ofNat 0, .ofNat 7)])], [(none, [])], [(15, none), (16, none), (17, none), (18, none), (19, none), (20, none), (21, none), (22, none), (23, none), (24, none), (25, none), (26, none), (27, none)])
def an_263 : ax_n := [(3211280, .inl ([(.inl (4, false), [(.ofNat 0, .ofNat 8)])], [], [], 0, true)), (3211308, .inl ([(.inl (6, false), [(.ofNat 0, .ofNat 8)])], [], [], 0, true))]
set_option maxRecDepth 1000000 in
theorem go_263 : ax_go an_263 [] 4000 ct_263 = true := by decide +kernel
theorem mt_263 : ax_Met ct_263 := ax_go_ok ax_M0 go_263
/-- yX5_tighten -/
def ct_264 : ax_c := (48, 1, [.inr [15, 16, 17, 18, 19, 20, 21, 22, 23, 24, 25, 26, 27], .inr [6], .inl (false, [(.ofNat 7, .ofNat 7)])], [(11, 7, [(.ofNat 0, .ofNat 7)])], [(none, [])], [(15, none), (16, none), (17, none), (18, none), (19, none), (20, none), (21, none), (22, none), (23, none), (24, none), (25, none), (26, none), (27, none)])
def an_264 : ax_n := [(3211280, .inl ([(.inl (4, false), [(.ofNat 0, .ofNat 8)])], [], [], 0, true)), (3211308, .inl ([(.inl (6, false), [(.ofNat 0, .ofNat 8)])], [], [], 0, true))]
set_option maxRecDepth 1000000 in
theorem go_264 : ax_go an_264 [] 4000 ct_264 = true := by decide +kernel
theorem mt_264 : ax_Met ct_264 := ax_go_ok ax_M0 go_264
/-- yX5_tighten -/
def ct_265 : ax_c := (48, 1, [.inr [15, 16, 17, 18, 19, 20, 21, 22, 23, 24, 25, 26, 27], .inr [6], .inl (false, [(.ofNat 8, .ofNat 8)])], [(11, 8, [(.ofNat 0, .ofNat 7)])], [(none, [])], [(15, none), (16, none), (17, none), (18, none), (19, none), (20, none), (21, none), (22, none), (23, none), (24, none), (25, none), (26, none), (27, none)])
def an_265 : ax_n := [(3211280, .inl ([(.inl (4, false), [(.ofNat 0, .ofNat 8)])], [], [], 0, true)), (3211308, .inl ([(.inl (6, false), [(.ofNat 0, .ofNat 8)])], [], [], 0, true))]
set_option maxRecDepth 1000000 in
theorem go_265 : ax_go an_265 [] 4000 ct_265 = true := by decide +kernel
theorem mt_265 : ax_Met ct_265 := ax_go_ok ax_M0 go_265
/-- yX5_tighten -/
def ct_266 : ax_c := (48, 1, [.inr [15, 16, 17, 18, 19, 20, 21, 22, 23, 24, 25, 26, 27], .inr [6], .inl (false, [(.ofNat 9, .ofNat 9)])], [(11, 9, [(.ofNat 0, .ofNat 7)])], [(none, [])], [(15, none), (16, none), (17, none), (18, none), (19, none), (20, none), (21, none), (22, none), (23, none), (24, none), (25, none), (26, none), (27, none)])
def an_266 : ax_n := [(3211280, .inl ([(.inl (4, false), [(.ofNat 0, .ofNat 8)])], [], [], 0, true)), (3211308, .inl ([(.inl (6, false), [(.ofNat 0, .ofNat 8)])], [], [], 0, true))]
set_option maxRecDepth 1000000 in
theorem go_266 : ax_go an_266 [] 4000 ct_266 = true := by decide +kernel
theorem mt_266 : ax_Met ct_266 := ax_go_ok ax_M0 go_266
/-- yX5_tighten -/
def ct_267 : ax_c := (48, 1, [.inr [15, 16, 17, 18, 19, 20, 21, 22, 23, 24, 25, 26, 27], .inr [6], .inl (false, [(.ofNat 10, .ofNat 10)])], [(11, 10, [(.ofNat 0, .ofNat 7)])], [(none, [])], [(15, none), (16, none), (17, none), (18, none), (19, none), (20, none), (21, none), (22, none), (23, none), (24, none), (25, none), (26, none), (27, none)])
def an_267 : ax_n := [(3211280, .inl ([(.inl (4, false), [(.ofNat 0, .ofNat 8)])], [], [], 0, true)), (3211308, .inl ([(.inl (6, false), [(.ofNat 0, .ofNat 8)])], [], [], 0, true))]
set_option maxRecDepth 1000000 in
theorem go_267 : ax_go an_267 [] 4000 ct_267 = true := by decide +kernel
theorem mt_267 : ax_Met ct_267 := ax_go_ok ax_M0 go_267
/-- yX5_tighten -/
def ct_268 : ax_c := (48, 1, [.inr [15, 16, 17, 18, 19, 20, 21, 22, 23, 24, 25, 26, 27], .inr [6], .inl (false, [(.ofNat 11, .ofNat 11)])], [(11, 11, [(.ofNat 0, .ofNat 7)])], [(none, [])], [(15, none), (16, none), (17, none), (18, none), (19, none), (20, none), (21, none), (22, none), (23, none), (24, none), (25, none), (26, none), (27, none)])
def an_268 : ax_n := [(3211280, .inl ([(.inl (4, false), [(.ofNat 0, .ofNat 8)])], [], [], 0, true)), (3211308, .inl ([(.inl (6, false), [(.ofNat 0, .ofNat 8)])], [], [], 0, true))]
set_option maxRecDepth 1000000 in
theorem go_268 : ax_go an_268 [] 4000 ct_268 = true := by decide +kernel
theorem mt_268 : ax_Met ct_268 := ax_go_ok ax_M0 go_268
/-- yX5_tighten -/
def ct_269 : ax_c := (48, 1, [.inr [15, 16, 17, 18, 19, 20, 21, 22, 23, 24, 25, 26, 27], .inr [6], .inl (false, [(.ofNat 12, .ofNat 12)])], [(11, 12, [(.ofNat 0, .ofNat 7)])], [(none, [])], [(15, none), (16, none), (17, none), (18, none), (19, none), (20, none), (21, none), (22, none), (23, none), (24, none), (25, none), (26, none), (27, none)])
def an_269 : ax_n := [(3211280, .inl ([(.inl (4, false), [(.ofNat 0, .ofNat 8)])], [], [], 0, true)), (3211308, .inl ([(.inl (6, false), [(.ofNat 0, .ofNat 8)])], [], [], 0, true))]
set_option maxRecDepth 1000000 in
theorem go_269 : ax_go an_269 [] 4000 ct_269 = true := by decide +kernel
theorem mt_269 : ax_Met ct_269 := ax_go_ok ax_M0 go_269
/-- yX5_tighten -/
def ct_270 : ax_c := (48, 1, [.inr [15, 16, 17, 18, 19, 20, 21, 22, 23, 24, 25, 26, 27], .inr [6], .inl (false, [(.ofNat 13, .ofNat 13)])], [(11, 13, [(.ofNat 0, .ofNat 7)])], [(none, [])], [(15, none), (16, none), (17, none), (18, none), (19, none), (20, none), (21, none), (22, none), (23, none), (24, none), (25, none), (26, none), (27, none)])
def an_270 : ax_n := [(3211280, .inl ([(.inl (4, false), [(.ofNat 0, .ofNat 8)])], [], [], 0, true)), (3211308, .inl ([(.inl (6, false), [(.ofNat 0, .ofNat 8)])], [], [], 0, true))]
set_option maxRecDepth 1000000 in
theorem go_270 : ax_go an_270 [] 4000 ct_270 = true := by decide +kernel
theorem mt_270 : ax_Met ct_270 := ax_go_ok ax_M0 go_270
/-- yX5_tighten -/
def ct_271 : ax_c := (48, 1, [.inr [15, 16, 17, 18, 19, 20, 21, 22, 23, 24, 25, 26, 27], .inr [6], .inl (false, [(.ofNat 14, .ofNat 14)])], [(11, 14, [(.ofNat 0, .ofNat 7)])], [(none, [])], [(15, none), (16, none), (17, none), (18, none), (19, none), (20, none), (21, none), (22, none), (23, none), (24, none), (25, none), (26, none), (27, none)])
def an_271 : ax_n := [(3211280, .inl ([(.inl (4, false), [(.ofNat 0, .ofNat 8)])], [], [], 0, true)), (3211308, .inl ([(.inl (6, false), [(.ofNat 0, .ofNat 8)])], [], [], 0, true))]
set_option maxRecDepth 1000000 in
theorem go_271 : ax_go an_271 [] 4000 ct_271 = true := by decide +kernel
theorem mt_271 : ax_Met ct_271 := ax_go_ok ax_M0 go_271
/-- yX5_tighten -/
def ct_272 : ax_c := (48, 1, [.inr [15, 16, 17, 18, 19, 20, 21, 22, 23, 24, 25, 26, 27], .inr [6], .inl (false, [(.ofNat 15, .ofNat 15)])], [(11, 15, [(.ofNat 0, .ofNat 7)])], [(none, [])], [(15, none), (16, none), (17, none), (18, none), (19, none), (20, none), (21, none), (22, none), (23, none), (24, none), (25, none), (26, none), (27, none)])
def an_272 : ax_n := [(3211280, .inl ([(.inl (4, false), [(.ofNat 0, .ofNat 8)])], [], [], 0, true)), (3211308, .inl ([(.inl (6, false), [(.ofNat 0, .ofNat 8)])], [], [], 0, true))]
set_option maxRecDepth 1000000 in
theorem go_272 : ax_go an_272 [] 4000 ct_272 = true := by decide +kernel
theorem mt_272 : ax_Met ct_272 := ax_go_ok ax_M0 go_272
/-- yX5_openBounds -/
def ct_273 : ax_c := (46, 1, [.inr [13]], [], [(none, [])], [(15, none)])
def an_273 : ax_n := [(3014669, .inl ([(.inl (1, false), [(.ofNat 0, .ofNat 8)])], [], [], 0, true)), (17104901, .inl ([(.inl (2, false), [(.ofNat 0, .ofNat 64)])], [], [], 0, true))]
set_option maxRecDepth 1000000 in
theorem go_273 : ax_go an_273 [] 4000 ct_273 = true := by decide +kernel
theorem mt_273 : ax_Met ct_273 := ax_go_ok ax_M0 go_273
/-- agrees(row, lines, n) of a GIVEN line -/
theorem nt_agrees (n : Nat) (h : n < 16) : ax_Met (47, 0, [.inr [15, 16, 17, 18, 19, 20, 21, 22, 23, 24, 25, 26, 27], .inr [6], .inl (false, [(.ofNat n, .ofNat n)])], [(11, n, [(.ofNat 0, .ofNat 7)])], [(some (false, [(.ofNat 0, .ofNat 1)]), [])], []) :=
  match n, h with
  | 0, _ => mt_241
  | 1, _ => mt_242
  | 2, _ => mt_243
  | 3, _ => mt_244
  | 4, _ => mt_245
  | 5, _ => mt_246
  | 6, _ => mt_247
  | 7, _ => mt_248
  | 8, _ => mt_249
  | 9, _ => mt_250
  | 10, _ => mt_251
  | 11, _ => mt_252
  | 12, _ => mt_253
  | 13, _ => mt_254
  | 14, _ => mt_255
  | 15, _ => mt_256
  | m + 16, h => absurd h (by omega)
/-- tighten(row, lines, n) of a GIVEN line -/
theorem nt_tighten (n : Nat) (h : n < 16) : ax_Met (48, 1, [.inr [15, 16, 17, 18, 19, 20, 21, 22, 23, 24, 25, 26, 27], .inr [6], .inl (false, [(.ofNat n, .ofNat n)])], [(11, n, [(.ofNat 0, .ofNat 7)])], [(none, [])], [(15, none), (16, none), (17, none), (18, none), (19, none), (20, none), (21, none), (22, none), (23, none), (24, none), (25, none), (26, none), (27, none)]) :=
  match n, h with
  | 0, _ => mt_257
  | 1, _ => mt_258
  | 2, _ => mt_259
  | 3, _ => mt_260
  | 4, _ => mt_261
  | 5, _ => mt_262
  | 6, _ => mt_263
  | 7, _ => mt_264
  | 8, _ => mt_265
  | 9, _ => mt_266
  | 10, _ => mt_267
  | 11, _ => mt_268
  | 12, _ => mt_269
  | 13, _ => mt_270
  | 14, _ => mt_271
  | 15, _ => mt_272
  | m + 16, h => absurd h (by omega)
