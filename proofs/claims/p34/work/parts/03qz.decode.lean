theorem fc_fr_0 : tr_all am_oke 9 fr_0 = true := (tr_up (tr_up (tr_up (tr_up fc_fq_0 fc_fq_1) (tr_up fc_fq_2 fc_fq_3)) (tr_up (tr_up fc_fq_4 fc_fq_5) (tr_up fc_fq_6 fc_fq_7))) (tr_up (tr_up (tr_up fc_fq_8 fc_fq_9) (tr_up fc_fq_10 fc_fq_11)) (tr_up (tr_up fc_fq_12 fc_fq_13) (tr_up fc_fq_14 fc_fq_15))))
theorem fc_fr_1 : tr_all am_oke 9 fr_1 = true := (tr_up (tr_up (tr_up (tr_up fc_fq_16 fc_fq_17) (tr_up fc_fq_18 fc_fq_19)) (tr_up (tr_up fc_fq_20 fc_fq_21) (tr_up fc_fq_22 fc_fq_23))) (tr_up (tr_up (tr_up fc_fq_24 fc_fq_25) (tr_up fc_fq_26 fc_fq_27)) (tr_up (tr_up fc_fq_28 fc_fq_29) (tr_up fc_fq_30 fc_fq_31))))
theorem fc_fr_2 : tr_all am_oke 9 fr_2 = true := (tr_up (tr_up (tr_up (tr_up fc_fq_32 fc_fq_33) (tr_up fc_fq_34 fc_fq_35)) (tr_up (tr_up fc_fq_36 fc_fq_37) (tr_up fc_fq_38 fc_fq_39))) (tr_up (tr_up (tr_up fc_fq_40 fc_fq_41) (tr_up fc_fq_42 fc_fq_43)) (tr_up (tr_up fc_fq_44 fc_fq_45) (tr_up fc_fq_46 fc_fq_47))))
theorem fc_fr_3 : tr_all am_oke 9 fr_3 = true := (tr_up (tr_up (tr_up (tr_up fc_fq_48 fc_fq_49) (tr_up fc_fq_50 fc_fq_51)) (tr_up (tr_up fc_fq_52 fc_fq_53) (tr_up fc_fq_54 fc_fq_55))) (tr_up (tr_up (tr_up fc_fq_56 fc_fq_57) (tr_up fc_fq_58 fc_fq_59)) (tr_up (tr_up fc_fq_60 fc_fq_61) (tr_up fc_fq_62 fc_fq_63))))
theorem fc_fr_4 : tr_all am_oke 9 fr_4 = true := (tr_up (tr_up (tr_up (tr_up fc_fq_64 fc_fq_65) (tr_up fc_fq_66 fc_fq_67)) (tr_up (tr_up fc_fq_68 fc_fq_69) (tr_up fc_fq_70 fc_fq_71))) (tr_up (tr_up (tr_up fc_fq_72 fc_fq_73) (tr_up fc_fq_74 fc_fq_75)) (tr_up (tr_up fc_fq_76 fc_fq_77) (tr_up fc_fq_78 fc_fq_79))))
theorem fc_fr_5 : tr_all am_oke 9 fr_5 = true := (tr_up (tr_up (tr_up (tr_up fc_fq_80 fc_fq_81) (tr_up fc_fq_82 fc_fq_83)) (tr_up (tr_up fc_fq_84 fc_fq_85) (tr_up fc_fq_86 fc_fq_87))) (tr_up (tr_up (tr_up fc_fq_88 fc_fq_89) (tr_up fc_fq_90 fc_fq_91)) (tr_up (tr_up fc_fq_92 fc_fq_93) (tr_up fc_fq_94 fc_fq_95))))
theorem fc_fr_6 : tr_all am_oke 9 fr_6 = true := (tr_up (tr_up (tr_up (tr_up fc_fq_96 fc_fq_97) (tr_up fc_fq_98 fc_fq_99)) (tr_up (tr_up fc_fq_100 fc_fq_101) (tr_up fc_fq_102 fc_fq_103))) (tr_up (tr_up (tr_up fc_fq_104 fc_fq_105) (tr_up fc_fq_106 fc_fq_107)) (tr_up (tr_up fc_fq_108 fc_fq_109) (tr_up fc_fq_110 fc_fq_111))))
theorem fc_fr_7 : tr_all am_oke 9 fr_7 = true := (tr_up (tr_up (tr_up (tr_up fc_fq_112 fc_fq_113) (tr_up fc_fq_114 fc_fq_115)) (tr_up (tr_up fc_fq_116 fc_fq_117) (tr_up fc_fq_118 fc_fq_119))) (tr_up (tr_up (tr_up fc_fq_120 fc_fq_121) (tr_up fc_fq_122 fc_fq_123)) (tr_up (tr_up fc_fq_124 fc_fq_125) (tr_up fc_fq_126 fc_fq_127))))
theorem fc_fr_8 : tr_all am_oke 9 fr_8 = true := (tr_up (tr_up (tr_up (tr_up fc_fq_128 fc_fq_129) (tr_up fc_fq_130 fc_fq_131)) (tr_up (tr_up fc_fq_132 fc_fq_133) (tr_up fc_fq_134 fc_fq_135))) (tr_up (tr_up (tr_up fc_fq_136 fc_fq_137) (tr_up fc_fq_138 fc_fq_139)) (tr_up (tr_up fc_fq_140 fc_fq_141) (tr_up fc_fq_142 fc_fq_143))))
theorem fc_fr_9 : tr_all am_oke 9 fr_9 = true := (tr_up (tr_up (tr_up (tr_up fc_fq_144 fc_fq_145) (tr_up fc_fq_146 fc_fq_147)) (tr_up (tr_up fc_fq_148 fc_fq_149) (tr_up fc_fq_150 fc_fq_151))) (tr_up (tr_up (tr_up fc_fq_152 fc_fq_153) (tr_up fc_fq_154 fc_fq_155)) (tr_up (tr_up fc_fq_156 fc_fq_157) (tr_up fc_fq_158 fc_fq_159))))
theorem fc_fr_10 : tr_all am_oke 9 fr_10 = true := (tr_up (tr_up (tr_up (tr_up fc_fq_160 fc_fq_161) (tr_up fc_fq_162 fc_fq_163)) (tr_up (tr_up fc_fq_164 fc_fq_165) (tr_up fc_fq_166 fc_fq_167))) (tr_up (tr_up (tr_up fc_fq_168 fc_fq_169) (tr_up fc_fq_170 fc_fq_171)) (tr_up (tr_up fc_fq_172 fc_fq_173) (tr_up fc_fq_174 fc_fq_175))))
theorem fc_fr_11 : tr_all am_oke 9 fr_11 = true := (tr_up (tr_up (tr_up (tr_up fc_fq_176 fc_fq_177) (tr_up fc_fq_178 fc_fq_179)) (tr_up (tr_up fc_fq_180 fc_fq_181) (tr_up fc_fq_182 fc_fq_183))) (tr_up (tr_up (tr_up fc_fq_184 fc_fq_185) (tr_up fc_fq_186 fc_fq_187)) (tr_up (tr_up fc_fq_188 fc_fq_189) (tr_up fc_fq_190 fc_fq_191))))
theorem fc_fr_12 : tr_all am_oke 9 fr_12 = true := (tr_up (tr_up (tr_up (tr_up fc_fq_192 fc_fq_193) (tr_up fc_fq_194 fc_fq_195)) (tr_up (tr_up fc_fq_196 fc_fq_197) (tr_up fc_fq_198 fc_fq_199))) (tr_up (tr_up (tr_up fc_fq_200 fc_fq_201) (tr_up fc_fq_202 fc_fq_203)) (tr_up (tr_up fc_fq_204 fc_fq_205) (tr_up fc_fq_206 fc_fq_207))))
theorem fc_fr_13 : tr_all am_oke 9 fr_13 = true := (tr_up (tr_up (tr_up (tr_up fc_fq_208 fc_fq_209) (tr_up fc_fq_210 fc_fq_211)) (tr_up (tr_up fc_fq_212 fc_fq_213) (tr_up fc_fq_214 fc_fq_215))) (tr_up (tr_up (tr_up fc_fq_216 fc_fq_217) (tr_up fc_fq_218 fc_fq_219)) (tr_up (tr_up fc_fq_220 fc_fq_221) (tr_up fc_fq_222 fc_fq_223))))
theorem fc_fr_14 : tr_all am_oke 9 fr_14 = true := (tr_up (tr_up (tr_up (tr_up fc_fq_224 fc_fq_225) (tr_up fc_fq_226 fc_fq_227)) (tr_up (tr_up fc_fq_228 fc_fq_229) (tr_up fc_fq_230 fc_fq_231))) (tr_up (tr_up (tr_up fc_fq_232 fc_fq_233) (tr_up fc_fq_234 fc_fq_235)) (tr_up (tr_up fc_fq_236 fc_fq_237) (tr_up fc_fq_238 fc_fq_239))))
theorem fc_fr_15 : tr_all am_oke 9 fr_15 = true := (tr_up (tr_up (tr_up (tr_up fc_fq_240 fc_fq_241) (tr_up fc_fq_242 fc_fq_243)) (tr_up (tr_up fc_fq_244 fc_fq_245) (tr_up fc_fq_246 fc_fq_247))) (tr_up (tr_up (tr_up fc_fq_248 fc_fq_249) (tr_up fc_fq_250 fc_fq_251)) (tr_up (tr_up fc_fq_252 fc_fq_253) (tr_up fc_fq_254 fc_fq_255))))
theorem fc_fr_16 : tr_all am_oke 9 fr_16 = true := (tr_up (tr_up (tr_up (tr_up fc_fq_256 fc_fq_257) (tr_up fc_fq_258 fc_fq_259)) (tr_up (tr_up fc_fq_260 fc_fq_261) (tr_up fc_fq_262 fc_fq_263))) (tr_up (tr_up (tr_up fc_fq_264 fc_fq_265) (tr_up fc_fq_266 fc_fq_267)) (tr_up (tr_up fc_fq_268 fc_fq_269) (tr_up fc_fq_270 fc_fq_271))))
theorem fc_fr_17 : tr_all am_oke 9 fr_17 = true := (tr_up (tr_up (tr_up (tr_up fc_fq_272 fc_fq_273) (tr_up fc_fq_274 fc_fq_275)) (tr_up (tr_up fc_fq_276 fc_fq_277) (tr_up fc_fq_278 fc_fq_279))) (tr_up (tr_up (tr_up fc_fq_280 fc_fq_281) (tr_up fc_fq_282 fc_fq_283)) (tr_up (tr_up fc_fq_284 fc_fq_285) (tr_up fc_fq_286 fc_fq_287))))
theorem fc_fr_18 : tr_all am_oke 9 fr_18 = true := (tr_up (tr_up (tr_up (tr_up fc_fq_288 fc_fq_289) (tr_up fc_fq_290 fc_fq_291)) (tr_up (tr_up fc_fq_292 fc_fq_293) (tr_up fc_fq_294 fc_fq_295))) (tr_up (tr_up (tr_up fc_fq_296 fc_fq_297) (tr_up fc_fq_298 fc_fq_299)) (tr_up (tr_up fc_fq_300 fc_fq_301) (tr_up fc_fq_302 fc_fq_303))))
theorem fc_fr_19 : tr_all am_oke 9 fr_19 = true := (tr_up (tr_up (tr_up (tr_up fc_fq_304 fc_fq_305) (tr_up fc_fq_306 fc_fq_307)) (tr_up (tr_up fc_fq_308 fc_fq_309) (tr_up fc_fq_310 fc_fq_311))) (tr_up (tr_up (tr_up fc_fq_312 fc_fq_313) (tr_up fc_fq_314 fc_fq_315)) (tr_up (tr_up fc_fq_316 fc_fq_317) (tr_up fc_fq_318 fc_fq_319))))
theorem fc_fr_20 : tr_all am_oke 9 fr_20 = true := (tr_up (tr_up (tr_up (tr_up fc_fq_320 fc_fq_321) (tr_up fc_fq_322 fc_fq_323)) (tr_up (tr_up fc_fq_324 fc_fq_325) (tr_up fc_fq_326 fc_fq_327))) (tr_up (tr_up (tr_up fc_fq_328 fc_fq_329) (tr_up fc_fq_330 fc_fq_331)) (tr_up (tr_up fc_fq_332 fc_fq_333) (tr_up fc_fq_334 fc_fq_335))))
theorem fc_fr_21 : tr_all am_oke 9 fr_21 = true := (tr_up (tr_up (tr_up (tr_up fc_fq_336 fc_fq_337) (tr_up fc_fq_338 fc_fq_339)) (tr_up (tr_up fc_fq_340 fc_fq_341) (tr_up fc_fq_342 fc_fq_343))) (tr_up (tr_up (tr_up fc_fq_344 fc_fq_345) (tr_up fc_fq_346 fc_fq_347)) (tr_up (tr_up fc_fq_348 fc_fq_349) (tr_up fc_fq_350 fc_fq_351))))
theorem fc_fr_22 : tr_all am_oke 9 fr_22 = true := (tr_up (tr_up (tr_up (tr_up fc_fq_352 fc_fq_353) (tr_up fc_fq_354 fc_fq_355)) (tr_up (tr_up fc_fq_356 fc_fq_357) (tr_up fc_fq_358 fc_fq_359))) (tr_up (tr_up (tr_up fc_fq_360 fc_fq_361) (tr_up fc_fq_362 fc_fq_362)) (tr_up (tr_up fc_fq_362 fc_fq_362) (tr_up fc_fq_362 fc_fq_362))))
theorem fc_fr_23 : tr_all am_oke 9 fr_23 = true := (tr_up (tr_up (tr_up (tr_up fc_fq_362 fc_fq_362) (tr_up fc_fq_362 fc_fq_362)) (tr_up (tr_up fc_fq_362 fc_fq_362) (tr_up fc_fq_362 fc_fq_362))) (tr_up (tr_up (tr_up fc_fq_362 fc_fq_362) (tr_up fc_fq_362 fc_fq_362)) (tr_up (tr_up fc_fq_362 fc_fq_362) (tr_up fc_fq_362 fc_fq_362))))
theorem fc_fr_24 : tr_all am_oke 13 fr_24 = true := (tr_up (tr_up (tr_up (tr_up fc_fr_0 fc_fr_1) (tr_up fc_fr_2 fc_fr_3)) (tr_up (tr_up fc_fr_4 fc_fr_5) (tr_up fc_fr_6 fc_fr_7))) (tr_up (tr_up (tr_up fc_fr_8 fc_fr_9) (tr_up fc_fr_10 fc_fr_11)) (tr_up (tr_up fc_fr_12 fc_fr_13) (tr_up fc_fr_14 fc_fr_15))))
theorem fc_fr_25 : tr_all am_oke 13 fr_25 = true := (tr_up (tr_up (tr_up (tr_up fc_fr_16 fc_fr_17) (tr_up fc_fr_18 fc_fr_19)) (tr_up (tr_up fc_fr_20 fc_fr_21) (tr_up fc_fr_22 fc_fr_23))) (tr_up (tr_up (tr_up fc_fr_23 fc_fr_23) (tr_up fc_fr_23 fc_fr_23)) (tr_up (tr_up fc_fr_23 fc_fr_23) (tr_up fc_fr_23 fc_fr_23))))
theorem fc_fr_26 : tr_all am_oke 14 fr_26 = true := (tr_up fc_fr_24 fc_fr_25)
theorem fx_cd_c {y pc : Nat} {q : (Instr × Nat × Nat) × Nat × Option FieldType} (h : fx_cd y pc = some q) : am_okp y pc q.1 = true ∧ am_mc y = q.2.1 ∧ am_mr y = q.2.2 ∧ Nat.blt y 263 = true := by
  unfold fx_cd at h
  cases hb : Nat.blt pc 2048
  · rw [hb] at h
    cases h
  · rw [hb] at h
    have hpc : pc < 2048 := Nat.le_of_ble_eq_true hb
    have h2 := tr_at_ok (p := fun k v => am_oke (k, v)) fc_fr_26 h
    unfold am_oke at h2
    dsimp only at h2
    rw [show (y * 2048 + pc) / 2048 = y by omega, show (y * 2048 + pc) % 2048 = pc by omega] at h2
    simp only [Bool.and_eq_true, decide_eq_true_eq] at h2
    exact h2
theorem am_ok (y pc : Nat) : am_okpc y pc = true := by
  unfold am_okpc am_cd
  by_cases hy : y < 263
  · rw [if_pos hy]
    cases h : fx_cd y pc with
    | none => rfl
    | some q =>
      obtain ⟨⟨i, len, tgt⟩, w⟩ := q
      exact (fx_cd_c h).1
  · rw [if_neg hy]
