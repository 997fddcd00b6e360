set_option maxRecDepth 1000000 in
theorem fc_fq_180 : tr_all am_oke 5 fq_180 = true := by decide +kernel
set_option maxRecDepth 1000000 in
theorem fc_fq_181 : tr_all am_oke 5 fq_181 = true := by decide +kernel
set_option maxRecDepth 1000000 in
theorem fc_fq_182 : tr_all am_oke 5 fq_182 = true := by decide +kernel
set_option maxRecDepth 1000000 in
theorem fc_fq_183 : tr_all am_oke 5 fq_183 = true := by decide +kernel
set_option maxRecDepth 1000000 in
theorem fc_fq_184 : tr_all am_oke 5 fq_184 = true := by decide +kernel
set_option maxRecDepth 1000000 in
theorem fc_fq_185 : tr_all am_oke 5 fq_185 = true := by decide +kernel
set_option maxRecDepth 1000000 in
theorem fc_fq_186 : tr_all am_oke 5 fq_186 = true := by decide +kernel
set_option maxRecDepth 1000000 in
theorem fc_fq_187 : tr_all am_oke 5 fq_187 = true := by decide +kernel
set_option maxRecDepth 1000000 in
theorem fc_fq_188 : tr_all am_oke 5 fq_188 = true := by decide +kernel
set_option maxRecDepth 1000000 in
theorem fc_fq_189 : tr_all am_oke 5 fq_189 = true := by decide +kernel
set_option maxRecDepth 1000000 in
theorem fc_fq_190 : tr_all am_oke 5 fq_190 = true := by decide +kernel
set_option maxRecDepth 1000000 in
theorem fc_fq_191 : tr_all am_oke 5 fq_191 = true := by decide +kernel
set_option maxRecDepth 1000000 in
theorem fc_fq_192 : tr_all am_oke 5 fq_192 = true := by decide +kernel
set_option maxRecDepth 1000000 in
theorem fc_fq_193 : tr_all am_oke 5 fq_193 = true := by decide +kernel
set_option maxRecDepth 1000000 in
theorem fc_fq_194 : tr_all am_oke 5 fq_194 = true := by decide +kernel
set_option maxRecDepth 1000000 in
theorem fc_fq_195 : tr_all am_oke 5 fq_195 = true := by decide +kernel
set_option maxRecDepth 1000000 in
theorem fc_fq_196 : tr_all am_oke 5 fq_196 = true := by decide +kernel
set_option maxRecDepth 1000000 in
theorem fc_fq_197 : tr_all am_oke 5 fq_197 = true := by decide +kernel
set_option maxRecDepth 1000000 in
theorem fc_fq_198 : tr_all am_oke 5 fq_198 = true := by decide +kernel
set_option maxRecDepth 1000000 in
theorem fc_fq_199 : tr_all am_oke 5 fq_199 = true := by decide +kernel
set_option maxRecDepth 1000000 in
theorem fc_fq_200 : tr_all am_oke 5 fq_200 = true := by decide +kernel
set_option maxRecDepth 1000000 in
theorem fc_fq_201 : tr_all am_oke 5 fq_201 = true := by decide +kernel
set_option maxRecDepth 1000000 in
theorem fc_fq_202 : tr_all am_oke 5 fq_202 = true := by decide +kernel
set_option maxRecDepth 1000000 in
theorem fc_fq_203 : tr_all am_oke 5 fq_203 = true := by decide +kernel
set_option maxRecDepth 1000000 in
theorem fc_fq_204 : tr_all am_oke 5 fq_204 = true := by decide +kernel
set_option maxRecDepth 1000000 in
theorem fc_fq_205 : tr_all am_oke 5 fq_205 = true := by decide +kernel
set_option maxRecDepth 1000000 in
theorem fc_fq_206 : tr_all am_oke 5 fq_206 = true := by decide +kernel
set_option maxRecDepth 1000000 in
theorem fc_fq_207 : tr_all am_oke 5 fq_207 = true := by decide +kernel
set_option maxRecDepth 1000000 in
theorem fc_fq_208 : tr_all am_oke 5 fq_208 = true := by decide +kernel
set_option maxRecDepth 1000000 in
theorem fc_fq_209 : tr_all am_oke 5 fq_209 = true := by decide +kernel
set_option maxRecDepth 1000000 in
theorem fc_fq_210 : tr_all am_oke 5 fq_210 = true := by decide +kernel
set_option maxRecDepth 1000000 in
theorem fc_fq_211 : tr_all am_oke 5 fq_211 = true := by decide +kernel
set_option maxRecDepth 1000000 in
theorem fc_fq_212 : tr_all am_oke 5 fq_212 = true := by decide +kernel
set_option maxRecDepth 1000000 in
theorem fc_fq_213 : tr_all am_oke 5 fq_213 = true := by decide +kernel
set_option maxRecDepth 1000000 in
theorem fc_fq_214 : tr_all am_oke 5 fq_214 = true := by decide +kernel
set_option maxRecDepth 1000000 in
theorem fc_fq_215 : tr_all am_oke 5 fq_215 = true := by decide +kernel
set_option maxRecDepth 1000000 in
theorem fc_fq_216 : tr_all am_oke 5 fq_216 = true := by decide +kernel
set_option maxRecDepth 1000000 in
theorem fc_fq_217 : tr_all am_oke 5 fq_217 = true := by decide +kernel
set_option maxRecDepth 1000000 in
theorem fc_fq_218 : tr_all am_oke 5 fq_218 = true := by decide +kernel
set_option maxRecDepth 1000000 in
theorem fc_fq_219 : tr_all am_oke 5 fq_219 = true := by decide +kernel
set_option maxRecDepth 1000000 in
theorem fc_fq_220 : tr_all am_oke 5 fq_220 = true := by decide +kernel
set_option maxRecDepth 1000000 in
theorem fc_fq_221 : tr_all am_oke 5 fq_221 = true := by decide +kernel
set_option maxRecDepth 1000000 in
theorem fc_fq_222 : tr_all am_oke 5 fq_222 = true := by decide +kernel
set_option maxRecDepth 1000000 in
theorem fc_fq_223 : tr_all am_oke 5 fq_223 = true := by decide +kernel
set_option maxRecDepth 1000000 in
theorem fc_fq_224 : tr_all am_oke 5 fq_224 = true := by decide +kernel
set_option maxRecDepth 1000000 in
theorem fc_fq_225 : tr_all am_oke 5 fq_225 = true := by decide +kernel
set_option maxRecDepth 1000000 in
theorem fc_fq_226 : tr_all am_oke 5 fq_226 = true := by decide +kernel
set_option maxRecDepth 1000000 in
theorem fc_fq_227 : tr_all am_oke 5 fq_227 = true := by decide +kernel
set_option maxRecDepth 1000000 in
theorem fc_fq_228 : tr_all am_oke 5 fq_228 = true := by decide +kernel
set_option maxRecDepth 1000000 in
theorem fc_fq_229 : tr_all am_oke 5 fq_229 = true := by decide +kernel
set_option maxRecDepth 1000000 in
theorem fc_fq_230 : tr_all am_oke 5 fq_230 = true := by decide +kernel
set_option maxRecDepth 1000000 in
theorem fc_fq_231 : tr_all am_oke 5 fq_231 = true := by decide +kernel
set_option maxRecDepth 1000000 in
theorem fc_fq_232 : tr_all am_oke 5 fq_232 = true := by decide +kernel
set_option maxRecDepth 1000000 in
theorem fc_fq_233 : tr_all am_oke 5 fq_233 = true := by decide +kernel
set_option maxRecDepth 1000000 in
theorem fc_fq_234 : tr_all am_oke 5 fq_234 = true := by decide +kernel
set_option maxRecDepth 1000000 in
theorem fc_fq_235 : tr_all am_oke 5 fq_235 = true := by decide +kernel
set_option maxRecDepth 1000000 in
theorem fc_fq_236 : tr_all am_oke 5 fq_236 = true := by decide +kernel
set_option maxRecDepth 1000000 in
theorem fc_fq_237 : tr_all am_oke 5 fq_237 = true := by decide +kernel
set_option maxRecDepth 1000000 in
theorem fc_fq_238 : tr_all am_oke 5 fq_238 = true := by decide +kernel
set_option maxRecDepth 1000000 in
theorem fc_fq_239 : tr_all am_oke 5 fq_239 = true := by decide +kernel
set_option maxRecDepth 1000000 in
theorem fc_fq_240 : tr_all am_oke 5 fq_240 = true := by decide +kernel
set_option maxRecDepth 1000000 in
theorem fc_fq_241 : tr_all am_oke 5 fq_241 = true := by decide +kernel
set_option maxRecDepth 1000000 in
theorem fc_fq_242 : tr_all am_oke 5 fq_242 = true := by decide +kernel
set_option maxRecDepth 1000000 in
theorem fc_fq_243 : tr_all am_oke 5 fq_243 = true := by decide +kernel
set_option maxRecDepth 1000000 in
theorem fc_fq_244 : tr_all am_oke 5 fq_244 = true := by decide +kernel
set_option maxRecDepth 1000000 in
theorem fc_fq_245 : tr_all am_oke 5 fq_245 = true := by decide +kernel
set_option maxRecDepth 1000000 in
theorem fc_fq_246 : tr_all am_oke 5 fq_246 = true := by decide +kernel
set_option maxRecDepth 1000000 in
theorem fc_fq_247 : tr_all am_oke 5 fq_247 = true := by decide +kernel
set_option maxRecDepth 1000000 in
theorem fc_fq_248 : tr_all am_oke 5 fq_248 = true := by decide +kernel
set_option maxRecDepth 1000000 in
theorem fc_fq_249 : tr_all am_oke 5 fq_249 = true := by decide +kernel
set_option maxRecDepth 1000000 in
theorem fc_fq_250 : tr_all am_oke 5 fq_250 = true := by decide +kernel
set_option maxRecDepth 1000000 in
theorem fc_fq_251 : tr_all am_oke 5 fq_251 = true := by decide +kernel
set_option maxRecDepth 1000000 in
theorem fc_fq_252 : tr_all am_oke 5 fq_252 = true := by decide +kernel
set_option maxRecDepth 1000000 in
theorem fc_fq_253 : tr_all am_oke 5 fq_253 = true := by decide +kernel
set_option maxRecDepth 1000000 in
theorem fc_fq_254 : tr_all am_oke 5 fq_254 = true := by decide +kernel
set_option maxRecDepth 1000000 in
theorem fc_fq_255 : tr_all am_oke 5 fq_255 = true := by decide +kernel
set_option maxRecDepth 1000000 in
theorem fc_fq_256 : tr_all am_oke 5 fq_256 = true := by decide +kernel
set_option maxRecDepth 1000000 in
theorem fc_fq_257 : tr_all am_oke 5 fq_257 = true := by decide +kernel
set_option maxRecDepth 1000000 in
theorem fc_fq_258 : tr_all am_oke 5 fq_258 = true := by decide +kernel
set_option maxRecDepth 1000000 in
theorem fc_fq_259 : tr_all am_oke 5 fq_259 = true := by decide +kernel
set_option maxRecDepth 1000000 in
theorem fc_fq_260 : tr_all am_oke 5 fq_260 = true := by decide +kernel
set_option maxRecDepth 1000000 in
theorem fc_fq_261 : tr_all am_oke 5 fq_261 = true := by decide +kernel
set_option maxRecDepth 1000000 in
theorem fc_fq_262 : tr_all am_oke 5 fq_262 = true := by decide +kernel
set_option maxRecDepth 1000000 in
theorem fc_fq_263 : tr_all am_oke 5 fq_263 = true := by decide +kernel
set_option maxRecDepth 1000000 in
theorem fc_fq_264 : tr_all am_oke 5 fq_264 = true := by decide +kernel
set_option maxRecDepth 1000000 in
theorem fc_fq_265 : tr_all am_oke 5 fq_265 = true := by decide +kernel
set_option maxRecDepth 1000000 in
theorem fc_fq_266 : tr_all am_oke 5 fq_266 = true := by decide +kernel
set_option maxRecDepth 1000000 in
theorem fc_fq_267 : tr_all am_oke 5 fq_267 = true := by decide +kernel
set_option maxRecDepth 1000000 in
theorem fc_fq_268 : tr_all am_oke 5 fq_268 = true := by decide +kernel
set_option maxRecDepth 1000000 in
theorem fc_fq_269 : tr_all am_oke 5 fq_269 = true := by decide +kernel
