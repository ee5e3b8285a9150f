/-! the tables are the class's -/
set_option maxRecDepth 100000 in
theorem ok_240 : okM PRG M_240 := okM_of (by decide +kernel) (wu_mem (i := 2022) (by rfl) rfl) rfl (by decide +kernel)
set_option maxRecDepth 100000 in
theorem ok_241 : okM PRG M_241 := okM_of (by decide +kernel) (wu_mem (i := 2026) (by rfl) rfl) rfl (by decide +kernel)
set_option maxRecDepth 100000 in
theorem ok_242 : okM PRG M_242 := okM_of (by decide +kernel) (wu_mem (i := 2034) (by rfl) rfl) rfl (by decide +kernel)
set_option maxRecDepth 100000 in
theorem ok_243 : okM PRG M_243 := okM_of (by decide +kernel) (wu_mem (i := 2038) (by rfl) rfl) rfl (by decide +kernel)
set_option maxRecDepth 100000 in
theorem ok_244 : okM PRG M_244 := okM_of (by decide +kernel) (wu_mem (i := 2018) (by rfl) rfl) rfl (by decide +kernel)
set_option maxRecDepth 100000 in
theorem ok_245 : okM PRG M_245 := okM_of (by decide +kernel) (wu_mem (i := 2042) (by rfl) rfl) rfl (by decide +kernel)
set_option maxRecDepth 100000 in
theorem ok_246 : okM PRG M_246 := okM_of (by decide +kernel) (wu_mem (i := 2046) (by rfl) rfl) rfl (by decide +kernel)
set_option maxRecDepth 100000 in
theorem ok_247 : okM PRG M_247 := okM_of (by decide +kernel) (wu_mem (i := 2050) (by rfl) rfl) rfl (by decide +kernel)
set_option maxRecDepth 100000 in
theorem ok_248 : okM PRG M_248 := okM_of (by decide +kernel) (wu_mem (i := 2070) (by rfl) rfl) rfl (by decide +kernel)
set_option maxRecDepth 100000 in
theorem ok_249 : okM PRG M_249 := okM_of (by decide +kernel) (wu_mem (i := 2098) (by rfl) rfl) rfl (by decide +kernel)
set_option maxRecDepth 100000 in
theorem ok_250 : okM PRG M_250 := okM_of (by decide +kernel) (wu_mem (i := 2074) (by rfl) rfl) rfl (by decide +kernel)
set_option maxRecDepth 100000 in
theorem ok_251 : okM PRG M_251 := okM_of (by decide +kernel) (wu_mem (i := 2078) (by rfl) rfl) rfl (by decide +kernel)
set_option maxRecDepth 100000 in
theorem ok_252 : okM PRG M_252 := okM_of (by decide +kernel) (wu_mem (i := 2102) (by rfl) rfl) rfl (by decide +kernel)
set_option maxRecDepth 100000 in
theorem ok_253 : okM PRG M_253 := okM_of (by decide +kernel) (wu_mem (i := 2066) (by rfl) rfl) rfl (by decide +kernel)
set_option maxRecDepth 100000 in
theorem ok_254 : okM PRG M_254 := okM_of (by decide +kernel) (wu_mem (i := 2094) (by rfl) rfl) rfl (by decide +kernel)
set_option maxRecDepth 100000 in
theorem ok_255 : okM PRG M_255 := okM_of (by decide +kernel) (wu_mem (i := 2062) (by rfl) rfl) rfl (by decide +kernel)
set_option maxRecDepth 100000 in
theorem ok_256 : okM PRG M_256 := okM_of (by decide +kernel) (wu_mem (i := 2054) (by rfl) rfl) rfl (by decide +kernel)
set_option maxRecDepth 100000 in
theorem ok_257 : okM PRG M_257 := okM_of (by decide +kernel) (wu_mem (i := 2118) (by rfl) rfl) rfl (by decide +kernel)
set_option maxRecDepth 100000 in
theorem ok_258 : okM PRG M_258 := okM_of (by decide +kernel) (wu_mem (i := 2130) (by rfl) rfl) rfl (by decide +kernel)
set_option maxRecDepth 100000 in
theorem ok_259 : okM PRG M_259 := okM_of (by decide +kernel) (wu_mem (i := 2134) (by rfl) rfl) rfl (by decide +kernel)
set_option maxRecDepth 100000 in
theorem ok_260 : okM PRG M_260 := okM_of (by decide +kernel) (wu_mem (i := 2126) (by rfl) rfl) rfl (by decide +kernel)
set_option maxRecDepth 100000 in
theorem ok_261 : okM PRG M_261 := okM_of (by decide +kernel) (wu_mem (i := 2138) (by rfl) rfl) rfl (by decide +kernel)
set_option maxRecDepth 100000 in
theorem ok_262 : okM PRG M_262 := okM_of (by decide +kernel) (wu_mem (i := 2122) (by rfl) rfl) rfl (by decide +kernel)
set_option maxRecDepth 100000 in
theorem ok_263 : okM PRG M_263 := okM_of (by decide +kernel) (wu_mem (i := 2110) (by rfl) rfl) rfl (by decide +kernel)
set_option maxRecDepth 100000 in
theorem ok_264 : okM PRG M_264 := okM_of (by decide +kernel) (wu_mem (i := 2114) (by rfl) rfl) rfl (by decide +kernel)
set_option maxRecDepth 100000 in
theorem ok_265 : okM PRG M_265 := okM_of (by decide +kernel) (wu_mem (i := 2106) (by rfl) rfl) rfl (by decide +kernel)
set_option maxRecDepth 100000 in
theorem ok_266 : okM PRG M_266 := okM_of (by decide +kernel) (wu_mem (i := 2142) (by rfl) rfl) rfl (by decide +kernel)
set_option maxRecDepth 100000 in
theorem ok_267 : okM PRG M_267 := okM_of (by decide +kernel) (wu_mem (i := 2146) (by rfl) rfl) rfl (by decide +kernel)
set_option maxRecDepth 100000 in
theorem ok_268 : okM PRG M_268 := okM_of (by decide +kernel) (wu_mem (i := 2154) (by rfl) rfl) rfl (by decide +kernel)
set_option maxRecDepth 100000 in
theorem ok_269 : okM PRG M_269 := okM_of (by decide +kernel) (wu_mem (i := 2150) (by rfl) rfl) rfl (by decide +kernel)
set_option maxRecDepth 100000 in
theorem ok_270 : okM PRG M_270 := okM_of (by decide +kernel) (wu_mem (i := 2162) (by rfl) rfl) rfl (by decide +kernel)
set_option maxRecDepth 100000 in
theorem ok_271 : okM PRG M_271 := okM_of (by decide +kernel) (wu_mem (i := 2158) (by rfl) rfl) rfl (by decide +kernel)
set_option maxRecDepth 100000 in
theorem ok_272 : okM PRG M_272 := okM_of (by decide +kernel) (wu_mem (i := 2182) (by rfl) rfl) rfl (by decide +kernel)
set_option maxRecDepth 100000 in
theorem ok_273 : okM PRG M_273 := okM_of (by decide +kernel) (wu_mem (i := 2193) (by rfl) rfl) rfl (by decide +kernel)
set_option maxRecDepth 100000 in
theorem ok_274 : okM PRG M_274 := okM_of (by decide +kernel) (wu_mem (i := 2201) (by rfl) rfl) rfl (by decide +kernel)
set_option maxRecDepth 100000 in
theorem ok_275 : okM PRG M_275 := okM_of (by decide +kernel) (wu_mem (i := 2209) (by rfl) rfl) rfl (by decide +kernel)
set_option maxRecDepth 100000 in
theorem ok_276 : okM PRG M_276 := okM_of (by decide +kernel) (wu_mem (i := 2205) (by rfl) rfl) rfl (by decide +kernel)
set_option maxRecDepth 100000 in
theorem ok_277 : okM PRG M_277 := okM_of (by decide +kernel) (wu_mem (i := 2213) (by rfl) rfl) rfl (by decide +kernel)
set_option maxRecDepth 100000 in
theorem ok_278 : okM PRG M_278 := okM_of (by decide +kernel) (wu_mem (i := 2197) (by rfl) rfl) rfl (by decide +kernel)
set_option maxRecDepth 100000 in
theorem ok_279 : okM PRG M_279 := okM_of (by decide +kernel) (wu_mem (i := 2190) (by rfl) rfl) rfl (by decide +kernel)
set_option maxRecDepth 100000 in
theorem ok_280 : okM PRG M_280 := okM_of (by decide +kernel) (wu_mem (i := 2186) (by rfl) rfl) rfl (by decide +kernel)
set_option maxRecDepth 100000 in
theorem ok_281 : okM PRG M_281 := okM_of (by decide +kernel) (wu_mem (i := 2178) (by rfl) rfl) rfl (by decide +kernel)
set_option maxRecDepth 100000 in
theorem ok_282 : okM PRG M_282 := okM_of (by decide +kernel) (wu_mem (i := 2174) (by rfl) rfl) rfl (by decide +kernel)
set_option maxRecDepth 100000 in
theorem ok_283 : okM PRG M_283 := okM_of (by decide +kernel) (wu_mem (i := 2170) (by rfl) rfl) rfl (by decide +kernel)
set_option maxRecDepth 100000 in
theorem ok_284 : okM PRG M_284 := okM_of (by decide +kernel) (wu_mem (i := 2166) (by rfl) rfl) rfl (by decide +kernel)
set_option maxRecDepth 100000 in
theorem ok_285 : okM PRG M_285 := okM_of (by decide +kernel) (wu_mem (i := 2221) (by rfl) rfl) rfl (by decide +kernel)
set_option maxRecDepth 100000 in
theorem ok_286 : okM PRG M_286 := okM_of (by decide +kernel) (wu_mem (i := 2217) (by rfl) rfl) rfl (by decide +kernel)
set_option maxRecDepth 100000 in
theorem ok_287 : okM PRG M_287 := okM_of (by decide +kernel) (wu_mem (i := 2246) (by rfl) rfl) rfl (by decide +kernel)
set_option maxRecDepth 100000 in
theorem ok_288 : okM PRG M_288 := okM_of (by decide +kernel) (wu_mem (i := 2243) (by rfl) rfl) rfl (by decide +kernel)
set_option maxRecDepth 100000 in
theorem ok_289 : okM PRG M_289 := okM_of (by decide +kernel) (wu_mem (i := 2239) (by rfl) rfl) rfl (by decide +kernel)
set_option maxRecDepth 100000 in
theorem ok_290 : okM PRG M_290 := okM_of (by decide +kernel) (wu_mem (i := 2234) (by rfl) rfl) rfl (by decide +kernel)
set_option maxRecDepth 100000 in
theorem ok_291 : okM PRG M_291 := okM_of (by decide +kernel) (wu_mem (i := 2229) (by rfl) rfl) rfl (by decide +kernel)
set_option maxRecDepth 100000 in
theorem ok_292 : okM PRG M_292 := okM_of (by decide +kernel) (wu_mem (i := 2225) (by rfl) rfl) rfl (by decide +kernel)
set_option maxRecDepth 100000 in
theorem ok_293 : okM PRG M_293 := okM_of (by decide +kernel) (wu_mem (i := 2254) (by rfl) rfl) rfl (by decide +kernel)
set_option maxRecDepth 100000 in
theorem ok_294 : okM PRG M_294 := okM_of (by decide +kernel) (wu_mem (i := 2250) (by rfl) rfl) rfl (by decide +kernel)
set_option maxRecDepth 100000 in
theorem ok_295 : okM PRG M_295 := okM_of (by decide +kernel) (wu_mem (i := 2258) (by rfl) rfl) rfl (by decide +kernel)
set_option maxRecDepth 100000 in
theorem ok_296 : okM PRG M_296 := okM_of (by decide +kernel) (wu_mem (i := 2262) (by rfl) rfl) rfl (by decide +kernel)
set_option maxRecDepth 100000 in
theorem ok_297 : okM PRG M_297 := okM_of (by decide +kernel) (wu_mem (i := 2270) (by rfl) rfl) rfl (by decide +kernel)
set_option maxRecDepth 100000 in
theorem ok_298 : okM PRG M_298 := okM_of (by decide +kernel) (wu_mem (i := 2266) (by rfl) rfl) rfl (by decide +kernel)
set_option maxRecDepth 100000 in
theorem ok_299 : okM PRG M_299 := okM_of (by decide +kernel) (wu_mem (i := 2274) (by rfl) rfl) rfl (by decide +kernel)
