/-! the tables are the class's -/
set_option maxRecDepth 100000 in
theorem ok_300 : okM PRG M_300 := okM_of (by decide +kernel) (wu_mem (i := 2282) (by rfl) rfl) rfl (by decide +kernel)
set_option maxRecDepth 100000 in
theorem ok_301 : okM PRG M_301 := okM_of (by decide +kernel) (wu_mem (i := 2278) (by rfl) rfl) rfl (by decide +kernel)
set_option maxRecDepth 100000 in
theorem ok_302 : okM PRG M_302 := okM_of (by decide +kernel) (wu_mem (i := 2286) (by rfl) rfl) rfl (by decide +kernel)
set_option maxRecDepth 100000 in
theorem ok_303 : okM PRG M_303 := okM_of (by decide +kernel) (wu_mem (i := 2308) (by rfl) rfl) rfl (by decide +kernel)
set_option maxRecDepth 100000 in
theorem ok_304 : okM PRG M_304 := okM_of (by decide +kernel) (wu_mem (i := 2303) (by rfl) rfl) rfl (by decide +kernel)
set_option maxRecDepth 100000 in
theorem ok_305 : okM PRG M_305 := okM_of (by decide +kernel) (wu_mem (i := 2299) (by rfl) rfl) rfl (by decide +kernel)
set_option maxRecDepth 100000 in
theorem ok_306 : okM PRG M_306 := okM_of (by decide +kernel) (wu_mem (i := 2313) (by rfl) rfl) rfl (by decide +kernel)
set_option maxRecDepth 100000 in
theorem ok_307 : okM PRG M_307 := okM_of (by decide +kernel) (wu_mem (i := 2295) (by rfl) rfl) rfl (by decide +kernel)
set_option maxRecDepth 100000 in
theorem ok_308 : okM PRG M_308 := okM_of (by decide +kernel) (wu_mem (i := 2291) (by rfl) rfl) rfl (by decide +kernel)
set_option maxRecDepth 100000 in
theorem ok_309 : okM PRG M_309 := okM_of (by decide +kernel) (wu_mem (i := 2317) (by rfl) rfl) rfl (by decide +kernel)
set_option maxRecDepth 100000 in
theorem ok_310 : okM PRG M_310 := okM_of (by decide +kernel) (wu_mem (i := 2321) (by rfl) rfl) rfl (by decide +kernel)
set_option maxRecDepth 100000 in
theorem ok_311 : okM PRG M_311 := okM_of (by decide +kernel) (wu_mem (i := 2329) (by rfl) rfl) rfl (by decide +kernel)
set_option maxRecDepth 100000 in
theorem ok_312 : okM PRG M_312 := okM_of (by decide +kernel) (wu_mem (i := 2325) (by rfl) rfl) rfl (by decide +kernel)
set_option maxRecDepth 100000 in
theorem ok_313 : okM PRG M_313 := okM_of (by decide +kernel) (wu_mem (i := 2337) (by rfl) rfl) rfl (by decide +kernel)
set_option maxRecDepth 100000 in
theorem ok_314 : okM PRG M_314 := okM_of (by decide +kernel) (wu_mem (i := 2333) (by rfl) rfl) rfl (by decide +kernel)
set_option maxRecDepth 100000 in
theorem ok_315 : okM PRG M_315 := okM_of (by decide +kernel) (wu_mem (i := 2345) (by rfl) rfl) rfl (by decide +kernel)
set_option maxRecDepth 100000 in
theorem ok_316 : okM PRG M_316 := okM_of (by decide +kernel) (wu_mem (i := 2353) (by rfl) rfl) rfl (by decide +kernel)
set_option maxRecDepth 100000 in
theorem ok_317 : okM PRG M_317 := okM_of (by decide +kernel) (wu_mem (i := 2349) (by rfl) rfl) rfl (by decide +kernel)
set_option maxRecDepth 100000 in
theorem ok_318 : okM PRG M_318 := okM_of (by decide +kernel) (wu_mem (i := 2341) (by rfl) rfl) rfl (by decide +kernel)
set_option maxRecDepth 100000 in
theorem ok_319 : okM PRG M_319 := okM_of (by decide +kernel) (wu_mem (i := 2357) (by rfl) rfl) rfl (by decide +kernel)
set_option maxRecDepth 100000 in
theorem ok_320 : okM PRG M_320 := okM_of (by decide +kernel) (wu_mem (i := 2361) (by rfl) rfl) rfl (by decide +kernel)
set_option maxRecDepth 100000 in
theorem ok_321 : okM PRG M_321 := okM_of (by decide +kernel) (wu_mem (i := 2365) (by rfl) rfl) rfl (by decide +kernel)
set_option maxRecDepth 100000 in
theorem ok_322 : okM PRG M_322 := okM_of (by decide +kernel) (wu_mem (i := 2369) (by rfl) rfl) rfl (by decide +kernel)
set_option maxRecDepth 100000 in
theorem ok_323 : okM PRG M_323 := okM_of (by decide +kernel) (wu_mem (i := 2373) (by rfl) rfl) rfl (by decide +kernel)
