/-! the reference: promises -/
def sp_303 : SP := ([(1, 12, 0), (0, (-2147483648), 2147483647), (0, (-2147483648), 2147483647)], [], some (0, 0, 1), [], [], [], 0, 0, [])
set_option maxRecDepth 100000 in
theorem c_303 : SpecOK PRG TYP PKi 303 sp_303 := chkH_ok (xw := noW) (xl := xlPK) noW_ok xlPK_ok (M0 := M_303) (dep := DEPR) (env := []) (cuts := [(2, ([((0, 0, 0), (1, 12, 0)), ((0, 1, 0), (0, (-2147483648), 2147483647)), ((0, 2, 0), (0, (-2147483648), 2147483647)), ((0, 3, 0), (0, 0, 6))], [(0, 0), (1, 1), (2, 2), (3, 3)], [], [(99998, 0, 0), (6, (-1), 3), (100001, 0, 0), (0, 0, 0)], []))]) (fuel := 55) rfl (by decide) (fun _ h => absurd h List.not_mem_nil) stabPK (by decide +kernel)
def sp_307 : SP := ([(1, 12, 0), (0, (-2147483648), 2147483647)], [], some (0, 0, 1), [(1, 1, 20)], [], [], 1, 0, [])
set_option maxRecDepth 100000 in
theorem c_307 : SpecOK PRG TYP PKi 307 sp_307 := chkH_ok (xw := noW) (xl := xlPK) noW_ok xlPK_ok (M0 := M_307) (dep := DEPR) (env := [(210, sp_210), (195, sp_195)]) (cuts := []) (fuel := 21) rfl (by decide) (List.forall_mem_cons.mpr ⟨c_210, List.forall_mem_cons.mpr ⟨c_195, fun _ h => absurd h List.not_mem_nil⟩⟩) stabPK (by decide +kernel)
def sp_313 : SP := ([(1, 12, 0), (0, (-2147483648), 2147483647)], [], some (0, 0, 1), [(1, 0, 5)], [], [], 1, 0, [])
set_option maxRecDepth 100000 in
theorem c_313 : SpecOK PRG TYP PKi 313 sp_313 := chkH_ok (xw := noW) (xl := xlPK) noW_ok xlPK_ok (M0 := M_313) (dep := DEPR) (env := [(195, sp_195)]) (cuts := []) (fuel := 16) rfl (by decide) (List.forall_mem_cons.mpr ⟨c_195, fun _ h => absurd h List.not_mem_nil⟩) stabPK (by decide +kernel)
def sp_315 : SP := ([(1, 12, 0), (0, 0, 5)], [], some (0, 0, 1), [], [], [], 0, 0, [])
set_option maxRecDepth 100000 in
theorem c_315 : SpecOK PRG TYP PKi 315 sp_315 := chkH_ok (xw := noW) (xl := xlPK) noW_ok xlPK_ok (M0 := M_315) (dep := DEPR) (env := []) (cuts := []) (fuel := 20) rfl (by decide) (fun _ h => absurd h List.not_mem_nil) stabPK (by decide +kernel)
def sp_311 : SP := ([(1, 12, 0), (0, 0, 5), (0, 0, 8), (0, 0, 1)], [], some (0, (-2147483648), 2147483647), [], [], [], 0, 0, [])
set_option maxRecDepth 100000 in
theorem c_311 : SpecOK PRG TYP PKi 311 sp_311 := chkH_ok (xw := noW) (xl := xlPK) noW_ok xlPK_ok (M0 := M_311) (dep := DEPR) (env := []) (cuts := [(6, ([((0, 0, 0), (1, 12, 0)), ((0, 1, 0), (0, 0, 5)), ((0, 2, 0), (0, 0, 8)), ((0, 3, 0), (0, 0, 1)), ((0, 4, 0), (0, (-2147483648), 2147483647)), ((0, 5, 0), (0, 0, 8))], [(0, 0), (1, 1), (2, 2), (3, 3), (4, 4), (5, 5)], [], [(99994, 0, 0), (8, (-1), 5), (100001, 0, 0), (0, 0, 0)], []))]) (fuel := 42) rfl (by decide) (fun _ h => absurd h List.not_mem_nil) stabPK (by decide +kernel)
def sp_312 : SP := ([(1, 12, 0), (0, (-2147483648), 2147483647)], [], some (0, (-1), 63), [], [], [], 1, 0, [])
set_option maxRecDepth 100000 in
theorem c_312 : SpecOK PRG TYP PKi 312 sp_312 := chkH_ok (xw := noW) (xl := xlPK) noW_ok xlPK_ok (M0 := M_312) (dep := DEPR) (env := [(195, sp_195), (311, sp_311)]) (cuts := [(18, ([((0, 0, 0), (1, 12, 0)), ((0, 1, 0), (0, 0, 8)), ((0, 2, 0), (0, 0, 63)), ((0, 3, 0), (0, 0, 6))], [(0, 0), (1, 1), (2, 2), (3, 3)], [], [(99982, 0, 0), (6, (-1), 3), (100001, 0, 0), (0, 0, 0)], []))]) (fuel := 42) rfl (by decide) (List.forall_mem_cons.mpr ⟨c_195, List.forall_mem_cons.mpr ⟨c_311, fun _ h => absurd h List.not_mem_nil⟩⟩) stabPK (by decide +kernel)
def sp_314 : SP := ([(1, 12, 0), (0, (-2147483648), 2147483647), (0, (-2147483648), 2147483647), (0, (-2147483648), 2147483647)], [], some (0, (-2147483648), 2147483647), [], [], [], 2, 0, [])
set_option maxRecDepth 100000 in
theorem c_314 : SpecOK PRG TYP PKi 314 sp_314 := chkH_ok (xw := noW) (xl := xlPK) noW_ok xlPK_ok (M0 := M_314) (dep := DEPR) (env := [(195, sp_195), (313, sp_313), (311, sp_311)]) (cuts := []) (fuel := 41) rfl (by decide) (List.forall_mem_cons.mpr ⟨c_195, List.forall_mem_cons.mpr ⟨c_313, List.forall_mem_cons.mpr ⟨c_311, fun _ h => absurd h List.not_mem_nil⟩⟩⟩) stabPK (by decide +kernel)
def sp_245 : SP := ([(1, 12, 0), (0, (-2147483648), 2147483647)], [], some (0, (-2147483648), 2147483647), [], [], [], 3, 0, [])
set_option maxRecDepth 100000 in
theorem c_245 : SpecOK PRG TYP PKi 245 sp_245 := chkH_ok (xw := noW) (xl := xlPK) noW_ok xlPK_ok (M0 := M_245) (dep := DEPR) (env := [(195, sp_195), (229, sp_229)]) (cuts := [(15, ([((0, 0, 0), (1, 12, 0)), ((0, 1, 0), (0, 0, 1)), ((0, 2, 0), (0, (-2147483648), 2147483647)), ((0, 3, 0), (0, 0, 4))], [(0, 0), (1, 1), (2, 2), (3, 3)], [], [(99985, 0, 0), (4, (-1), 3), (100001, 0, 0), (0, 0, 0)], []))]) (fuel := 36) rfl (by decide) (List.forall_mem_cons.mpr ⟨c_195, List.forall_mem_cons.mpr ⟨c_229, fun _ h => absurd h List.not_mem_nil⟩⟩) stabPK (by decide +kernel)
def sp_246 : SP := ([(1, 12, 0), (0, (-2147483648), 2147483647)], [], some (0, (-1), 3), [], [], [], 3, 0, [])
set_option maxRecDepth 100000 in
theorem c_246 : SpecOK PRG TYP PKi 246 sp_246 := chkH_ok (xw := noW) (xl := xlPK) noW_ok xlPK_ok (M0 := M_246) (dep := DEPR) (env := [(195, sp_195), (229, sp_229)]) (cuts := []) (fuel := 22) rfl (by decide) (List.forall_mem_cons.mpr ⟨c_195, List.forall_mem_cons.mpr ⟨c_229, fun _ h => absurd h List.not_mem_nil⟩⟩) stabPK (by decide +kernel)
