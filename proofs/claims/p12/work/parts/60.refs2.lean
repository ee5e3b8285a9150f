/-! the reference: promises -/
def sp_263 : SP := ([(1, 12, 0), (0, (-2147483648), 2147483647), (0, (-2147483648), 2147483647)], [], some (0, 0, 1), [(1, 0, 3)], [], [], 2, 0, [])
set_option maxRecDepth 100000 in
theorem c_263 : SpecOK PRG TYP PKi 263 sp_263 := chkH_ok (xw := noW) (xl := xlPK) noW_ok xlPK_ok (M0 := M_263) (dep := DEPR) (env := [(216, sp_216), (218, sp_218)]) (cuts := []) (fuel := 24) rfl (by decide) (List.forall_mem_cons.mpr ⟨c_216, List.forall_mem_cons.mpr ⟨c_218, fun _ h => absurd h List.not_mem_nil⟩⟩) stabPK (by decide +kernel)
