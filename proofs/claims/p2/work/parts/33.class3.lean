/-! the class: promises -/ 
def sp_176 : SP := ([(1, 11, 0)], [], some (0, (-2147483648), 2147483647), [], [], [], 0, 0)
set_option maxRecDepth 100000 in
theorem c_176 {I : Sg → Prop} (hI : stab I DEP) : SpecOK PRG TYP I 176 sp_176 := chkM_ok (M0 := M_176) (dep := DEP) (env := []) (cuts := [(4, ([((0, 0, 0), (1, 11, 0)), ((0, 1, 0), (0, (-2147483648), 2147483647)), ((0, 2, 0), (0, 0, 2))], [(0, 0), (1, 1), (2, 2)], [], [(99996, 0, 0), (2, (-1), 2), (100001, 0, 0), (0, 0, 0)], []))]) (fuel := 32) rfl (by decide) (fun _ h => absurd h List.not_mem_nil) hI (by decide +kernel)
def sp_177 : SP := ([(1, 11, 0), (0, (-2147483648), 2147483647)], [], some (0, (-2147483648), 2147483647), [], [], [], 1, 0)
set_option maxRecDepth 100000 in
theorem c_177 {I : Sg → Prop} (hI : stab I DEP) : SpecOK PRG TYP I 177 sp_177 := chkM_ok (M0 := M_177) (dep := DEP) (env := [(169, sp_169), (176, sp_176)]) (cuts := []) (fuel := 87) rfl (by decide) (List.forall_mem_cons.mpr ⟨(c_169 hI), List.forall_mem_cons.mpr ⟨(c_176 hI), fun _ h => absurd h List.not_mem_nil⟩⟩) hI (by decide +kernel)
