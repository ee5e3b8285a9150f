/-! the class: promises -/ 
def sp_173 : SP := ([(1, 11, 0)], [], some (0, (-2147483648), 2147483647), [], [], [(21, 0, 13), (22, 0, 63)], 4, 0, [])
set_option maxRecDepth 100000 in
theorem c_173 {I : Sg → Prop} (hI : stab I DEP) : SpecOK PRG TYP I 173 sp_173 := chkM_ok (M0 := M_173) (dep := DEP) (env := [(90, sp_90)]) (cuts := []) (fuel := 9) rfl (by decide) (List.forall_mem_cons.mpr ⟨(c_90 hI), fun _ h => absurd h List.not_mem_nil⟩) hI (by decide +kernel)
def sp_174 : SP := ([(1, 11, 0), (0, (-2147483648), 2147483647)], [], some (0, 0, 1), [], [], [(3, 2, 2), (3, 5, 5), (3, 6, 6), (3, 6, 7), (3, 17, 17), (21, 0, 13), (22, 0, 63), (43, 0, 3), (44, 0, 3), (45, 0, 15), (46, 0, 15), (47, 0, 15), (48, 0, 15), (49, 0, 15), (50, 0, 15), (51, 0, 15), (52, 0, 15), (53, 0, 3)], 8, 0, [])
set_option maxRecDepth 100000 in
theorem c_174 {I : Sg → Prop} (hI : stab I DEP) : SpecOK PRG TYP I 174 sp_174 := chkM_ok (M0 := M_174) (dep := DEP) (env := [(67, sp_67)]) (cuts := []) (fuel := 29) rfl (by decide) (List.forall_mem_cons.mpr ⟨(c_67 hI), fun _ h => absurd h List.not_mem_nil⟩) hI (by decide +kernel)
def sp_175 : SP := ([(1, 11, 0), (0, (-2147483648), 2147483647)], [], some (0, 0, 1), [], [], [(3, 2, 2), (3, 5, 5), (3, 6, 6), (3, 6, 7), (3, 17, 17), (21, 0, 13), (22, 0, 63), (43, 0, 3), (44, 0, 3), (45, 0, 15), (46, 0, 15), (47, 0, 15), (48, 0, 15), (49, 0, 15), (50, 0, 15), (51, 0, 15), (52, 0, 15), (53, 0, 3)], 8, 0, [])
set_option maxRecDepth 100000 in
theorem c_175 {I : Sg → Prop} (hI : stab I DEP) : SpecOK PRG TYP I 175 sp_175 := chkM_ok (M0 := M_175) (dep := DEP) (env := [(67, sp_67)]) (cuts := []) (fuel := 31) rfl (by decide) (List.forall_mem_cons.mpr ⟨(c_67 hI), fun _ h => absurd h List.not_mem_nil⟩) hI (by decide +kernel)
def sp_176 : SP := ([(1, 11, 0)], [], some (0, (-2147483648), 2147483647), [], [], [], 0, 0, [])
set_option maxRecDepth 100000 in
theorem c_176 {I : Sg → Prop} (hI : stab I DEP) : SpecOK PRG TYP I 176 sp_176 := chkM_ok (M0 := M_176) (dep := DEP) (env := []) (cuts := [(4, ([((0, 0, 0), (1, 11, 0)), ((0, 1, 0), (0, (-2147483648), 2147483647)), ((0, 2, 0), (0, 0, 2))], [(0, 0), (1, 1), (2, 2)], [], [(99996, 0, 0), (2, (-1), 2), (100001, 0, 0), (0, 0, 0)], []))]) (fuel := 32) rfl (by decide) (fun _ h => absurd h List.not_mem_nil) hI (by decide +kernel)
def sp_177 : SP := ([(1, 11, 0), (0, (-2147483648), 2147483647)], [], some (0, (-2147483648), 2147483647), [], [], [], 1, 0, [])
set_option maxRecDepth 100000 in
theorem c_177 {I : Sg → Prop} (hI : stab I DEP) : SpecOK PRG TYP I 177 sp_177 := chkM_ok (M0 := M_177) (dep := DEP) (env := [(169, sp_169), (176, sp_176)]) (cuts := []) (fuel := 87) rfl (by decide) (List.forall_mem_cons.mpr ⟨(c_169 hI), List.forall_mem_cons.mpr ⟨(c_176 hI), fun _ h => absurd h List.not_mem_nil⟩⟩) hI (by decide +kernel)
