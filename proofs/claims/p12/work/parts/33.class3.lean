/-! the class: promises -/ 
def sp_90 : SP := ([(1, 7, 0)], [], some (0, (-2147483648), 2147483647), [], [], [(21, 0, 13), (22, 0, 63)], 3, 0, [])
set_option maxRecDepth 100000 in
theorem c_90 {I : Sg → Prop} (hI : stab I DEP) : SpecOK PRG TYP I 90 sp_90 := chkM_ok (M0 := M_90) (dep := DEP) (env := [(85, sp_85), (86, sp_86)]) (cuts := [(4, ([((0, 0, 0), (1, 7, 0)), ((0, 1, 0), (0, (-2147483648), 2147483647)), ((0, 2, 0), (0, 0, 16))], [(0, 0), (1, 1), (2, 2)], [], [(99996, 0, 0), (16, (-1), 2), (100001, 0, 0), (0, 0, 0), (0, 0, 0), (0, 0, 0)], [])), (20, ([((0, 0, 0), (1, 7, 0)), ((0, 1, 0), (0, (-2147483648), 2147483647)), ((0, 2, 0), (0, 0, 15)), ((0, 3, 0), (0, 0, 1)), ((0, 4, 0), (0, 0, 6))], [(0, 0), (1, 1), (2, 2), (3, 3), (4, 4)], [], [(99996, 0, 0), (16, (-1), 2), (99980, 0, 0), (6, (-1), 4), (100001, 0, 0), (0, 0, 0)], []))]) (fuel := 61) rfl (by decide) (List.forall_mem_cons.mpr ⟨(c_85 hI), List.forall_mem_cons.mpr ⟨(c_86 hI), fun _ h => absurd h List.not_mem_nil⟩⟩) hI (by decide +kernel)
def sp_91 : SP := ([(0, (-2147483648), 2147483647)], [], some (0, 0, 1), [], [], [], 0, 0, [])
set_option maxRecDepth 100000 in
theorem c_91 {I : Sg → Prop} (hI : stab I DEP) : SpecOK PRG TYP I 91 sp_91 := chkM_ok (M0 := M_91) (dep := DEP) (env := []) (cuts := []) (fuel := 18) rfl (by decide) (fun _ h => absurd h List.not_mem_nil) hI (by decide +kernel)
def sp_92 : SP := ([(1, 9, 0), (0, (-2147483648), 2147483647), (3, 0, 0), (0, (-2147483648), 2147483647)], [], none, [], [], [(9, 4, 4), (36, 0, 401), (37, 0, 401)], 0, 0, [])
set_option maxRecDepth 100000 in
theorem c_92 {I : Sg → Prop} (hI : stab I DEP) : SpecOK PRG TYP I 92 sp_92 := chkM_ok (M0 := M_92) (dep := DEP) (env := []) (cuts := []) (fuel := 37) rfl (by decide) (fun _ h => absurd h List.not_mem_nil) hI (by decide +kernel)
def sp_93 : SP := ([(1, 9, 0), (3, 0, 0)], [], some (0, 2, 36), [], [], [], 0, 0, [])
set_option maxRecDepth 100000 in
theorem c_93 {I : Sg → Prop} (hI : stab I DEP) : SpecOK PRG TYP I 93 sp_93 := chkM_ok (M0 := M_93) (dep := DEP) (env := []) (cuts := [(2, ([((0, 0, 0), (1, 9, 0)), ((0, 1, 0), (3, 0, 0)), ((0, 3, 0), (0, 0, 22))], [(0, 0), (1, 1), (3, 2)], [], [(99998, 0, 0), (22, (-1), 2), (100001, 0, 0), (0, 0, 0)], []))]) (fuel := 27) rfl (by decide) (fun _ h => absurd h List.not_mem_nil) hI (by decide +kernel)
def sp_94 : SP := ([(1, 9, 0), (1, 41, 0), (0, 0, 2000), (0, 0, 1999)], [], some (0, 0, 2000), [], [], [(9, 4, 4), (36, 0, 401), (37, 0, 401)], 1, 0, [])
set_option maxRecDepth 100000 in
theorem c_94 {I : Sg → Prop} (hI : stab I DEP) : SpecOK PRG TYP I 94 sp_94 := chkM_ok (M0 := M_94) (dep := DEP) (env := [(91, sp_91), (92, sp_92), (93, sp_93)]) (cuts := [(6, ([((0, 0, 0), (1, 9, 0)), ((0, 1, 0), (1, 41, 0)), ((0, 2, 0), (0, 0, 2000)), ((0, 3, 0), (0, 0, 1999)), ((0, 4, 0), (3, 0, 0)), ((0, 6, 0), (0, 0, 2000))], [(0, 0), (1, 1), (2, 2), (3, 3), (4, 4), (6, 5)], [], [(99994, 0, 0), (2000, (-1), 5), (100001, 0, 0), (0, 0, 0)], []))]) (fuel := 89) rfl (by decide) (List.forall_mem_cons.mpr ⟨(c_91 hI), List.forall_mem_cons.mpr ⟨(c_92 hI), List.forall_mem_cons.mpr ⟨(c_93 hI), fun _ h => absurd h List.not_mem_nil⟩⟩⟩) hI (by decide +kernel)
def sp_95 : SP := ([(0, (-2147483648), 2147483647)], [], some (0, 0, 1), [], [], [], 0, 0, [])
set_option maxRecDepth 100000 in
theorem c_95 {I : Sg → Prop} (hI : stab I DEP) : SpecOK PRG TYP I 95 sp_95 := chkM_ok (M0 := M_95) (dep := DEP) (env := []) (cuts := []) (fuel := 18) rfl (by decide) (fun _ h => absurd h List.not_mem_nil) hI (by decide +kernel)
def sp_96 : SP := ([(1, 9, 0), (1, 41, 0), (0, 0, 2000), (0, 0, 1999)], [], some (0, 0, 2000), [], [], [(9, 4, 4), (36, 0, 401), (37, 0, 401)], 1, 0, [])
set_option maxRecDepth 100000 in
theorem c_96 {I : Sg → Prop} (hI : stab I DEP) : SpecOK PRG TYP I 96 sp_96 := chkM_ok (M0 := M_96) (dep := DEP) (env := [(92, sp_92), (95, sp_95)]) (cuts := [(6, ([((0, 0, 0), (1, 9, 0)), ((0, 1, 0), (1, 41, 0)), ((0, 2, 0), (0, 0, 2000)), ((0, 3, 0), (0, 0, 1999)), ((0, 4, 0), (0, (-2147483648), 2147483647)), ((0, 5, 0), (0, 0, 2000))], [(0, 0), (1, 1), (2, 2), (3, 3), (4, 4), (5, 5)], [], [(99994, 0, 0), (2000, (-1), 5), (100001, 0, 0), (0, 0, 0)], []))]) (fuel := 84) rfl (by decide) (List.forall_mem_cons.mpr ⟨(c_92 hI), List.forall_mem_cons.mpr ⟨(c_95 hI), fun _ h => absurd h List.not_mem_nil⟩⟩) hI (by decide +kernel)
def sp_97 : SP := ([(0, (-2147483648), 2147483647), (0, 0, 1)], [], some (0, 1, 14), [], [], [], 0, 0, [])
set_option maxRecDepth 100000 in
theorem c_97 {I : Sg → Prop} (hI : stab I DEP) : SpecOK PRG TYP I 97 sp_97 := chkM_ok (M0 := M_97) (dep := DEP) (env := []) (cuts := []) (fuel := 82) rfl (by decide) (fun _ h => absurd h List.not_mem_nil) hI (by decide +kernel)
def sp_98 : SP := ([(1, 9, 0), (1, 41, 0), (0, 0, 2000), (0, 0, 1999)], [], some (0, 0, 2001), [], [], [(9, 4, 4), (36, 0, 401), (37, 0, 401)], 1, 0, [])
set_option maxRecDepth 100000 in
theorem c_98 {I : Sg → Prop} (hI : stab I DEP) : SpecOK PRG TYP I 98 sp_98 := chkM_ok (M0 := M_98) (dep := DEP) (env := [(92, sp_92), (97, sp_97)]) (cuts := []) (fuel := 167) rfl (by decide) (List.forall_mem_cons.mpr ⟨(c_92 hI), List.forall_mem_cons.mpr ⟨(c_97 hI), fun _ h => absurd h List.not_mem_nil⟩⟩) hI (by decide +kernel)
def sp_99 : SP := ([(1, 9, 0), (1, 41, 0), (0, 0, 2000)], [], none, [], [], [(9, 4, 4), (36, 0, 401), (37, 0, 401)], 2, 0, [])
set_option maxRecDepth 100000 in
theorem c_99 {I : Sg → Prop} (hI : stab I DEP) : SpecOK PRG TYP I 99 sp_99 := chkM_ok (M0 := M_99) (dep := DEP) (env := [(91, sp_91), (92, sp_92), (94, sp_94), (95, sp_95), (96, sp_96), (98, sp_98)]) (cuts := [(10, ([((0, 0, 0), (1, 9, 0)), ((0, 1, 0), (1, 41, 0)), ((0, 2, 0), (0, 0, 2000)), ((0, 3, 0), (0, 0, 2001)), ((0, 4, 0), (0, 0, 2000))], [(0, 0), (1, 1), (2, 2), (3, 3), (4, 4)], [], [(99990, 0, 0), (2000, (-1), 4), (100001, 0, 0), (0, 0, 0)], []))]) (fuel := 110) rfl (by decide) (List.forall_mem_cons.mpr ⟨(c_91 hI), List.forall_mem_cons.mpr ⟨(c_92 hI), List.forall_mem_cons.mpr ⟨(c_94 hI), List.forall_mem_cons.mpr ⟨(c_95 hI), List.forall_mem_cons.mpr ⟨(c_96 hI), List.forall_mem_cons.mpr ⟨(c_98 hI), fun _ h => absurd h List.not_mem_nil⟩⟩⟩⟩⟩⟩) hI (by decide +kernel)
def sp_100 : SP := ([(1, 8, 0), (1, 41, 0), (0, 0, 2000)], [], none, [], [], [(9, 4, 4), (36, 0, 401), (37, 0, 401)], 3, 0, [])
set_option maxRecDepth 100000 in
theorem c_100 {I : Sg → Prop} (hI : stab I DEP) : SpecOK PRG TYP I 100 sp_100 := chkM_ok (M0 := M_100) (dep := DEP) (env := [(99, sp_99)]) (cuts := []) (fuel := 11) rfl (by decide) (List.forall_mem_cons.mpr ⟨(c_99 hI), fun _ h => absurd h List.not_mem_nil⟩) hI (by decide +kernel)
def sp_115 : SP := ([(1, 10, 0)], [], none, [], [], [(10, 4, 4)], 0, 0, [])
set_option maxRecDepth 100000 in
theorem c_115 {I : Sg → Prop} (hI : stab I DEP) : SpecOK PRG TYP I 115 sp_115 := chkM_ok (M0 := M_115) (dep := DEP) (env := []) (cuts := []) (fuel := 9) rfl (by decide) (fun _ h => absurd h List.not_mem_nil) hI (by decide +kernel)
def sp_116 : SP := ([(1, 10, 0), (0, (-2147483648), 2147483647)], [], some (0, 0, 4), [], [], [], 1, 0, [])
set_option maxRecDepth 100000 in
theorem c_116 {I : Sg → Prop} (hI : stab I DEP) : SpecOK PRG TYP I 116 sp_116 := chkM_ok (M0 := M_116) (dep := DEP) (env := [(58, sp_58)]) (cuts := [(2, ([((0, 0, 0), (1, 10, 0)), ((0, 1, 0), (0, (-2147483648), 2147483647)), ((0, 2, 0), (0, 0, 5))], [(0, 0), (1, 1), (2, 2)], [], [(99998, 0, 0), (5, (-1), 2), (100001, 0, 0), (0, 0, 0)], []))]) (fuel := 21) rfl (by decide) (List.forall_mem_cons.mpr ⟨(c_58 hI), fun _ h => absurd h List.not_mem_nil⟩) hI (by decide +kernel)
def sp_117a : SP := ([(1, 10, 0), (1, 3, 0), (0, (-2147483648), 2147483647), (0, 1, 65535)], [], some (0, (-1), 15), [], [], [(1, 7, 7), (1, 8, 8), (1, 9, 9), (1, 10, 10), (1, 11, 11), (1, 12, 12), (6, 4, 4), (6, 5, 5), (6, 6, 6), (6, 7, 7), (6, 9, 9), (10, 3, 3), (10, 4, 4), (10, 5, 5), (10, 6, 6), (16, 0, 3), (18, 0, 3), (19, 0, 3), (21, 0, 13), (22, 0, 63), (31, 0, 3), (32, 0, 2047), (40, 0, 79), (114, 0, 494)], 30, 0, [])
set_option maxRecDepth 100000 in
theorem c_117a {I : Sg → Prop} (hI : stab I DEP) : SpecOK PRG TYP I 117 sp_117a := chkM_ok (M0 := M_117) (dep := DEP) (env := [(2, sp_2z), (2, sp_2), (1, sp_1), (1, sp_1f), (57, sp_57), (60, sp_60)]) (cuts := []) (fuel := 21) rfl (by decide) (List.forall_mem_cons.mpr ⟨(c_2z hI), List.forall_mem_cons.mpr ⟨(c_2 hI), List.forall_mem_cons.mpr ⟨(c_1 hI), List.forall_mem_cons.mpr ⟨(c_1f hI), List.forall_mem_cons.mpr ⟨(c_57 hI), List.forall_mem_cons.mpr ⟨(c_60 hI), fun _ h => absurd h List.not_mem_nil⟩⟩⟩⟩⟩⟩) hI (by decide +kernel)
def sp_117b : SP := ([(1, 10, 0), (1, 3, 0), (0, (-2147483648), 2147483647), (0, 0, 0)], [], some (0, (-1), 15), [], [], [(1, 7, 7), (1, 8, 8), (1, 9, 9), (1, 10, 10), (1, 11, 11), (1, 12, 12), (6, 4, 4), (6, 5, 5), (6, 6, 6), (6, 7, 7), (6, 9, 9), (10, 3, 3), (10, 4, 4), (10, 5, 5), (10, 6, 6), (16, 0, 3), (18, 0, 3), (19, 0, 3), (21, 0, 13), (22, 0, 63), (31, 0, 3), (32, 0, 2047), (40, 0, 79), (114, 0, 494)], 30, 0, [])
set_option maxRecDepth 100000 in
theorem c_117b {I : Sg → Prop} (hI : stab I DEP) : SpecOK PRG TYP I 117 sp_117b := chkM_ok (M0 := M_117) (dep := DEP) (env := [(2, sp_2z), (2, sp_2), (1, sp_1), (1, sp_1f), (57, sp_57), (60, sp_60)]) (cuts := []) (fuel := 18) rfl (by decide) (List.forall_mem_cons.mpr ⟨(c_2z hI), List.forall_mem_cons.mpr ⟨(c_2 hI), List.forall_mem_cons.mpr ⟨(c_1 hI), List.forall_mem_cons.mpr ⟨(c_1f hI), List.forall_mem_cons.mpr ⟨(c_57 hI), List.forall_mem_cons.mpr ⟨(c_60 hI), fun _ h => absurd h List.not_mem_nil⟩⟩⟩⟩⟩⟩) hI (by decide +kernel)
def sp_118 : SP := ([(1, 10, 0), (0, (-2147483648), 2147483647), (0, (-2147483648), 2147483647)], [], some (0, 0, 1), [], [], [], 2, 0, [])
set_option maxRecDepth 100000 in
theorem c_118 {I : Sg → Prop} (hI : stab I DEP) : SpecOK PRG TYP I 118 sp_118 := chkM_ok (M0 := M_118) (dep := DEP) (env := [(59, sp_59), (116, sp_116)]) (cuts := []) (fuel := 37) rfl (by decide) (List.forall_mem_cons.mpr ⟨(c_59 hI), List.forall_mem_cons.mpr ⟨(c_116 hI), fun _ h => absurd h List.not_mem_nil⟩⟩) hI (by decide +kernel)
def sp_119 : SP := ([(1, 10, 0), (1, 3, 0), (0, (-2147483648), 2147483647), (0, 0, 65535)], [], some (0, 0, 15), [], [], [(1, 7, 7), (1, 8, 8), (1, 9, 9), (1, 10, 10), (1, 11, 11), (1, 12, 12), (6, 4, 4), (6, 5, 5), (6, 6, 6), (6, 7, 7), (6, 9, 9), (10, 3, 3), (10, 4, 4), (10, 5, 5), (10, 6, 6), (16, 0, 3), (18, 0, 3), (19, 0, 3), (21, 0, 13), (22, 0, 63), (31, 0, 3), (32, 0, 2047), (40, 0, 79), (114, 0, 494)], 30, 0, [])
set_option maxRecDepth 100000 in
theorem c_119 {I : Sg → Prop} (hI : stab I DEP) : SpecOK PRG TYP I 119 sp_119 := chkM_ok (M0 := M_119) (dep := DEP) (env := [(57, sp_57), (118, sp_118)]) (cuts := [(13, ([((0, 0, 0), (1, 10, 0)), ((0, 3, 0), (0, 0, 65535)), ((0, 4, 0), (0, (-1), 15)), ((0, 5, 0), (0, 0, 16))], [(0, 0), (3, 1), (4, 2), (5, 3)], [], [(99987, 0, 0), (16, (-1), 3), (100001, 0, 0), (0, 0, 0)], []))]) (fuel := 46) rfl (by decide) (List.forall_mem_cons.mpr ⟨(c_57 hI), List.forall_mem_cons.mpr ⟨(c_118 hI), fun _ h => absurd h List.not_mem_nil⟩⟩) hI (by decide +kernel)
def sp_117 : SP := ([(1, 10, 0), (1, 3, 0), (0, (-2147483648), 2147483647), (0, 0, 65535)], [], some (0, (-1), 15), [], [], [(1, 7, 7), (1, 8, 8), (1, 9, 9), (1, 10, 10), (1, 11, 11), (1, 12, 12), (6, 4, 4), (6, 5, 5), (6, 6, 6), (6, 7, 7), (6, 9, 9), (10, 3, 3), (10, 4, 4), (10, 5, 5), (10, 6, 6), (16, 0, 3), (18, 0, 3), (19, 0, 3), (21, 0, 13), (22, 0, 63), (31, 0, 3), (32, 0, 2047), (40, 0, 79), (114, 0, 494)], 30, 0, [])
set_option maxRecDepth 100000 in
theorem c_117 {I : Sg → Prop} (hI : stab I DEP) : SpecOK PRG TYP I 117 sp_117 := by
  refine SpecOK.cases (sps := [sp_117a, sp_117b]) (by decide) (List.forall_mem_cons.mpr ⟨(c_117a hI), List.forall_mem_cons.mpr ⟨(c_117b hI), fun _ h => absurd h List.not_mem_nil⟩⟩) (by decide +kernel) (fun av σ ht hI hav hpre _ => ?_)
  have hl : av.length = 4 := hav.1
  have hv : av[3]? = some av[3] := List.getElem?_eq_getElem (by omega)
  obtain ⟨w, hw, h1, h2⟩ := hav.2 3 _ _ rfl hv
  simp only at h1 h2
  by_cases h0 : w.toInt = 0
  · refine ⟨sp_117b, by simp, ⟨hav.1, fun j t v hj hjv => ?_⟩, fun p hp => absurd hp List.not_mem_nil, fun p hp => absurd hp List.not_mem_nil⟩
    match j, hj with
    | 0, hj => exact hav.2 0 t v hj hjv
    | 1, hj => exact hav.2 1 t v hj hjv
    | 2, hj => exact hav.2 2 t v hj hjv
    | 3, hj =>
      cases hj
      rw [hv] at hjv
      cases hjv
      exact ⟨w, hw, by simp only; omega, by simp only; omega⟩
    | n + 4, hj => cases hj
  · refine ⟨sp_117a, by simp, ⟨hav.1, fun j t v hj hjv => ?_⟩, fun p hp => absurd hp List.not_mem_nil, fun p hp => absurd hp List.not_mem_nil⟩
    match j, hj with
    | 0, hj => exact hav.2 0 t v hj hjv
    | 1, hj => exact hav.2 1 t v hj hjv
    | 2, hj => exact hav.2 2 t v hj hjv
    | 3, hj =>
      cases hj
      rw [hv] at hjv
      cases hjv
      exact ⟨w, hw, by simp only; omega, by simp only; omega⟩
    | n + 4, hj => cases hj
def sp_120 : SP := ([(1, 11, 0), (0, (-2147483648), 2147483647)], [], none, [], [], [(11, 1, 1), (41, 0, 1999)], 0, 0, [])
set_option maxRecDepth 100000 in
theorem c_120 {I : Sg → Prop} (hI : stab I DEP) : SpecOK PRG TYP I 120 sp_120 := chkM_ok (M0 := M_120) (dep := DEP) (env := []) (cuts := [(3, ([((0, 0, 0), (1, 11, 0)), ((0, 1, 0), (0, (-2147483648), 2147483647)), ((0, 2, 0), (0, (-128), 24))], [(0, 0), (1, 1), (2, 2)], [], [(99997, 0, 0), (128, 1, 2), (100001, 0, 0), (0, 0, 0)], []))]) (fuel := 32) rfl (by decide) (fun _ h => absurd h List.not_mem_nil) hI (by decide +kernel)
def sp_121 : SP := ([(1, 11, 0), (0, (-2147483648), 2147483647), (0, (-2147483648), 2147483647), (0, (-2147483648), 2147483647), (0, (-2147483648), 2147483647), (0, (-2147483648), 2147483647)], [], some (0, (-1), 2000), [], [], [(11, 1, 1), (41, 0, 1999)], 1, 0, [])
set_option maxRecDepth 100000 in
theorem c_121 {I : Sg → Prop} (hI : stab I DEP) : SpecOK PRG TYP I 121 sp_121 := chkM_ok (M0 := M_121) (dep := DEP) (env := [(120, sp_120)]) (cuts := []) (fuel := 31) rfl (by decide) (List.forall_mem_cons.mpr ⟨(c_120 hI), fun _ h => absurd h List.not_mem_nil⟩) hI (by decide +kernel)
def sp_122 : SP := ([(1, 11, 0), (0, (-2147483648), 2147483647)], [], some (0, (-1), 2000), [], [], [(11, 1, 1)], 0, 0, [])
set_option maxRecDepth 100000 in
theorem c_122 {I : Sg → Prop} (hI : stab I DEP) : SpecOK PRG TYP I 122 sp_122 := chkM_ok (M0 := M_122) (dep := DEP) (env := []) (cuts := []) (fuel := 24) rfl (by decide) (fun _ h => absurd h List.not_mem_nil) hI (by decide +kernel)
def sp_123 : SP := ([(1, 11, 0)], [], none, [], [], [(0, 2, 2), (3, 2, 2), (3, 6, 6), (3, 7, 7), (3, 17, 17), (6, 13, 13), (10, 4, 4), (20, 0, 1023), (33, 0, 3)], 2, 0, [])
set_option maxRecDepth 100000 in
theorem c_123 {I : Sg → Prop} (hI : stab I DEP) : SpecOK PRG TYP I 123 sp_123 := chkM_ok (M0 := M_123) (dep := DEP) (env := [(4, sp_4), (27, sp_27), (66, sp_66), (76, sp_76), (115, sp_115)]) (cuts := [(16, ([((0, 0, 0), (1, 11, 0)), ((0, 1, 0), (0, 0, 2))], [(0, 0), (1, 1)], [], [(99984, 0, 0), (2, (-1), 1), (100001, 0, 0), (0, 0, 0)], []))]) (fuel := 36) rfl (by decide) (List.forall_mem_cons.mpr ⟨(c_4 hI), List.forall_mem_cons.mpr ⟨(c_27 hI), List.forall_mem_cons.mpr ⟨(c_66 hI), List.forall_mem_cons.mpr ⟨(c_76 hI), List.forall_mem_cons.mpr ⟨(c_115 hI), fun _ h => absurd h List.not_mem_nil⟩⟩⟩⟩⟩) hI (by decide +kernel)
def sp_125 : SP := ([(1, 11, 0)], [], some (0, (-2147483648), 2147483647), [], [], [], 0, 0, [])
set_option maxRecDepth 100000 in
theorem c_125 {I : Sg → Prop} (hI : stab I DEP) : SpecOK PRG TYP I 125 sp_125 := chkM_ok (M0 := M_125) (dep := DEP) (env := []) (cuts := []) (fuel := 9) rfl (by decide) (fun _ h => absurd h List.not_mem_nil) hI (by decide +kernel)
def sp_126 : SP := ([(1, 11, 0), (0, (-2147483648), 2147483647)], [], some (0, 1, 1), [], [], [(3, 2, 2), (3, 5, 5), (3, 6, 6), (3, 7, 7), (3, 17, 17), (43, 0, 3), (44, 0, 3), (45, 0, 15)], 3, 0, [])
set_option maxRecDepth 100000 in
theorem c_126 {I : Sg → Prop} (hI : stab I DEP) : SpecOK PRG TYP I 126 sp_126 := chkM_ok (M0 := M_126) (dep := DEP) (env := [(33, sp_33)]) (cuts := []) (fuel := 11) rfl (by decide) (List.forall_mem_cons.mpr ⟨(c_33 hI), fun _ h => absurd h List.not_mem_nil⟩) hI (by decide +kernel)
def sp_127 : SP := ([(1, 11, 0), (0, (-2147483648), 2147483647)], [], some (0, 0, 1), [(1, 0, 65535)], [], [], 1, 0, [])
set_option maxRecDepth 100000 in
theorem c_127 {I : Sg → Prop} (hI : stab I DEP) : SpecOK PRG TYP I 127 sp_127 := chkM_ok (M0 := M_127) (dep := DEP) (env := [(2, sp_2z), (2, sp_2), (18, sp_18)]) (cuts := []) (fuel := 26) rfl (by decide) (List.forall_mem_cons.mpr ⟨(c_2z hI), List.forall_mem_cons.mpr ⟨(c_2 hI), List.forall_mem_cons.mpr ⟨(c_18 hI), fun _ h => absurd h List.not_mem_nil⟩⟩⟩) hI (by decide +kernel)
def sp_128 : SP := ([(1, 11, 0), (0, (-2147483648), 2147483647), (0, (-2147483648), 2147483647), (0, (-2147483648), 2147483647)], [], some (0, 0, 1), [], [], [(3, 2, 2), (3, 5, 5), (3, 6, 6), (3, 7, 7), (3, 17, 17), (43, 0, 3), (44, 0, 3)], 2, 0, [])
set_option maxRecDepth 100000 in
theorem c_128 {I : Sg → Prop} (hI : stab I DEP) : SpecOK PRG TYP I 128 sp_128 := chkM_ok (M0 := M_128) (dep := DEP) (env := [(18, sp_18), (32, sp_32), (127, sp_127)]) (cuts := []) (fuel := 62) rfl (by decide) (List.forall_mem_cons.mpr ⟨(c_18 hI), List.forall_mem_cons.mpr ⟨(c_32 hI), List.forall_mem_cons.mpr ⟨(c_127 hI), fun _ h => absurd h List.not_mem_nil⟩⟩⟩) hI (by decide +kernel)
def sp_129 : SP := ([(1, 11, 0), (0, (-2147483648), 2147483647)], [], some (0, 0, 1), [(1, 0, 3)], [], [], 0, 0, [])
set_option maxRecDepth 100000 in
theorem c_129 {I : Sg → Prop} (hI : stab I DEP) : SpecOK PRG TYP I 129 sp_129 := chkM_ok (M0 := M_129) (dep := DEP) (env := []) (cuts := []) (fuel := 17) rfl (by decide) (fun _ h => absurd h List.not_mem_nil) hI (by decide +kernel)
def sp_130 : SP := ([(1, 11, 0), (0, (-2147483648), 2147483647)], [], some (0, 0, 1), [], [], [(3, 5, 5), (3, 6, 6), (3, 17, 17)], 1, 0, [])
set_option maxRecDepth 100000 in
theorem c_130 {I : Sg → Prop} (hI : stab I DEP) : SpecOK PRG TYP I 130 sp_130 := chkM_ok (M0 := M_130) (dep := DEP) (env := [(31, sp_31), (129, sp_129)]) (cuts := []) (fuel := 29) rfl (by decide) (List.forall_mem_cons.mpr ⟨(c_31 hI), List.forall_mem_cons.mpr ⟨(c_129 hI), fun _ h => absurd h List.not_mem_nil⟩⟩) hI (by decide +kernel)
def sp_131 : SP := ([(1, 11, 0), (0, (-2147483648), 2147483647), (0, 0, 1)], [], some (0, (-1), 65535), [], [], [], 1, 0, [])
set_option maxRecDepth 100000 in
theorem c_131 {I : Sg → Prop} (hI : stab I DEP) : SpecOK PRG TYP I 131 sp_131 := chkM_ok (M0 := M_131) (dep := DEP) (env := [(129, sp_129)]) (cuts := []) (fuel := 32) rfl (by decide) (List.forall_mem_cons.mpr ⟨(c_129 hI), fun _ h => absurd h List.not_mem_nil⟩) hI (by decide +kernel)
def sp_132 : SP := ([(1, 11, 0)], [], some (0, (-2), 3), [], [], [], 0, 0, [])
set_option maxRecDepth 100000 in
theorem c_132 {I : Sg → Prop} (hI : stab I DEP) : SpecOK PRG TYP I 132 sp_132 := chkM_ok (M0 := M_132) (dep := DEP) (env := []) (cuts := []) (fuel := 9) rfl (by decide) (fun _ h => absurd h List.not_mem_nil) hI (by decide +kernel)
def sp_133 : SP := ([(1, 11, 0)], [], some (0, 0, 65535), [], [], [], 2, 0, [])
set_option maxRecDepth 100000 in
theorem c_133 {I : Sg → Prop} (hI : stab I DEP) : SpecOK PRG TYP I 133 sp_133 := chkM_ok (M0 := M_133) (dep := DEP) (env := [(35, sp_35)]) (cuts := []) (fuel := 9) rfl (by decide) (List.forall_mem_cons.mpr ⟨(c_35 hI), fun _ h => absurd h List.not_mem_nil⟩) hI (by decide +kernel)
def sp_134 : SP := ([(1, 11, 0), (0, (-2147483648), 2147483647)], [], some (0, 0, 1), [(1, 0, 15)], [], [], 0, 0, [])
set_option maxRecDepth 100000 in
theorem c_134 {I : Sg → Prop} (hI : stab I DEP) : SpecOK PRG TYP I 134 sp_134 := chkM_ok (M0 := M_134) (dep := DEP) (env := []) (cuts := []) (fuel := 19) rfl (by decide) (fun _ h => absurd h List.not_mem_nil) hI (by decide +kernel)
def sp_135 : SP := ([(1, 11, 0), (0, (-2147483648), 2147483647)], [], some (0, 0, 1), [(1, 0, 15)], [], [], 1, 0, [])
set_option maxRecDepth 100000 in
theorem c_135 {I : Sg → Prop} (hI : stab I DEP) : SpecOK PRG TYP I 135 sp_135 := chkM_ok (M0 := M_135) (dep := DEP) (env := [(134, sp_134)]) (cuts := []) (fuel := 34) rfl (by decide) (List.forall_mem_cons.mpr ⟨(c_134 hI), fun _ h => absurd h List.not_mem_nil⟩) hI (by decide +kernel)
def sp_136 : SP := ([(1, 11, 0), (0, (-2147483648), 2147483647)], [], some (0, (-2), 16), [], [], [(3, 6, 7), (3, 17, 17), (21, 0, 13), (22, 0, 63), (44, 0, 3), (45, 0, 15), (46, 0, 15), (47, 0, 15), (48, 0, 15), (49, 0, 15), (50, 0, 15), (51, 0, 15), (52, 0, 15), (53, 0, 3)], 7, 0, [])
set_option maxRecDepth 100000 in
theorem c_136 {I : Sg → Prop} (hI : stab I DEP) : SpecOK PRG TYP I 136 sp_136 := chkM_ok (M0 := M_136) (dep := DEP) (env := [(35, sp_35), (63, sp_63), (135, sp_135)]) (cuts := []) (fuel := 29) rfl (by decide) (List.forall_mem_cons.mpr ⟨(c_35 hI), List.forall_mem_cons.mpr ⟨(c_63 hI), List.forall_mem_cons.mpr ⟨(c_135 hI), fun _ h => absurd h List.not_mem_nil⟩⟩⟩) hI (by decide +kernel)
def sp_137 : SP := ([(1, 11, 0), (0, (-2147483648), 2147483647)], [], some (0, (-1), 16), [], [], [(3, 6, 7), (3, 17, 17), (21, 0, 13), (22, 0, 63), (44, 0, 3), (45, 0, 15), (46, 0, 15), (47, 0, 15), (48, 0, 15), (49, 0, 15), (50, 0, 15), (51, 0, 15), (52, 0, 15), (53, 0, 3)], 7, 0, [])
set_option maxRecDepth 100000 in
theorem c_137 {I : Sg → Prop} (hI : stab I DEP) : SpecOK PRG TYP I 137 sp_137 := chkM_ok (M0 := M_137) (dep := DEP) (env := [(63, sp_63), (135, sp_135)]) (cuts := []) (fuel := 19) rfl (by decide) (List.forall_mem_cons.mpr ⟨(c_63 hI), List.forall_mem_cons.mpr ⟨(c_135 hI), fun _ h => absurd h List.not_mem_nil⟩⟩) hI (by decide +kernel)
def sp_138 : SP := ([(1, 11, 0)], [], some (0, (-1), 16), [], [], [(3, 6, 6), (3, 7, 7), (3, 17, 17), (44, 0, 3)], 1, 0, [])
set_option maxRecDepth 100000 in
theorem c_138 {I : Sg → Prop} (hI : stab I DEP) : SpecOK PRG TYP I 138 sp_138 := chkM_ok (M0 := M_138) (dep := DEP) (env := [(69, sp_69)]) (cuts := []) (fuel := 18) rfl (by decide) (List.forall_mem_cons.mpr ⟨(c_69 hI), fun _ h => absurd h List.not_mem_nil⟩) hI (by decide +kernel)
def sp_139 : SP := ([(1, 11, 0), (0, (-2147483648), 2147483647), (0, (-2147483648), 2147483647)], [], some (0, (-2147483648), 2147483647), [], [], [], 1, 0, [])
set_option maxRecDepth 100000 in
theorem c_139 {I : Sg → Prop} (hI : stab I DEP) : SpecOK PRG TYP I 139 sp_139 := chkM_ok (M0 := M_139) (dep := DEP) (env := [(70, sp_70)]) (cuts := []) (fuel := 55) rfl (by decide) (List.forall_mem_cons.mpr ⟨(c_70 hI), fun _ h => absurd h List.not_mem_nil⟩) hI (by decide +kernel)
def sp_140 : SP := ([(1, 11, 0), (0, (-2147483648), 2147483647)], [], some (0, (-2147483648), 2147483647), [], [], [], 1, 0, [])
set_option maxRecDepth 100000 in
theorem c_140 {I : Sg → Prop} (hI : stab I DEP) : SpecOK PRG TYP I 140 sp_140 := chkM_ok (M0 := M_140) (dep := DEP) (env := [(64, sp_64)]) (cuts := []) (fuel := 21) rfl (by decide) (List.forall_mem_cons.mpr ⟨(c_64 hI), fun _ h => absurd h List.not_mem_nil⟩) hI (by decide +kernel)
def sp_141 : SP := ([(1, 11, 0), (0, (-2147483648), 2147483647)], [], some (0, (-1), 3), [], [], [], 0, 0, [])
set_option maxRecDepth 100000 in
theorem c_141 {I : Sg → Prop} (hI : stab I DEP) : SpecOK PRG TYP I 141 sp_141 := chkM_ok (M0 := M_141) (dep := DEP) (env := []) (cuts := []) (fuel := 26) rfl (by decide) (fun _ h => absurd h List.not_mem_nil) hI (by decide +kernel)
def sp_142 : SP := ([(1, 11, 0), (0, (-2147483648), 2147483647)], [], some (0, (-2147483648), 2147483647), [], [], [], 1, 0, [])
set_option maxRecDepth 100000 in
theorem c_142 {I : Sg → Prop} (hI : stab I DEP) : SpecOK PRG TYP I 142 sp_142 := chkM_ok (M0 := M_142) (dep := DEP) (env := [(70, sp_70)]) (cuts := [(22, ([((0, 0, 0), (1, 11, 0)), ((0, 1, 0), (0, 0, 2)), ((0, 2, 0), (0, (-2147483648), 2147483647)), ((0, 3, 0), (0, (-2147483648), 2147483647)), ((0, 4, 0), (0, 0, 16)), ((0, 5, 0), (0, 0, 16))], [(0, 0), (1, 1), (2, 2), (3, 3), (4, 4), (5, 5)], [], [(99978, 0, 0), (16, (-1), 5), (100001, 0, 0), (0, 0, 0)], []))]) (fuel := 69) rfl (by decide) (List.forall_mem_cons.mpr ⟨(c_70 hI), fun _ h => absurd h List.not_mem_nil⟩) hI (by decide +kernel)
def sp_143 : SP := ([(1, 11, 0), (0, (-2147483648), 2147483647)], [], some (0, 0, 1), [], [], [], 0, 0, [])
set_option maxRecDepth 100000 in
theorem c_143 {I : Sg → Prop} (hI : stab I DEP) : SpecOK PRG TYP I 143 sp_143 := chkM_ok (M0 := M_143) (dep := DEP) (env := []) (cuts := []) (fuel := 21) rfl (by decide) (fun _ h => absurd h List.not_mem_nil) hI (by decide +kernel)
def sp_144 : SP := ([(1, 11, 0), (0, (-2147483648), 2147483647), (0, (-2147483648), 2147483647), (0, (-2147483648), 2147483647)], [], some (0, (-2147483648), 2147483647), [], [], [], 1, 0, [])
set_option maxRecDepth 100000 in
theorem c_144 {I : Sg → Prop} (hI : stab I DEP) : SpecOK PRG TYP I 144 sp_144 := chkM_ok (M0 := M_144) (dep := DEP) (env := [(143, sp_143)]) (cuts := []) (fuel := 49) rfl (by decide) (List.forall_mem_cons.mpr ⟨(c_143 hI), fun _ h => absurd h List.not_mem_nil⟩) hI (by decide +kernel)
def sp_145 : SP := ([(1, 11, 0), (0, (-2147483648), 2147483647), (0, (-2147483648), 2147483647)], [], some (0, 0, 1), [(1, 0, 3)], [], [], 1, 0, [])
set_option maxRecDepth 100000 in
theorem c_145 {I : Sg → Prop} (hI : stab I DEP) : SpecOK PRG TYP I 145 sp_145 := chkM_ok (M0 := M_145) (dep := DEP) (env := [(129, sp_129), (143, sp_143)]) (cuts := []) (fuel := 26) rfl (by decide) (List.forall_mem_cons.mpr ⟨(c_129 hI), List.forall_mem_cons.mpr ⟨(c_143 hI), fun _ h => absurd h List.not_mem_nil⟩⟩) hI (by decide +kernel)
def sp_146 : SP := ([(1, 11, 0), (0, 0, 3), (0, 0, 16), (0, (-2147483648), 2147483647)], [], none, [], [], [(1, 7, 7), (1, 8, 8), (1, 9, 9), (1, 10, 10), (1, 11, 11), (1, 12, 12), (16, 0, 3), (18, 0, 3), (19, 0, 3), (21, 0, 13), (22, 0, 63), (114, 0, 494)], 4, 0, [])
set_option maxRecDepth 100000 in
theorem c_146 {I : Sg → Prop} (hI : stab I DEP) : SpecOK PRG TYP I 146 sp_146 := chkM_ok (M0 := M_146) (dep := DEP) (env := [(16, sp_16), (17, sp_17)]) (cuts := []) (fuel := 28) rfl (by decide) (List.forall_mem_cons.mpr ⟨(c_16 hI), List.forall_mem_cons.mpr ⟨(c_17 hI), fun _ h => absurd h List.not_mem_nil⟩⟩) hI (by decide +kernel)
def sp_147 : SP := ([(1, 11, 0), (0, (-2147483648), 2147483647), (0, (-2147483648), 2147483647)], [], some (0, (-2147483648), 2147483647), [], [], [(1, 7, 7), (1, 8, 8), (1, 9, 9), (1, 10, 10), (1, 11, 11), (1, 12, 12), (16, 0, 3), (18, 0, 3), (19, 0, 3), (21, 0, 13), (22, 0, 63), (114, 0, 494)], 5, 0, [])
set_option maxRecDepth 100000 in
theorem c_147 {I : Sg → Prop} (hI : stab I DEP) : SpecOK PRG TYP I 147 sp_147 := chkM_ok (M0 := M_147) (dep := DEP) (env := [(21, sp_21), (145, sp_145), (146, sp_146)]) (cuts := []) (fuel := 23) rfl (by decide) (List.forall_mem_cons.mpr ⟨(c_21 hI), List.forall_mem_cons.mpr ⟨(c_145 hI), List.forall_mem_cons.mpr ⟨(c_146 hI), fun _ h => absurd h List.not_mem_nil⟩⟩⟩) hI (by decide +kernel)
def sp_148 : SP := ([(1, 11, 0), (0, (-2147483648), 2147483647), (0, (-2147483648), 2147483647), (0, (-2147483648), 2147483647)], [], some (0, (-2147483648), 2147483647), [], [], [(1, 7, 7), (1, 8, 8), (1, 9, 9), (1, 10, 10), (1, 11, 11), (1, 12, 12), (16, 0, 3), (18, 0, 3), (19, 0, 3), (21, 0, 13), (22, 0, 63), (114, 0, 494)], 5, 0, [])
set_option maxRecDepth 100000 in
theorem c_148 {I : Sg → Prop} (hI : stab I DEP) : SpecOK PRG TYP I 148 sp_148 := chkM_ok (M0 := M_148) (dep := DEP) (env := [(21, sp_21), (145, sp_145), (146, sp_146)]) (cuts := []) (fuel := 32) rfl (by decide) (List.forall_mem_cons.mpr ⟨(c_21 hI), List.forall_mem_cons.mpr ⟨(c_145 hI), List.forall_mem_cons.mpr ⟨(c_146 hI), fun _ h => absurd h List.not_mem_nil⟩⟩⟩) hI (by decide +kernel)
def sp_149 : SP := ([(1, 11, 0), (0, (-2147483648), 2147483647), (0, (-2147483648), 2147483647), (0, (-2147483648), 2147483647), (0, (-2147483648), 2147483647)], [], some (0, (-2147483648), 2147483647), [], [], [(1, 7, 7), (1, 8, 8), (1, 9, 9), (1, 10, 10), (1, 11, 11), (1, 12, 12), (16, 0, 3), (18, 0, 3), (19, 0, 3), (21, 0, 13), (22, 0, 63), (114, 0, 494)], 5, 0, [])
set_option maxRecDepth 100000 in
theorem c_149 {I : Sg → Prop} (hI : stab I DEP) : SpecOK PRG TYP I 149 sp_149 := chkM_ok (M0 := M_149) (dep := DEP) (env := [(22, sp_22), (129, sp_129), (134, sp_134), (145, sp_145), (146, sp_146)]) (cuts := []) (fuel := 42) rfl (by decide) (List.forall_mem_cons.mpr ⟨(c_22 hI), List.forall_mem_cons.mpr ⟨(c_129 hI), List.forall_mem_cons.mpr ⟨(c_134 hI), List.forall_mem_cons.mpr ⟨(c_145 hI), List.forall_mem_cons.mpr ⟨(c_146 hI), fun _ h => absurd h List.not_mem_nil⟩⟩⟩⟩⟩) hI (by decide +kernel)
def sp_150 : SP := ([(1, 11, 0), (0, (-2147483648), 2147483647), (0, (-2147483648), 2147483647)], [], some (0, (-1), 65535), [], [], [(1, 7, 7), (1, 8, 8), (1, 9, 9), (1, 10, 10), (1, 11, 11), (1, 12, 12), (16, 0, 3), (18, 0, 3), (19, 0, 3), (21, 0, 13), (22, 0, 63), (114, 0, 494)], 5, 0, [])
set_option maxRecDepth 100000 in
theorem c_150 {I : Sg → Prop} (hI : stab I DEP) : SpecOK PRG TYP I 150 sp_150 := chkM_ok (M0 := M_150) (dep := DEP) (env := [(23, sp_23), (145, sp_145), (146, sp_146)]) (cuts := []) (fuel := 23) rfl (by decide) (List.forall_mem_cons.mpr ⟨(c_23 hI), List.forall_mem_cons.mpr ⟨(c_145 hI), List.forall_mem_cons.mpr ⟨(c_146 hI), fun _ h => absurd h List.not_mem_nil⟩⟩⟩) hI (by decide +kernel)
def sp_151 : SP := ([(1, 11, 0), (0, (-2147483648), 2147483647), (0, (-2147483648), 2147483647), (0, (-2147483648), 2147483647), (0, (-2147483648), 2147483647)], [], some (0, (-2147483648), 2147483647), [], [], [(1, 7, 7), (1, 8, 8), (1, 9, 9), (1, 10, 10), (1, 11, 11), (1, 12, 12), (16, 0, 3), (18, 0, 3), (19, 0, 3), (21, 0, 13), (22, 0, 63), (114, 0, 494)], 4, 0, [])
set_option maxRecDepth 100000 in
theorem c_151 {I : Sg → Prop} (hI : stab I DEP) : SpecOK PRG TYP I 151 sp_151 := chkM_ok (M0 := M_151) (dep := DEP) (env := [(2, sp_2z), (2, sp_2), (16, sp_16), (26, sp_26), (129, sp_129), (134, sp_134), (145, sp_145)]) (cuts := [(36, ([((0, 0, 0), (1, 11, 0)), ((0, 1, 0), (0, 0, 3)), ((0, 2, 0), (0, 0, 3)), ((0, 3, 0), (0, 0, 15)), ((0, 4, 0), (0, (-2147483648), 2147483647)), ((0, 5, 0), (0, 0, 4))], [(0, 0), (1, 1), (2, 2), (3, 3), (4, 4), (5, 5)], [], [(99964, 0, 0), (4, (-1), 5), (100001, 0, 0), (0, 0, 0)], []))]) (fuel := 69) rfl (by decide) (List.forall_mem_cons.mpr ⟨(c_2z hI), List.forall_mem_cons.mpr ⟨(c_2 hI), List.forall_mem_cons.mpr ⟨(c_16 hI), List.forall_mem_cons.mpr ⟨(c_26 hI), List.forall_mem_cons.mpr ⟨(c_129 hI), List.forall_mem_cons.mpr ⟨(c_134 hI), List.forall_mem_cons.mpr ⟨(c_145 hI), fun _ h => absurd h List.not_mem_nil⟩⟩⟩⟩⟩⟩⟩) hI (by decide +kernel)
def sp_152 : SP := ([(1, 11, 0)], [], some (0, (-2147483648), 2147483647), [], [], [(6, 4, 4), (6, 5, 5), (6, 6, 6), (6, 7, 7), (6, 9, 9), (6, 10, 10), (31, 0, 3), (32, 0, 2047), (33, 0, 3)], 32, 0, [])
set_option maxRecDepth 100000 in
theorem c_152 {I : Sg → Prop} (hI : stab I DEP) : SpecOK PRG TYP I 152 sp_152 := chkM_ok (M0 := M_152) (dep := DEP) (env := [(80, sp_80)]) (cuts := []) (fuel := 18) rfl (by decide) (List.forall_mem_cons.mpr ⟨(c_80 hI), fun _ h => absurd h List.not_mem_nil⟩) hI (by decide +kernel)
def sp_153 : SP := ([(1, 11, 0), (0, (-2147483648), 2147483647)], [], some (0, (-1), 15), [], [], [(6, 4, 4), (6, 5, 5), (6, 6, 6), (6, 7, 7), (6, 9, 9), (6, 10, 10), (6, 13, 13), (31, 0, 3), (32, 0, 2047), (33, 0, 3), (34, 0, 15)], 33, 0, [])
set_option maxRecDepth 100000 in
theorem c_153 {I : Sg → Prop} (hI : stab I DEP) : SpecOK PRG TYP I 153 sp_153 := chkM_ok (M0 := M_153) (dep := DEP) (env := [(84, sp_84)]) (cuts := []) (fuel := 33) rfl (by decide) (List.forall_mem_cons.mpr ⟨(c_84 hI), fun _ h => absurd h List.not_mem_nil⟩) hI (by decide +kernel)
def sp_154 : SP := ([(1, 11, 0), (0, (-2147483648), 2147483647)], [], some (0, (-2), 0), [], [], [], 1, 0, [])
set_option maxRecDepth 100000 in
theorem c_154 {I : Sg → Prop} (hI : stab I DEP) : SpecOK PRG TYP I 154 sp_154 := chkM_ok (M0 := M_154) (dep := DEP) (env := [(2, sp_2z), (2, sp_2), (143, sp_143)]) (cuts := []) (fuel := 32) rfl (by decide) (List.forall_mem_cons.mpr ⟨(c_2z hI), List.forall_mem_cons.mpr ⟨(c_2 hI), List.forall_mem_cons.mpr ⟨(c_143 hI), fun _ h => absurd h List.not_mem_nil⟩⟩⟩) hI (by decide +kernel)
def sp_155 : SP := ([(1, 11, 0), (0, (-2147483648), 2147483647)], [], some (0, 0, 1), [(1, 0, 15)], [], [], 2, 0, [])
set_option maxRecDepth 100000 in
theorem c_155 {I : Sg → Prop} (hI : stab I DEP) : SpecOK PRG TYP I 155 sp_155 := chkM_ok (M0 := M_155) (dep := DEP) (env := [(35, sp_35), (134, sp_134)]) (cuts := []) (fuel := 24) rfl (by decide) (List.forall_mem_cons.mpr ⟨(c_35 hI), List.forall_mem_cons.mpr ⟨(c_134 hI), fun _ h => absurd h List.not_mem_nil⟩⟩) hI (by decide +kernel)
def sp_156 : SP := ([(1, 11, 0), (0, (-2147483648), 2147483647), (0, (-2147483648), 2147483647)], [], some (3, 0, 0), [], [], [(1, 7, 7), (1, 8, 8), (1, 9, 9), (1, 10, 10), (1, 11, 11), (1, 12, 12), (6, 4, 4), (6, 5, 5), (6, 6, 6), (6, 7, 7), (6, 9, 9), (10, 3, 3), (10, 4, 4), (10, 5, 5), (10, 6, 6), (16, 0, 3), (18, 0, 3), (19, 0, 3), (21, 0, 13), (22, 0, 63), (31, 0, 3), (32, 0, 2047), (40, 0, 79), (114, 0, 494)], 30, 0, [])
set_option maxRecDepth 100000 in
theorem c_156 {I : Sg → Prop} (hI : stab I DEP) : SpecOK PRG TYP I 156 sp_156 := chkM_ok (M0 := M_156) (dep := DEP) (env := [(57, sp_57), (59, sp_59), (154, sp_154), (155, sp_155)]) (cuts := []) (fuel := 35) rfl (by decide) (List.forall_mem_cons.mpr ⟨(c_57 hI), List.forall_mem_cons.mpr ⟨(c_59 hI), List.forall_mem_cons.mpr ⟨(c_154 hI), List.forall_mem_cons.mpr ⟨(c_155 hI), fun _ h => absurd h List.not_mem_nil⟩⟩⟩⟩) hI (by decide +kernel)
def sp_157 : SP := ([(1, 11, 0), (0, (-2147483648), 2147483647)], [], some (0, (-2), 15), [], [], [(1, 7, 7), (1, 8, 8), (1, 9, 9), (1, 10, 10), (1, 11, 11), (1, 12, 12), (6, 4, 4), (6, 5, 5), (6, 6, 6), (6, 7, 7), (6, 9, 9), (10, 3, 3), (10, 4, 4), (10, 5, 5), (10, 6, 6), (16, 0, 3), (18, 0, 3), (19, 0, 3), (21, 0, 13), (22, 0, 63), (31, 0, 3), (32, 0, 2047), (40, 0, 79), (114, 0, 494)], 31, 0, [])
set_option maxRecDepth 100000 in
theorem c_157 {I : Sg → Prop} (hI : stab I DEP) : SpecOK PRG TYP I 157 sp_157 := chkM_ok (M0 := M_157) (dep := DEP) (env := [(35, sp_35), (117, sp_117), (154, sp_154)]) (cuts := []) (fuel := 24) rfl (by decide) (List.forall_mem_cons.mpr ⟨(c_35 hI), List.forall_mem_cons.mpr ⟨(c_117 hI), List.forall_mem_cons.mpr ⟨(c_154 hI), fun _ h => absurd h List.not_mem_nil⟩⟩⟩) hI (by decide +kernel)
def sp_158 : SP := ([(1, 11, 0), (0, (-2147483648), 2147483647), (0, (-2147483648), 2147483647), (0, (-2147483648), 2147483647)], [], some (0, (-2147483648), 2147483647), [], [], [(1, 7, 7), (1, 8, 8), (1, 9, 9), (1, 10, 10), (1, 11, 11), (1, 12, 12), (6, 4, 4), (6, 5, 5), (6, 6, 6), (6, 7, 7), (6, 9, 9), (10, 3, 3), (10, 4, 4), (10, 5, 5), (10, 6, 6), (16, 0, 3), (18, 0, 3), (19, 0, 3), (21, 0, 13), (22, 0, 63), (31, 0, 3), (32, 0, 2047), (40, 0, 79), (114, 0, 494)], 30, 0, [])
set_option maxRecDepth 100000 in
theorem c_158 {I : Sg → Prop} (hI : stab I DEP) : SpecOK PRG TYP I 158 sp_158 := chkM_ok (M0 := M_158) (dep := DEP) (env := [(57, sp_57), (58, sp_58), (154, sp_154), (155, sp_155)]) (cuts := []) (fuel := 43) rfl (by decide) (List.forall_mem_cons.mpr ⟨(c_57 hI), List.forall_mem_cons.mpr ⟨(c_58 hI), List.forall_mem_cons.mpr ⟨(c_154 hI), List.forall_mem_cons.mpr ⟨(c_155 hI), fun _ h => absurd h List.not_mem_nil⟩⟩⟩⟩) hI (by decide +kernel)
def sp_159 : SP := ([(1, 11, 0), (0, (-2147483648), 2147483647), (0, (-2147483648), 2147483647)], [], some (0, (-2), 15), [], [], [(1, 7, 7), (1, 8, 8), (1, 9, 9), (1, 10, 10), (1, 11, 11), (1, 12, 12), (6, 4, 4), (6, 5, 5), (6, 6, 6), (6, 7, 7), (6, 9, 9), (10, 3, 3), (10, 4, 4), (10, 5, 5), (10, 6, 6), (16, 0, 3), (18, 0, 3), (19, 0, 3), (21, 0, 13), (22, 0, 63), (31, 0, 3), (32, 0, 2047), (40, 0, 79), (114, 0, 494)], 31, 0, [])
set_option maxRecDepth 100000 in
theorem c_159 {I : Sg → Prop} (hI : stab I DEP) : SpecOK PRG TYP I 159 sp_159 := chkM_ok (M0 := M_159) (dep := DEP) (env := [(35, sp_35), (116, sp_116), (119, sp_119), (154, sp_154)]) (cuts := []) (fuel := 42) rfl (by decide) (List.forall_mem_cons.mpr ⟨(c_35 hI), List.forall_mem_cons.mpr ⟨(c_116 hI), List.forall_mem_cons.mpr ⟨(c_119 hI), List.forall_mem_cons.mpr ⟨(c_154 hI), fun _ h => absurd h List.not_mem_nil⟩⟩⟩⟩) hI (by decide +kernel)
def sp_160 : SP := ([(1, 11, 0), (0, (-2147483648), 2147483647)], [], some (0, (-2147483648), 2147483647), [], [], [(1, 7, 7), (1, 8, 8), (1, 9, 9), (1, 10, 10), (1, 11, 11), (1, 12, 12), (6, 4, 4), (6, 5, 5), (6, 6, 6), (6, 7, 7), (6, 9, 9), (6, 10, 10), (10, 3, 3), (10, 4, 4), (10, 5, 5), (10, 6, 6), (16, 0, 3), (18, 0, 3), (19, 0, 3), (21, 0, 13), (22, 0, 63), (31, 0, 3), (32, 0, 2047), (33, 0, 3), (40, 0, 79), (114, 0, 494)], 32, 0, [])
set_option maxRecDepth 100000 in
theorem c_160 {I : Sg → Prop} (hI : stab I DEP) : SpecOK PRG TYP I 160 sp_160 := chkM_ok (M0 := M_160) (dep := DEP) (env := [(35, sp_35), (81, sp_81), (117, sp_117), (154, sp_154)]) (cuts := []) (fuel := 28) rfl (by decide) (List.forall_mem_cons.mpr ⟨(c_35 hI), List.forall_mem_cons.mpr ⟨(c_81 hI), List.forall_mem_cons.mpr ⟨(c_117 hI), List.forall_mem_cons.mpr ⟨(c_154 hI), fun _ h => absurd h List.not_mem_nil⟩⟩⟩⟩) hI (by decide +kernel)
def sp_161 : SP := ([(1, 11, 0), (0, (-2147483648), 2147483647)], [], some (0, (-3), 16), [], [], [(1, 7, 7), (1, 8, 8), (1, 9, 9), (1, 10, 10), (1, 11, 11), (1, 12, 12), (3, 2, 2), (3, 5, 5), (3, 6, 6), (3, 6, 7), (3, 17, 17), (6, 4, 4), (6, 5, 5), (6, 6, 6), (6, 7, 7), (6, 9, 9), (6, 10, 10), (10, 3, 3), (10, 4, 4), (10, 5, 5), (10, 6, 6), (16, 0, 3), (18, 0, 3), (19, 0, 3), (21, 0, 13), (22, 0, 63), (31, 0, 3), (32, 0, 2047), (33, 0, 3), (40, 0, 79), (43, 0, 3), (44, 0, 3), (45, 0, 15), (46, 0, 15), (47, 0, 15), (48, 0, 15), (49, 0, 15), (50, 0, 15), (51, 0, 15), (52, 0, 15), (53, 0, 3), (114, 0, 494)], 32, 0, [])
set_option maxRecDepth 100000 in
theorem c_161 {I : Sg → Prop} (hI : stab I DEP) : SpecOK PRG TYP I 161 sp_161 := chkM_ok (M0 := M_161) (dep := DEP) (env := [(35, sp_35), (63, sp_63), (67, sp_67), (81, sp_81), (117, sp_117), (154, sp_154)]) (cuts := [(25, ([((0, 0, 0), (1, 11, 0)), ((0, 1, 0), (0, (-2147483648), 2147483647)), ((0, 3, 0), (0, 0, 16))], [(0, 0), (1, 1), (3, 2)], [], [(99975, 0, 0), (16, (-1), 2), (100001, 0, 0), (0, 0, 0)], []))]) (fuel := 58) rfl (by decide) (List.forall_mem_cons.mpr ⟨(c_35 hI), List.forall_mem_cons.mpr ⟨(c_63 hI), List.forall_mem_cons.mpr ⟨(c_67 hI), List.forall_mem_cons.mpr ⟨(c_81 hI), List.forall_mem_cons.mpr ⟨(c_117 hI), List.forall_mem_cons.mpr ⟨(c_154 hI), fun _ h => absurd h List.not_mem_nil⟩⟩⟩⟩⟩⟩) hI (by decide +kernel)
def sp_162 : SP := ([(1, 11, 0), (0, (-2147483648), 2147483647)], [], some (0, (-1), 63), [], [], [(21, 0, 13), (22, 0, 63)], 4, 0, [])
set_option maxRecDepth 100000 in
theorem c_162 {I : Sg → Prop} (hI : stab I DEP) : SpecOK PRG TYP I 162 sp_162 := chkM_ok (M0 := M_162) (dep := DEP) (env := [(40, sp_40), (155, sp_155)]) (cuts := []) (fuel := 24) rfl (by decide) (List.forall_mem_cons.mpr ⟨(c_40 hI), List.forall_mem_cons.mpr ⟨(c_155 hI), fun _ h => absurd h List.not_mem_nil⟩⟩) hI (by decide +kernel)
def sp_163 : SP := ([(1, 11, 0), (0, (-2147483648), 2147483647)], [], some (3, 0, 0), [], [], [(1, 7, 7), (1, 8, 8), (1, 9, 9), (1, 10, 10), (1, 11, 11), (1, 12, 12), (6, 4, 4), (6, 5, 5), (6, 6, 6), (6, 7, 7), (6, 9, 9), (10, 3, 3), (10, 4, 4), (10, 5, 5), (10, 6, 6), (16, 0, 3), (18, 0, 3), (19, 0, 3), (21, 0, 13), (22, 0, 63), (31, 0, 3), (32, 0, 2047), (40, 0, 79), (114, 0, 494)], 30, 0, [])
set_option maxRecDepth 100000 in
theorem c_163 {I : Sg → Prop} (hI : stab I DEP) : SpecOK PRG TYP I 163 sp_163 := chkM_ok (M0 := M_163) (dep := DEP) (env := [(35, sp_35), (41, sp_41), (57, sp_57), (59, sp_59), (60, sp_60), (154, sp_154)]) (cuts := []) (fuel := 60) rfl (by decide) (List.forall_mem_cons.mpr ⟨(c_35 hI), List.forall_mem_cons.mpr ⟨(c_41 hI), List.forall_mem_cons.mpr ⟨(c_57 hI), List.forall_mem_cons.mpr ⟨(c_59 hI), List.forall_mem_cons.mpr ⟨(c_60 hI), List.forall_mem_cons.mpr ⟨(c_154 hI), fun _ h => absurd h List.not_mem_nil⟩⟩⟩⟩⟩⟩) hI (by decide +kernel)
def sp_164 : SP := ([(1, 11, 0), (0, (-2147483648), 2147483647)], [], some (0, 0, 1), [(1, 1, 20)], [], [], 0, 0, [])
set_option maxRecDepth 100000 in
theorem c_164 {I : Sg → Prop} (hI : stab I DEP) : SpecOK PRG TYP I 164 sp_164 := chkM_ok (M0 := M_164) (dep := DEP) (env := []) (cuts := []) (fuel := 25) rfl (by decide) (fun _ h => absurd h List.not_mem_nil) hI (by decide +kernel)
def sp_165 : SP := ([(1, 11, 0), (0, (-2147483648), 2147483647), (0, (-2147483648), 2147483647), (0, (-2147483648), 2147483647)], [], some (0, (-2147483648), 2147483647), [], [], [(1, 7, 7), (1, 8, 8), (1, 9, 9), (1, 10, 10), (1, 11, 11), (1, 12, 12), (3, 2, 2), (3, 5, 5), (3, 6, 6), (3, 6, 7), (3, 17, 17), (6, 4, 4), (6, 5, 5), (6, 6, 6), (6, 7, 7), (6, 9, 9), (10, 3, 3), (10, 4, 4), (10, 5, 5), (10, 6, 6), (16, 0, 3), (18, 0, 3), (19, 0, 3), (20, 0, 1023), (21, 0, 13), (22, 0, 63), (31, 0, 3), (32, 0, 2047), (40, 0, 79), (43, 0, 3), (44, 0, 3), (45, 0, 15), (46, 0, 15), (47, 0, 15), (48, 0, 15), (49, 0, 15), (50, 0, 15), (51, 0, 15), (52, 0, 15), (53, 0, 3), (114, 0, 494)], 32, 0, [])
set_option maxRecDepth 100000 in
theorem c_165 {I : Sg → Prop} (hI : stab I DEP) : SpecOK PRG TYP I 165 sp_165 := chkM_ok (M0 := M_165) (dep := DEP) (env := [(65, sp_65), (143, sp_143), (164, sp_164)]) (cuts := []) (fuel := 31) rfl (by decide) (List.forall_mem_cons.mpr ⟨(c_65 hI), List.forall_mem_cons.mpr ⟨(c_143 hI), List.forall_mem_cons.mpr ⟨(c_164 hI), fun _ h => absurd h List.not_mem_nil⟩⟩⟩) hI (by decide +kernel)
def sp_166 : SP := ([(1, 11, 0), (0, (-2147483648), 2147483647), (0, (-2147483648), 2147483647), (0, (-2147483648), 2147483647)], [], some (0, (-2147483648), 2147483647), [], [], [(1, 7, 7), (1, 8, 8), (1, 9, 9), (1, 10, 10), (1, 11, 11), (1, 12, 12), (3, 2, 2), (3, 5, 5), (3, 6, 6), (3, 6, 7), (3, 17, 17), (6, 4, 4), (6, 5, 5), (6, 6, 6), (6, 7, 7), (6, 9, 9), (10, 3, 3), (10, 4, 4), (10, 5, 5), (10, 6, 6), (16, 0, 3), (18, 0, 3), (19, 0, 3), (20, 0, 1023), (21, 0, 13), (22, 0, 63), (31, 0, 3), (32, 0, 2047), (40, 0, 79), (43, 0, 3), (44, 0, 3), (45, 0, 15), (46, 0, 15), (47, 0, 15), (48, 0, 15), (49, 0, 15), (50, 0, 15), (51, 0, 15), (52, 0, 15), (53, 0, 3), (114, 0, 494)], 32, 0, [])
set_option maxRecDepth 100000 in
theorem c_166 {I : Sg → Prop} (hI : stab I DEP) : SpecOK PRG TYP I 166 sp_166 := chkM_ok (M0 := M_166) (dep := DEP) (env := [(65, sp_65), (164, sp_164)]) (cuts := [(43, ([((0, 0, 0), (1, 11, 0)), ((0, 1, 0), (0, (-2147483648), 2147483647)), ((0, 2, 0), (0, 1, 20)), ((0, 3, 0), (0, 0, 1)), ((0, 4, 0), (0, (-2147483648), 2147483647)), ((0, 5, 0), (0, 0, 63)), ((0, 6, 0), (0, (-2147483648), 2147483647)), ((0, 7, 0), (0, 1, 64))], [(0, 0), (1, 1), (2, 2), (3, 3), (4, 4), (5, 5), (6, 6), (7, 7)], [], [(99957, 0, 0), (64, (-1), 7), (100001, 0, 0), (0, 0, 0)], []))]) (fuel := 67) rfl (by decide) (List.forall_mem_cons.mpr ⟨(c_65 hI), List.forall_mem_cons.mpr ⟨(c_164 hI), fun _ h => absurd h List.not_mem_nil⟩⟩) hI (by decide +kernel)
def sp_167 : SP := ([(1, 11, 0)], [], some (0, (-1), 7), [], [], [(0, 2, 2), (13, 0, 47), (14, 0, 47)], 1, 0, [])
set_option maxRecDepth 100000 in
theorem c_167 {I : Sg → Prop} (hI : stab I DEP) : SpecOK PRG TYP I 167 sp_167 := chkM_ok (M0 := M_167) (dep := DEP) (env := [(5, sp_5), (68, sp_68)]) (cuts := []) (fuel := 24) rfl (by decide) (List.forall_mem_cons.mpr ⟨(c_5 hI), List.forall_mem_cons.mpr ⟨(c_68 hI), fun _ h => absurd h List.not_mem_nil⟩⟩) hI (by decide +kernel)
def sp_168 : SP := ([(1, 11, 0), (0, (-2147483648), 2147483647)], [], some (0, (-1), 63), [], [], [], 2, 0, [])
set_option maxRecDepth 100000 in
theorem c_168 {I : Sg → Prop} (hI : stab I DEP) : SpecOK PRG TYP I 168 sp_168 := chkM_ok (M0 := M_168) (dep := DEP) (env := [(8, sp_8)]) (cuts := [(21, ([((0, 0, 0), (1, 11, 0)), ((0, 1, 0), (0, 0, 8)), ((0, 2, 0), (0, 0, 63)), ((0, 3, 0), (0, 0, 6))], [(0, 0), (1, 1), (2, 2), (3, 3)], [], [(99979, 0, 0), (6, (-1), 3), (100001, 0, 0), (0, 0, 0)], []))]) (fuel := 43) rfl (by decide) (List.forall_mem_cons.mpr ⟨(c_8 hI), fun _ h => absurd h List.not_mem_nil⟩) hI (by decide +kernel)
def sp_169 : SP := ([(1, 11, 0), (0, (-2147483648), 2147483647)], [], some (0, 0, 1), [(1, 0, 5)], [], [], 0, 0, [])
set_option maxRecDepth 100000 in
theorem c_169 {I : Sg → Prop} (hI : stab I DEP) : SpecOK PRG TYP I 169 sp_169 := chkM_ok (M0 := M_169) (dep := DEP) (env := []) (cuts := []) (fuel := 19) rfl (by decide) (fun _ h => absurd h List.not_mem_nil) hI (by decide +kernel)
def sp_170 : SP := ([(1, 11, 0), (0, (-2147483648), 2147483647), (0, (-2147483648), 2147483647), (0, (-2147483648), 2147483647)], [], some (0, (-2147483648), 2147483647), [], [], [], 2, 0, [])
set_option maxRecDepth 100000 in
theorem c_170 {I : Sg → Prop} (hI : stab I DEP) : SpecOK PRG TYP I 170 sp_170 := chkM_ok (M0 := M_170) (dep := DEP) (env := [(7, sp_7), (8, sp_8), (169, sp_169)]) (cuts := []) (fuel := 46) rfl (by decide) (List.forall_mem_cons.mpr ⟨(c_7 hI), List.forall_mem_cons.mpr ⟨(c_8 hI), List.forall_mem_cons.mpr ⟨(c_169 hI), fun _ h => absurd h List.not_mem_nil⟩⟩⟩) hI (by decide +kernel)
def sp_171 : SP := ([(1, 11, 0), (0, (-2147483648), 2147483647), (0, (-2147483648), 2147483647)], [], some (0, (-2147483648), 2147483647), [], [], [(21, 0, 13), (22, 0, 63)], 4, 0, [])
set_option maxRecDepth 100000 in
theorem c_171 {I : Sg → Prop} (hI : stab I DEP) : SpecOK PRG TYP I 171 sp_171 := chkM_ok (M0 := M_171) (dep := DEP) (env := [(87, sp_87), (88, sp_88), (169, sp_169)]) (cuts := []) (fuel := 33) rfl (by decide) (List.forall_mem_cons.mpr ⟨(c_87 hI), List.forall_mem_cons.mpr ⟨(c_88 hI), List.forall_mem_cons.mpr ⟨(c_169 hI), fun _ h => absurd h List.not_mem_nil⟩⟩⟩) hI (by decide +kernel)
def sp_172 : SP := ([(1, 11, 0), (0, (-2147483648), 2147483647), (0, (-2147483648), 2147483647)], [], some (0, (-2147483648), 2147483647), [], [], [(21, 0, 13), (22, 0, 63)], 4, 0, [])
set_option maxRecDepth 100000 in
theorem c_172 {I : Sg → Prop} (hI : stab I DEP) : SpecOK PRG TYP I 172 sp_172 := chkM_ok (M0 := M_172) (dep := DEP) (env := [(89, sp_89), (169, sp_169)]) (cuts := []) (fuel := 28) rfl (by decide) (List.forall_mem_cons.mpr ⟨(c_89 hI), List.forall_mem_cons.mpr ⟨(c_169 hI), fun _ h => absurd h List.not_mem_nil⟩⟩) hI (by decide +kernel)
