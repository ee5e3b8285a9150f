/-! what cells hold -/
def TYP : List (List SEG) := [
  [(2, 2, 0, 8)],
  [(8, 8, 0, 3), (9, 9, 0, 3), (10, 10, 0, 3), (11, 11, 0, 495), (12, 12, 0, 495)],
  [],
  [(2, 2, 0, 1), (5, 5, 0, 3), (6, 6, (-2), 3), (7, 7, 0, 16)],
  [],
  [(0, 0, 0, 9999), (1, 1, 0, 9999), (2, 2, (-1), 9999), (3, 3, 0, 6), (9, 9, 0, 400), (10, 10, 4, 16), (11, 11, 1, 4), (15, 15, 0, 1820)],
  [(4, 4, (-1), 9999), (5, 5, 0, 3), (7, 7, 0, 4), (9, 9, 0, 1), (10, 10, 1, 1023)],
  [],
  [(3, 3, 0, 1), (4, 4, 0, 400), (6, 6, 0, 6)],
  [(4, 4, 0, 402)],
  [],
  [(1, 1, 0, 2000)],
  [],
  [],
  [],
  [],
  [(0, 3, 0, 495)],
  [],
  [],
  [(0, 3, 0, 65535)],
  [],
  [(0, 0, 0, 3)],
  [],
  [],
  [],
  [(0, 11, 0, 400)],
  [(0, 11, 0, 400)],
  [],
  [(0, 3, 0, 65535)],
  [(0, 15, 0, 3)],
  [(0, 1819, 0, 65535)],
  [(0, 3, 0, 65535)],
  [],
  [],
  [(0, 15, 0, 15)],
  [],
  [],
  [],
  [],
  [],
  [],
  [],
  [],
  [(0, 3, 0, 65535)],
  [(0, 3, 0, 65535)],
  [(0, 15, 0, 15)],
  [(0, 15, 0, 3)],
  [(0, 15, 0, 2)],
  [(0, 15, (-1), 3)],
  [],
  [(0, 15, 0, 1)],
  [],
  [],
  [(0, 3, 0, 3)],
  [],
  [],
  [],
  [],
  [],
  [],
  [],
  [],
  [],
  [],
  [],
  [],
  [],
  [],
  [],
  [],
  [],
  [],
  [],
  [],
  [],
  [],
  [],
  [],
  [],
  [],
  [],
  [],
  [],
  [],
  [],
  [],
  [],
  [],
  [],
  [],
  [],
  [],
  [],
  [],
  [],
  [],
  [],
  [],
  [],
  [],
  [],
  [],
  [],
  [],
  [],
  [],
  [],
  [],
  [],
  [],
  [],
  [],
  [],
  [],
  [(0, 494, 0, 65535)],
  []
  ]
def DEP : List (Nat × Nat × Nat) := []
def Inv : Sg → Prop := fun _ => True
theorem stabI : stab Inv DEP := ⟨fun _ _ _ _ _ _ _ _ => trivial, fun _ _ _ _ _ => trivial⟩
def sp_31 : SP := ([(1, 3, 0), (0, 0, 3)], [], none, [], [], [(3, 5, 5), (3, 6, 6), (3, 17, 17)], 0, 0)
set_option maxRecDepth 100000 in
theorem c_31 : SpecOK PRG TYP Inv 31 sp_31 := chkM_ok (M0 := M_31) (dep := DEP) (env := []) (cuts := []) (fuel := 18) rfl (by decide) (fun _ h => absurd h List.not_mem_nil) stabI (by decide +kernel)
def sp_28 : SP := ([(0, (-2147483648), 2147483647), (0, (-2147483648), 2147483647)], [], some (0, (-2147483648), 2147483647), [], [], [], 0, 0)
set_option maxRecDepth 100000 in
theorem c_28 : SpecOK PRG TYP Inv 28 sp_28 := chkM_ok (M0 := M_28) (dep := DEP) (env := []) (cuts := []) (fuel := 19) rfl (by decide) (fun _ h => absurd h List.not_mem_nil) stabI (by decide +kernel)
def sp_29 : SP := ([(0, 2, 16), (0, (-2147483648), 2147483647), (0, (-2147483648), 2147483647)], [], some (0, 0, 15), [], [], [], 1, 0)
set_option maxRecDepth 100000 in
theorem c_29 : SpecOK PRG TYP Inv 29 sp_29 := chkM_ok (M0 := M_29) (dep := DEP) (env := [(28, sp_28)]) (cuts := []) (fuel := 20) rfl (by decide) (List.forall_mem_cons.mpr ⟨c_28, fun _ h => absurd h List.not_mem_nil⟩) stabI (by decide +kernel)
def sp_30 : SP := ([(1, 3, 0), (0, 0, 3)], [], some (0, 0, 65535), [], [], [], 0, 0)
set_option maxRecDepth 100000 in
theorem c_30 : SpecOK PRG TYP Inv 30 sp_30 := chkM_ok (M0 := M_30) (dep := DEP) (env := []) (cuts := [(4, ([((0, 0, 0), (1, 3, 0)), ((0, 1, 0), (0, 0, 3)), ((0, 2, 0), (0, 0, 65535)), ((0, 3, 0), (0, 0, 4))], [(0, 0), (1, 1), (2, 2), (3, 3)], [], [(99996, 0, 0), (4, (-1), 3), (100001, 0, 0), (0, 0, 0)], []))]) (fuel := 33) rfl (by decide) (fun _ h => absurd h List.not_mem_nil) stabI (by decide +kernel)
def sp_32 : SP := ([(1, 3, 0), (0, 0, 65535), (0, 0, 65535), (0, 0, 65535), (0, 0, 65535)], [], none, [], [], [(3, 2, 2), (3, 5, 5), (3, 6, 6), (3, 7, 7), (3, 17, 17), (43, 0, 3), (44, 0, 3)], 1, 0)
set_option maxRecDepth 100000 in
theorem c_32 : SpecOK PRG TYP Inv 32 sp_32 := chkM_ok (M0 := M_32) (dep := DEP) (env := [(31, sp_31)]) (cuts := [(32, ([((0, 0, 0), (1, 3, 0)), ((0, 5, 0), (0, 0, 4))], [(0, 0), (5, 1)], [], [(99968, 0, 0), (4, (-1), 1), (100001, 0, 0), (0, 0, 0)], []))]) (fuel := 50) rfl (by decide) (List.forall_mem_cons.mpr ⟨c_31, fun _ h => absurd h List.not_mem_nil⟩) stabI (by decide +kernel)
def sp_33 : SP := ([(1, 3, 0), (0, (-2147483648), 2147483647)], [], none, [], [], [(3, 2, 2), (3, 5, 5), (3, 6, 6), (3, 7, 7), (3, 17, 17), (43, 0, 3), (44, 0, 3), (45, 0, 15)], 2, 0)
set_option maxRecDepth 100000 in
theorem c_33 : SpecOK PRG TYP Inv 33 sp_33 := chkM_ok (M0 := M_33) (dep := DEP) (env := [(29, sp_29), (30, sp_30), (32, sp_32)]) (cuts := [(2, ([((0, 0, 0), (1, 3, 0)), ((0, 1, 0), (0, (-2147483648), 2147483647)), ((0, 2, 0), (0, 0, 16))], [(0, 0), (1, 1), (2, 2)], [], [(99998, 0, 0), (16, (-1), 2), (100001, 0, 0), (0, 0, 0)], [])), (36, ([((0, 0, 0), (1, 3, 0)), ((0, 1, 0), (0, (-2147483648), 2147483647)), ((0, 2, 0), (0, 0, 15))], [(0, 0), (1, 1), (2, 2)], [], [(99964, 0, 0), (0, 1, 2), (100001, 0, 0), (0, 0, 0)], []))]) (fuel := 70) rfl (by decide) (List.forall_mem_cons.mpr ⟨c_29, List.forall_mem_cons.mpr ⟨c_30, List.forall_mem_cons.mpr ⟨c_32, fun _ h => absurd h List.not_mem_nil⟩⟩⟩) stabI (by decide +kernel)
def sp_9 : SP := ([(1, 5, 0), (0, 0, 15)], [], some (0, (-29997), 15), [], [], [], 0, 0)
set_option maxRecDepth 100000 in
theorem c_9 : SpecOK PRG TYP Inv 9 sp_9 := chkM_ok (M0 := M_9) (dep := DEP) (env := []) (cuts := []) (fuel := 15) rfl (by decide) (fun _ h => absurd h List.not_mem_nil) stabI (by decide +kernel)
