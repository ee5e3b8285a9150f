/-! what a run that ends has done: the judge, the first leads, what the books say -/
def LV_10 : List (Nat × List Nat) := [(0, [0, 1, 2, 3, 4]), (1, [0, 1, 2, 3, 4]), (4, [0, 1, 2, 3, 4]), (5, [0, 1, 2, 3, 4]), (6, [0, 1, 2, 3, 4]), (9, [0, 1, 2, 3, 4]), (12, [0, 1, 2, 3, 4]), (13, [0, 1, 2, 3, 4]), (14, [0, 1, 2, 3, 4]), (15, [0, 1, 2, 3, 4]), (16, [0, 1, 2, 3, 4]), (19, [0, 1, 2, 3, 4]), (20, [0, 1, 2, 3, 4]), (21, [0, 1, 2, 3, 4]), (24, [0, 1, 2, 3, 4]), (25, [0, 2, 3, 4]), (28, [0, 2, 3, 4]), (29, [0, 2, 3, 4]), (30, [0, 2, 3, 4]), (33, [0, 2, 3, 4]), (34, [0, 2, 3, 4]), (35, [0, 3, 4]), (36, [0, 3, 4]), (37, [0, 3, 4]), (40, [0, 3, 4]), (41, [0, 3, 4]), (42, [0, 4]), (43, [0, 4]), (44, [0, 4]), (47, [0, 4]), (48, [0, 4]), (50, [0]), (51, [0]), (52, [0]), (54, [0, 5]), (56, [0, 5]), (57, [0, 5]), (60, [0, 5]), (61, [0, 5]), (64, [0, 5]), (65, [0, 5]), (68, [0, 5]), (70, [0, 5]), (71, [0, 5]), (72, [0, 5]), (75, [0, 5]), (78, [])]
set_option maxRecDepth 100000 in
theorem lv_10 : chkLv M_10 LV_10 = true := by decide +kernel
set_option maxRecDepth 100000 in
theorem lva_10_54 : lvA LV_10 54 = [0, 5] := by decide +kernel
set_option maxRecDepth 100000 in
theorem p_10_0 {n d : Nat} {Q : Option Value → Sg → Prop} (σ : Sg) (x1 x2 x3 x4 : Int32) (h : (inR x1 16 = true → (∀ w2 σ1, RCx PRG n 9 [.ref 3, .int x1] (s1 σ 13 0 (σ.1 10 x1.toNatClampNeg)) (some (.int w2)) σ1 → Pl PRG n d 10 54 [(0, .ref 12), (5, .int (5 : Int32))] [] (s1 (s1 (s1 (s1 σ1 13 1 w2) 13 2 x2) 13 3 x3) 13 4 x4) Q))) : Pl PRG (n + 1) d 10 0 [(0, .ref 12), (1, .int x1), (2, .int x2), (3, .int x3), (4, .int x4)] [] σ Q := by
  have hM : PRG[10]? = some M_10 := rfl
  refine Pl.sg1 (pc' := 13) (ls' := [(0, .ref 12), (1, .int x1), (2, .int x2), (3, .int x3), (4, .int x4)]) (st' := [.int x1, .ref 10, .int (0 : Int32), .ref 13]) (σ' := σ) hM 6 rfl ?_
  refine Pl.weak (Pl.iald hM rfl rfl (fun hi => ?_))
  replace h := h hi
  refine Pl.seg (pc' := 25) (ls' := [(0, .ref 12), (1, .int x1), (2, .int x2), (3, .int x3), (4, .int x4)]) (st' := [.int x1, .ref 3, .int (1 : Int32), .ref 13]) (σ' := (s1 σ 13 0 (σ.1 10 x1.toNatClampNeg))) hM 7 rfl ?_
  refine Pl.weak (Pl.cI hM rfl rfl (by decide) (Mj := M_9) rfl rfl (fun w2 σ1 hw => ?_))
  replace h := h w2 σ1 hw
  refine Pl.seg (pc' := 54) (ls' := [(5, .int (5 : Int32)), (0, .ref 12), (1, .int x1), (2, .int x2), (3, .int x3), (4, .int x4)]) (st' := []) (σ' := (s1 (s1 (s1 (s1 σ1 13 1 w2) 13 2 x2) 13 3 x3) 13 4 x4)) hM 18 rfl ?_
  exact Pl.live (l' := [(0, .ref 12), (5, .int (5 : Int32))]) hM lv_10 ⟨show ndL _ from (by decide : List.Nodup ([5, 0, 1, 2, 3, 4] : List Nat)), show ndL _ from (by decide : List.Nodup ([0, 5] : List Nat)), by rw [lva_10_54]; exact List.forall_mem_cons.mpr ⟨rfl, List.forall_mem_cons.mpr ⟨rfl, fun _ h => absurd h List.not_mem_nil⟩⟩⟩ h
set_option maxRecDepth 100000 in
theorem p_10_54 {n d : Nat} {Q : Option Value → Sg → Prop} (σ : Sg) (x5 : Int32) (h : (((14 : Int32) ≤ x5 → Q none σ) ∧ (¬ (14 : Int32) ≤ x5 → (inR x5 14 = true → Pl PRG n d 10 54 [(0, .ref 12), (5, .int (x5 + (1 : Int32)))] [] (s1 σ 13 x5.toNatClampNeg (0 : Int32)) Q)))) : Pl PRG (n + 1) d 10 54 [(0, .ref 12), (5, .int x5)] [] σ Q := by
  have hM : PRG[10]? = some M_10 := rfl
  refine Pl.br1 (c := (14 : Int32) ≤ x5) (a := 78) (b := 64) (ls' := [(0, .ref 12), (5, .int x5)]) (st' := []) (σ' := σ) hM 4 rfl (fun c => ?_) (fun c => ?_)
  · replace h := h.1 c
    refine Pl.weak (Pl.ret hM rfl rfl h)
  · replace h := h.2 c
    refine Pl.seg (pc' := 71) (ls' := [(0, .ref 12), (5, .int x5)]) (st' := [.int (0 : Int32), .int x5, .ref 13]) (σ' := σ) hM 4 rfl ?_
    refine Pl.weak (Pl.iast hM rfl rfl (fun hi => ?_))
    replace h := h hi
    refine Pl.seg (pc' := 54) (ls' := [(5, .int (x5 + (1 : Int32))), (0, .ref 12)]) (st' := []) (σ' := (s1 σ 13 x5.toNatClampNeg (0 : Int32))) hM 2 rfl ?_
    exact Pl.live (l' := [(0, .ref 12), (5, .int (x5 + (1 : Int32)))]) hM lv_10 ⟨show ndL _ from (by decide : List.Nodup ([5, 0] : List Nat)), show ndL _ from (by decide : List.Nodup ([0, 5] : List Nat)), by rw [lva_10_54]; exact List.forall_mem_cons.mpr ⟨rfl, List.forall_mem_cons.mpr ⟨rfl, fun _ h => absurd h List.not_mem_nil⟩⟩⟩ h
def LV_11 : List (Nat × List Nat) := [(0, [0, 1]), (1, [0, 1]), (4, [0, 1]), (5, [0, 1]), (6, [0, 1]), (7, [0, 1, 2]), (8, [0, 1, 2]), (9, [0, 1, 2]), (12, [0, 1, 2]), (15, [0, 1, 2]), (16, [0, 1, 2]), (17, [0, 1, 2]), (18, [0, 1, 2]), (19, [0, 1, 2, 3]), (20, [0, 1, 2, 3]), (23, [0, 1, 2, 3]), (24, [0, 1, 2, 3]), (27, [0, 1, 2, 3]), (29, [0, 1, 2, 3]), (30, [0, 1, 2, 3]), (33, [0, 1, 2, 3]), (35, [0, 1, 2, 3]), (36, [0, 1, 2, 3]), (39, [0, 1, 2, 3]), (40, [0, 1, 2, 3]), (43, [0, 1, 2, 3]), (44, [0, 1, 2, 3]), (45, [0, 1, 2, 3]), (48, [0, 1, 2, 3]), (50, [0, 1, 2, 3]), (51, [0, 1, 2, 3]), (54, [0, 1, 2, 3]), (55, [0, 1, 2]), (58, [0, 1, 2]), (61, [0, 1, 2]), (62, [0, 1, 2]), (63, [0, 1, 2]), (65, [0, 1, 2, 4]), (66, [0, 1, 2, 4]), (68, [0, 1, 2, 4, 5]), (70, [0, 1, 2, 4, 5]), (71, [0, 1, 2, 4, 5]), (74, [0, 1, 2, 4, 5]), (77, [0, 1, 2, 4, 5]), (80, [0, 1, 2, 4, 5]), (81, [0, 1, 2, 4, 5]), (82, [0, 1, 2, 4, 5]), (85, [0, 1, 2, 4, 5]), (88, [0, 1, 2, 4, 5]), (90, [0, 1, 2, 4, 5]), (91, [0, 1, 2, 4, 5]), (92, [0, 1, 2, 4, 5]), (95, [0, 1, 2, 4, 5]), (97, [0, 1, 2, 4, 5, 6]), (98, [0, 1, 2, 4, 5, 6]), (101, [0, 1, 2, 4, 5, 6]), (103, [0, 1, 2, 4, 5, 6]), (105, [0, 1, 2, 4, 5, 6]), (106, [0, 1, 2, 4, 5, 6]), (108, [0, 1, 2, 4, 5, 6]), (109, [0, 1, 2, 4, 5, 6]), (111, [0, 1, 2, 5, 6]), (113, [0, 1, 2, 5]), (116, [0, 1, 2, 5]), (117, [0, 1, 2, 5]), (120, [0, 1, 2, 5]), (121, [0, 1, 2, 5]), (122, [0, 1, 2, 5]), (124, [0, 1, 2, 4, 5]), (127, [0, 1, 2, 4, 5]), (130, [0, 2, 4]), (131, [0, 2, 4]), (134, [0, 2, 4]), (135, [0, 2, 4]), (136, [0, 2, 4]), (139, [0, 2, 4]), (141, [0, 2, 4]), (142, [0, 4]), (143, [0, 4]), (144, [0, 4]), (145, [0, 4]), (146, [0, 4]), (149, [0, 4]), (151, [0, 4]), (153, [0]), (154, [0]), (155, [0]), (158, [0]), (160, [0]), (161, [0]), (164, [0]), (167, [0]), (170, []), (171, []), (174, [0]), (175, [0]), (178, [0]), (180, [0]), (181, []), (184, []), (187, []), (188, []), (189, []), (190, [])]
set_option maxRecDepth 100000 in
theorem lv_11 : chkLv M_11 LV_11 = true := by decide +kernel
set_option maxRecDepth 100000 in
theorem lva_11_62 : lvA LV_11 62 = [0, 1, 2] := by decide +kernel
set_option maxRecDepth 100000 in
theorem lva_11_68 : lvA LV_11 68 = [0, 1, 2, 4, 5] := by decide +kernel
set_option maxRecDepth 100000 in
theorem p_11_0 {n d : Nat} {Q : Option Value → Sg → Prop} (σ : Sg) (x1 : Int32) (h : (inR (σ.1 13 0) 4 = true → (((x1 &&& (σ.1 9 (σ.1 13 0).toNatClampNeg)) = 0 → Pl PRG n d 11 62 [(0, .ref 12), (1, .int x1), (2, .int (σ.1 13 0))] [] σ Q) ∧ (¬ (x1 &&& (σ.1 9 (σ.1 13 0).toNatClampNeg)) = 0 → (∀ w2 σ1, RCx PRG n 0 [.int (x1 &&& (σ.1 9 (σ.1 13 0).toNatClampNeg))] σ (some (.int w2)) σ1 → (∀ w4 σ3, RCx PRG n 9 [.ref 3, .int ((31 : Int32) - w2)] σ1 (some (.int w4)) σ3 → (∀ w6 σ5, RCx PRG n 1 [.int (x1 &&& (σ.1 9 (σ.1 13 0).toNatClampNeg))] (s1 σ3 13 6 w4) (some (.int w6)) σ5 → (∀ w8 σ7, RCx PRG n 9 [.ref 3, .int w6] σ5 (some (.int w8)) σ7 → Pl PRG n d 11 62 [(0, .ref 12), (1, .int x1), (2, .int (σ.1 13 0))] [] (s1 σ7 13 7 w8) Q)))))))) : Pl PRG (n + 1) d 11 0 [(0, .ref 12), (1, .int x1)] [] σ Q := by
  have hM : PRG[11]? = some M_11 := rfl
  refine Pl.sg1 (pc' := 16) (ls' := [(2, .int (σ.1 13 0)), (0, .ref 12), (1, .int x1)]) (st' := [.int (σ.1 13 0), .ref 9, .int x1]) (σ' := σ) hM 9 rfl ?_
  refine Pl.weak (Pl.iald hM rfl rfl (fun hi => ?_))
  replace h := h hi
  refine Pl.br (c := (x1 &&& (σ.1 9 (σ.1 13 0).toNatClampNeg)) = 0) (a := 62) (b := 23) (ls' := [(3, .int (x1 &&& (σ.1 9 (σ.1 13 0).toNatClampNeg))), (2, .int (σ.1 13 0)), (0, .ref 12), (1, .int x1)]) (st' := []) (σ' := σ) hM 4 rfl (fun c => ?_) (fun c => ?_)
  · replace h := h.1 c
    exact Pl.live (l' := [(0, .ref 12), (1, .int x1), (2, .int (σ.1 13 0))]) hM lv_11 ⟨show ndL _ from (by decide : List.Nodup ([3, 2, 0, 1] : List Nat)), show ndL _ from (by decide : List.Nodup ([0, 1, 2] : List Nat)), by rw [lva_11_62]; exact List.forall_mem_cons.mpr ⟨rfl, List.forall_mem_cons.mpr ⟨rfl, List.forall_mem_cons.mpr ⟨rfl, fun _ h => absurd h List.not_mem_nil⟩⟩⟩⟩ h
  · replace h := h.2 c
    refine Pl.seg (pc' := 36) (ls' := [(3, .int (x1 &&& (σ.1 9 (σ.1 13 0).toNatClampNeg))), (2, .int (σ.1 13 0)), (0, .ref 12), (1, .int x1)]) (st' := [.int (x1 &&& (σ.1 9 (σ.1 13 0).toNatClampNeg)), .int (31 : Int32), .ref 3, .int (6 : Int32), .ref 13]) (σ' := σ) hM 7 rfl ?_
    refine Pl.weak (Pl.cI hM rfl rfl (by decide) (Mj := M_0) rfl rfl (fun w2 σ1 hw => ?_))
    replace h := h w2 σ1 hw
    refine Pl.seg (pc' := 40) (ls' := [(3, .int (x1 &&& (σ.1 9 (σ.1 13 0).toNatClampNeg))), (2, .int (σ.1 13 0)), (0, .ref 12), (1, .int x1)]) (st' := [.int ((31 : Int32) - w2), .ref 3, .int (6 : Int32), .ref 13]) (σ' := σ1) hM 1 rfl ?_
    refine Pl.weak (Pl.cI hM rfl rfl (by decide) (Mj := M_9) rfl rfl (fun w4 σ3 hw => ?_))
    replace h := h w4 σ3 hw
    refine Pl.seg (pc' := 55) (ls' := [(3, .int (x1 &&& (σ.1 9 (σ.1 13 0).toNatClampNeg))), (2, .int (σ.1 13 0)), (0, .ref 12), (1, .int x1)]) (st' := [.int (x1 &&& (σ.1 9 (σ.1 13 0).toNatClampNeg)), .ref 3, .int (7 : Int32), .ref 13]) (σ' := (s1 σ3 13 6 w4)) hM 7 rfl ?_
    refine Pl.weak (Pl.cI hM rfl rfl (by decide) (Mj := M_1) rfl rfl (fun w6 σ5 hw => ?_))
    replace h := h w6 σ5 hw
    refine Pl.weak (Pl.cI hM rfl rfl (by decide) (Mj := M_9) rfl rfl (fun w8 σ7 hw => ?_))
    replace h := h w8 σ7 hw
    refine Pl.seg (pc' := 62) (ls' := [(3, .int (x1 &&& (σ.1 9 (σ.1 13 0).toNatClampNeg))), (2, .int (σ.1 13 0)), (0, .ref 12), (1, .int x1)]) (st' := []) (σ' := (s1 σ7 13 7 w8)) hM 1 rfl ?_
    exact Pl.live (l' := [(0, .ref 12), (1, .int x1), (2, .int (σ.1 13 0))]) hM lv_11 ⟨show ndL _ from (by decide : List.Nodup ([3, 2, 0, 1] : List Nat)), show ndL _ from (by decide : List.Nodup ([0, 1, 2] : List Nat)), by rw [lva_11_62]; exact List.forall_mem_cons.mpr ⟨rfl, List.forall_mem_cons.mpr ⟨rfl, List.forall_mem_cons.mpr ⟨rfl, fun _ h => absurd h List.not_mem_nil⟩⟩⟩⟩ h
set_option maxRecDepth 100000 in
theorem p_11_62 {n d : Nat} {Q : Option Value → Sg → Prop} (σ : Sg) (x1 x2 : Int32) (h : Pl PRG n d 11 68 [(0, .ref 12), (1, .int x1), (2, .int x2), (4, .int (0 : Int32)), (5, .int (0 : Int32))] [] σ Q) : Pl PRG (n + 1) d 11 62 [(0, .ref 12), (1, .int x1), (2, .int x2)] [] σ Q := by
  have hM : PRG[11]? = some M_11 := rfl
  refine Pl.sg1 (pc' := 68) (ls' := [(5, .int (0 : Int32)), (4, .int (0 : Int32)), (0, .ref 12), (1, .int x1), (2, .int x2)]) (st' := []) (σ' := σ) hM 3 rfl ?_
  exact Pl.live (l' := [(0, .ref 12), (1, .int x1), (2, .int x2), (4, .int (0 : Int32)), (5, .int (0 : Int32))]) hM lv_11 ⟨show ndL _ from (by decide : List.Nodup ([5, 4, 0, 1, 2] : List Nat)), show ndL _ from (by decide : List.Nodup ([0, 1, 2, 4, 5] : List Nat)), by rw [lva_11_68]; exact List.forall_mem_cons.mpr ⟨rfl, List.forall_mem_cons.mpr ⟨rfl, List.forall_mem_cons.mpr ⟨rfl, List.forall_mem_cons.mpr ⟨rfl, List.forall_mem_cons.mpr ⟨rfl, fun _ h => absurd h List.not_mem_nil⟩⟩⟩⟩⟩⟩ h
set_option maxRecDepth 100000 in
theorem p_11_68 {n d : Nat} {Q : Option Value → Sg → Prop} (σ : Sg) (x1 x2 x4 x5 : Int32) (h : (((σ.1 3 0) ≤ x5 → (inR ((10 : Int32) + x2) 14 = true → ((0 ≤ (σ.1 3 2) → (inR ((10 : Int32) + (σ.1 3 2)) 14 = true → Q none (s1 (s1 (s1 σ 13 5 (σ.1 13 ((10 : Int32) + x2).toNatClampNeg)) 13 8 x4) 13 9 ((s1 (s1 σ 13 5 (σ.1 13 ((10 : Int32) + x2).toNatClampNeg)) 13 8 x4).1 13 ((10 : Int32) + (σ.1 3 2)).toNatClampNeg)))) ∧ (¬ 0 ≤ (σ.1 3 2) → Q none (s1 (s1 (s1 σ 13 5 (σ.1 13 ((10 : Int32) + x2).toNatClampNeg)) 13 8 x4) 13 9 (0 : Int32)))))) ∧ (¬ (σ.1 3 0) ≤ x5 → (inR x5 4 = true → (∀ w2 σ1, RCx PRG n 2 [.int (x1 &&& (σ.1 9 x5.toNatClampNeg))] σ (some (.int w2)) σ1 → (inR ((10 : Int32) + x5) 14 = true → ((w2 = 0 → Pl PRG n d 11 68 [(0, .ref 12), (1, .int x1), (2, .int x2), (4, .int (x4 + (1 : Int32))), (5, .int (x5 + (1 : Int32)))] [] (s1 σ1 13 ((10 : Int32) + x5).toNatClampNeg w2) Q) ∧ (¬ w2 = 0 → Pl PRG n d 11 68 [(0, .ref 12), (1, .int x1), (2, .int x2), (4, .int (x4 + (0 : Int32))), (5, .int (x5 + (1 : Int32)))] [] (s1 σ1 13 ((10 : Int32) + x5).toNatClampNeg w2) Q)))))))) : Pl PRG (n + 1) d 11 68 [(0, .ref 12), (1, .int x1), (2, .int x2), (4, .int x4), (5, .int x5)] [] σ Q := by
  have hM : PRG[11]? = some M_11 := rfl
  refine Pl.br1 (c := (σ.1 3 0) ≤ x5) (a := 130) (b := 80) (ls' := [(0, .ref 12), (1, .int x1), (2, .int x2), (4, .int x4), (5, .int x5)]) (st' := []) (σ' := σ) hM 4 rfl (fun c => ?_) (fun c => ?_)
  · replace h := h.1 c
    refine Pl.seg (pc' := 143) (ls' := [(0, .ref 12), (1, .int x1), (2, .int x2), (4, .int x4), (5, .int x5)]) (st' := [.int ((10 : Int32) + x2), .ref 13, .int (5 : Int32), .ref 13]) (σ' := σ) hM 8 rfl ?_
    refine Pl.weak (Pl.iald hM rfl rfl (fun hi => ?_))
    replace h := h hi
    refine Pl.br (c := 0 ≤ (σ.1 3 2)) (a := 174) (b := 170) (ls' := [(0, .ref 12), (1, .int x1), (2, .int x2), (4, .int x4), (5, .int x5)]) (st' := [.int (9 : Int32), .ref 13]) (σ' := (s1 (s1 σ 13 5 (σ.1 13 ((10 : Int32) + x2).toNatClampNeg)) 13 8 x4)) hM 13 rfl (fun c => ?_) (fun c => ?_)
    · replace h := h.1 c
      refine Pl.seg (pc' := 188) (ls' := [(0, .ref 12), (1, .int x1), (2, .int x2), (4, .int x4), (5, .int x5)]) (st' := [.int ((10 : Int32) + (σ.1 3 2)), .ref 13, .int (9 : Int32), .ref 13]) (σ' := (s1 (s1 σ 13 5 (σ.1 13 ((10 : Int32) + x2).toNatClampNeg)) 13 8 x4)) hM 7 rfl ?_
      refine Pl.weak (Pl.iald hM rfl rfl (fun hi => ?_))
      replace h := h hi
      refine Pl.seg (pc' := 190) (ls' := [(0, .ref 12), (1, .int x1), (2, .int x2), (4, .int x4), (5, .int x5)]) (st' := []) (σ' := (s1 (s1 (s1 σ 13 5 (σ.1 13 ((10 : Int32) + x2).toNatClampNeg)) 13 8 x4) 13 9 ((s1 (s1 σ 13 5 (σ.1 13 ((10 : Int32) + x2).toNatClampNeg)) 13 8 x4).1 13 ((10 : Int32) + (σ.1 3 2)).toNatClampNeg))) hM 1 rfl ?_
      refine Pl.weak (Pl.ret hM rfl rfl h)
    · replace h := h.2 c
      refine Pl.seg (pc' := 190) (ls' := [(0, .ref 12), (1, .int x1), (2, .int x2), (4, .int x4), (5, .int x5)]) (st' := []) (σ' := (s1 (s1 (s1 σ 13 5 (σ.1 13 ((10 : Int32) + x2).toNatClampNeg)) 13 8 x4) 13 9 (0 : Int32))) hM 3 rfl ?_
      refine Pl.weak (Pl.ret hM rfl rfl h)
  · replace h := h.2 c
    refine Pl.seg (pc' := 90) (ls' := [(0, .ref 12), (1, .int x1), (2, .int x2), (4, .int x4), (5, .int x5)]) (st' := [.int x5, .ref 9, .int x1]) (σ' := σ) hM 5 rfl ?_
    refine Pl.weak (Pl.iald hM rfl rfl (fun hi => ?_))
    replace h := h hi
    refine Pl.seg (pc' := 92) (ls' := [(0, .ref 12), (1, .int x1), (2, .int x2), (4, .int x4), (5, .int x5)]) (st' := [.int (x1 &&& (σ.1 9 x5.toNatClampNeg))]) (σ' := σ) hM 1 rfl ?_
    refine Pl.weak (Pl.cI hM rfl rfl (by decide) (Mj := M_2) rfl rfl (fun w2 σ1 hw => ?_))
    replace h := h w2 σ1 hw
    refine Pl.seg (pc' := 108) (ls' := [(6, .int w2), (0, .ref 12), (1, .int x1), (2, .int x2), (4, .int x4), (5, .int x5)]) (st' := [.int w2, .int ((10 : Int32) + x5), .ref 13]) (σ' := σ1) hM 7 rfl ?_
    refine Pl.weak (Pl.iast hM rfl rfl (fun hi => ?_))
    replace h := h hi
    refine Pl.brN (c := w2 = 0) (a := 120) (b := 116) (ls' := [(6, .int w2), (0, .ref 12), (1, .int x1), (2, .int x2), (4, .int x4), (5, .int x5)]) (st' := [.int x4]) (σ' := (s1 σ1 13 ((10 : Int32) + x5).toNatClampNeg w2)) hM 3 rfl (fun c => ?_) (fun c => ?_)
    · replace h := h.2 c
      refine Pl.seg (pc' := 68) (ls' := [(5, .int (x5 + (1 : Int32))), (4, .int (x4 + (0 : Int32))), (6, .int w2), (0, .ref 12), (1, .int x1), (2, .int x2)]) (st' := []) (σ' := (s1 σ1 13 ((10 : Int32) + x5).toNatClampNeg w2)) hM 5 rfl ?_
      exact Pl.live (l' := [(0, .ref 12), (1, .int x1), (2, .int x2), (4, .int (x4 + (0 : Int32))), (5, .int (x5 + (1 : Int32)))]) hM lv_11 ⟨show ndL _ from (by decide : List.Nodup ([5, 4, 6, 0, 1, 2] : List Nat)), show ndL _ from (by decide : List.Nodup ([0, 1, 2, 4, 5] : List Nat)), by rw [lva_11_68]; exact List.forall_mem_cons.mpr ⟨rfl, List.forall_mem_cons.mpr ⟨rfl, List.forall_mem_cons.mpr ⟨rfl, List.forall_mem_cons.mpr ⟨rfl, List.forall_mem_cons.mpr ⟨rfl, fun _ h => absurd h List.not_mem_nil⟩⟩⟩⟩⟩⟩ h
    · replace h := h.1 c
      refine Pl.seg (pc' := 68) (ls' := [(5, .int (x5 + (1 : Int32))), (4, .int (x4 + (1 : Int32))), (6, .int w2), (0, .ref 12), (1, .int x1), (2, .int x2)]) (st' := []) (σ' := (s1 σ1 13 ((10 : Int32) + x5).toNatClampNeg w2)) hM 6 rfl ?_
      exact Pl.live (l' := [(0, .ref 12), (1, .int x1), (2, .int x2), (4, .int (x4 + (1 : Int32))), (5, .int (x5 + (1 : Int32)))]) hM lv_11 ⟨show ndL _ from (by decide : List.Nodup ([5, 4, 6, 0, 1, 2] : List Nat)), show ndL _ from (by decide : List.Nodup ([0, 1, 2, 4, 5] : List Nat)), by rw [lva_11_68]; exact List.forall_mem_cons.mpr ⟨rfl, List.forall_mem_cons.mpr ⟨rfl, List.forall_mem_cons.mpr ⟨rfl, List.forall_mem_cons.mpr ⟨rfl, List.forall_mem_cons.mpr ⟨rfl, fun _ h => absurd h List.not_mem_nil⟩⟩⟩⟩⟩⟩ h
def LV_38 : List (Nat × List Nat) := [(0, [0, 1, 2]), (1, [0, 1, 2]), (2, [0, 1, 2, 3]), (3, [0, 1, 2, 3]), (5, [0, 1, 2, 3, 4]), (7, [0, 1, 2, 3, 4]), (8, [0, 1, 2, 3, 4]), (11, [0, 1, 2, 3, 4]), (14, [0, 1, 2, 3, 4]), (17, [0, 1, 2, 3, 4]), (18, [0, 1, 2, 3, 4]), (21, [0, 1, 2, 3, 4]), (24, [0, 1, 2, 3, 4]), (26, [0, 1, 2, 3, 4]), (27, [0, 1, 2, 3, 4]), (28, [0, 1, 2, 3, 4]), (31, [0, 1, 2, 3, 4]), (32, [0, 1, 2, 3, 4]), (35, [0, 1, 2, 3, 4]), (38, [0, 1, 2, 3, 4]), (40, [0, 1, 2, 3, 4]), (41, [0, 1, 2, 3, 4]), (42, [0, 1, 2, 3, 4]), (45, [0, 1, 2, 3, 4]), (46, [0, 1, 2, 3, 4]), (49, [0, 1, 2, 3, 4]), (52, [0, 1, 2, 3, 4]), (54, [0, 1, 2, 3, 4]), (55, [0, 1, 2, 3, 4]), (56, [0, 1, 2, 3, 4]), (59, [0, 1, 2, 3, 4]), (60, [0, 1, 2, 3, 4]), (63, [0, 1, 2, 3, 4]), (64, [0, 1, 2, 3, 4]), (66, [0, 1, 2, 3, 4, 5]), (68, [0, 1, 2, 3, 4]), (71, [0, 1, 2, 3, 4]), (72, [0, 1, 2, 3, 4]), (74, [0, 1, 2, 3, 4]), (75, [0, 1, 2, 3, 4]), (78, [0, 1, 2, 3, 4]), (81, [0, 1, 2, 3, 4]), (82, [0, 1, 2, 4]), (83, [0, 1, 2, 4]), (85, [0, 1, 2, 4]), (86, [0, 1, 2, 4]), (87, [0, 1, 2, 4]), (88, [0, 1, 2, 3, 4]), (91, [0, 1, 2, 3, 4]), (94, [3]), (95, [])]
set_option maxRecDepth 100000 in
theorem lv_38 : chkLv M_38 LV_38 = true := by decide +kernel
set_option maxRecDepth 100000 in
theorem lva_38_5 : lvA LV_38 5 = [0, 1, 2, 3, 4] := by decide +kernel
set_option maxRecDepth 100000 in
theorem lva_38_59 : lvA LV_38 59 = [0, 1, 2, 3, 4] := by decide +kernel
set_option maxRecDepth 100000 in
theorem lva_38_63 : lvA LV_38 63 = [0, 1, 2, 3, 4] := by decide +kernel
set_option maxRecDepth 100000 in
theorem lva_38_88 : lvA LV_38 88 = [0, 1, 2, 3, 4] := by decide +kernel
set_option maxRecDepth 100000 in
theorem p_38_0 {n d : Nat} {Q : Option Value → Sg → Prop} (σ : Sg) (x1 x2 : Int32) (h : Pl PRG n d 38 5 [(0, .ref 12), (1, .int x1), (2, .int x2), (3, .int (0 : Int32)), (4, .int (0 : Int32))] [] σ Q) : Pl PRG (n + 1) d 38 0 [(0, .ref 12), (1, .int x1), (2, .int x2)] [] σ Q := by
  have hM : PRG[38]? = some M_38 := rfl
  refine Pl.sg1 (pc' := 5) (ls' := [(4, .int (0 : Int32)), (3, .int (0 : Int32)), (0, .ref 12), (1, .int x1), (2, .int x2)]) (st' := []) (σ' := σ) hM 3 rfl ?_
  exact Pl.live (l' := [(0, .ref 12), (1, .int x1), (2, .int x2), (3, .int (0 : Int32)), (4, .int (0 : Int32))]) hM lv_38 ⟨show ndL _ from (by decide : List.Nodup ([4, 3, 0, 1, 2] : List Nat)), show ndL _ from (by decide : List.Nodup ([0, 1, 2, 3, 4] : List Nat)), by rw [lva_38_5]; exact List.forall_mem_cons.mpr ⟨rfl, List.forall_mem_cons.mpr ⟨rfl, List.forall_mem_cons.mpr ⟨rfl, List.forall_mem_cons.mpr ⟨rfl, List.forall_mem_cons.mpr ⟨rfl, fun _ h => absurd h List.not_mem_nil⟩⟩⟩⟩⟩⟩ h
set_option maxRecDepth 100000 in
theorem p_38_5 {n d : Nat} {Q : Option Value → Sg → Prop} (σ : Sg) (x1 x2 x3 x4 : Int32) (h : (((σ.1 3 3) ≤ x4 → Q (some (.int x3)) σ) ∧ (¬ (σ.1 3 3) ≤ x4 → (inR x4 6 = true → (((σ.1 5 x4.toNatClampNeg) = x1 → (inR x4 6 = true → (((σ.1 4 x4.toNatClampNeg) = (2 : Int32) → Pl PRG n d 38 59 [(0, .ref 12), (1, .int x1), (2, .int x2), (3, .int x3), (4, .int x4)] [] σ Q) ∧ (¬ (σ.1 4 x4.toNatClampNeg) = (2 : Int32) → (inR x4 6 = true → (((σ.1 4 x4.toNatClampNeg) = x2 → Pl PRG n d 38 59 [(0, .ref 12), (1, .int x1), (2, .int x2), (3, .int x3), (4, .int x4)] [] σ Q) ∧ (¬ (σ.1 4 x4.toNatClampNeg) = x2 → Pl PRG n d 38 63 [(0, .ref 12), (1, .int x1), (2, .int x2), (3, .int x3), (4, .int x4)] [] σ Q))))))) ∧ (¬ (σ.1 5 x4.toNatClampNeg) = x1 → Pl PRG n d 38 63 [(0, .ref 12), (1, .int x1), (2, .int x2), (3, .int x3), (4, .int x4)] [] σ Q)))))) : Pl PRG (n + 1) d 38 5 [(0, .ref 12), (1, .int x1), (2, .int x2), (3, .int x3), (4, .int x4)] [] σ Q := by
  have hM : PRG[38]? = some M_38 := rfl
  refine Pl.br1 (c := (σ.1 3 3) ≤ x4) (a := 94) (b := 17) (ls' := [(0, .ref 12), (1, .int x1), (2, .int x2), (3, .int x3), (4, .int x4)]) (st' := []) (σ' := σ) hM 4 rfl (fun c => ?_) (fun c => ?_)
  · replace h := h.1 c
    refine Pl.seg (pc' := 95) (ls' := [(0, .ref 12), (1, .int x1), (2, .int x2), (3, .int x3), (4, .int x4)]) (st' := [.int x3]) (σ' := σ) hM 1 rfl ?_
    refine Pl.weak (Pl.ret hM rfl rfl h)
  · replace h := h.2 c
    refine Pl.seg (pc' := 26) (ls' := [(0, .ref 12), (1, .int x1), (2, .int x2), (3, .int x3), (4, .int x4)]) (st' := [.int x4, .ref 5]) (σ' := σ) hM 4 rfl ?_
    refine Pl.weak (Pl.iald hM rfl rfl (fun hi => ?_))
    replace h := h hi
    refine Pl.brN (c := (σ.1 5 x4.toNatClampNeg) = x1) (a := 63) (b := 31) (ls' := [(0, .ref 12), (1, .int x1), (2, .int x2), (3, .int x3), (4, .int x4)]) (st' := []) (σ' := σ) hM 2 rfl (fun c => ?_) (fun c => ?_)
    · replace h := h.2 c
      exact Pl.live (l' := [(0, .ref 12), (1, .int x1), (2, .int x2), (3, .int x3), (4, .int x4)]) hM lv_38 ⟨show ndL _ from (by decide : List.Nodup ([0, 1, 2, 3, 4] : List Nat)), show ndL _ from (by decide : List.Nodup ([0, 1, 2, 3, 4] : List Nat)), by rw [lva_38_63]; exact List.forall_mem_cons.mpr ⟨rfl, List.forall_mem_cons.mpr ⟨rfl, List.forall_mem_cons.mpr ⟨rfl, List.forall_mem_cons.mpr ⟨rfl, List.forall_mem_cons.mpr ⟨rfl, fun _ h => absurd h List.not_mem_nil⟩⟩⟩⟩⟩⟩ h
    · replace h := h.1 c
      refine Pl.seg (pc' := 40) (ls' := [(0, .ref 12), (1, .int x1), (2, .int x2), (3, .int x3), (4, .int x4)]) (st' := [.int x4, .ref 4]) (σ' := σ) hM 4 rfl ?_
      refine Pl.weak (Pl.iald hM rfl rfl (fun hi => ?_))
      replace h := h hi
      refine Pl.br (c := (σ.1 4 x4.toNatClampNeg) = (2 : Int32)) (a := 59) (b := 45) (ls' := [(0, .ref 12), (1, .int x1), (2, .int x2), (3, .int x3), (4, .int x4)]) (st' := []) (σ' := σ) hM 2 rfl (fun c => ?_) (fun c => ?_)
      · replace h := h.1 c
        exact Pl.live (l' := [(0, .ref 12), (1, .int x1), (2, .int x2), (3, .int x3), (4, .int x4)]) hM lv_38 ⟨show ndL _ from (by decide : List.Nodup ([0, 1, 2, 3, 4] : List Nat)), show ndL _ from (by decide : List.Nodup ([0, 1, 2, 3, 4] : List Nat)), by rw [lva_38_59]; exact List.forall_mem_cons.mpr ⟨rfl, List.forall_mem_cons.mpr ⟨rfl, List.forall_mem_cons.mpr ⟨rfl, List.forall_mem_cons.mpr ⟨rfl, List.forall_mem_cons.mpr ⟨rfl, fun _ h => absurd h List.not_mem_nil⟩⟩⟩⟩⟩⟩ h
      · replace h := h.2 c
        refine Pl.seg (pc' := 54) (ls' := [(0, .ref 12), (1, .int x1), (2, .int x2), (3, .int x3), (4, .int x4)]) (st' := [.int x4, .ref 4]) (σ' := σ) hM 4 rfl ?_
        refine Pl.weak (Pl.iald hM rfl rfl (fun hi => ?_))
        replace h := h hi
        refine Pl.brN (c := (σ.1 4 x4.toNatClampNeg) = x2) (a := 63) (b := 59) (ls' := [(0, .ref 12), (1, .int x1), (2, .int x2), (3, .int x3), (4, .int x4)]) (st' := []) (σ' := σ) hM 2 rfl (fun c => ?_) (fun c => ?_)
        · replace h := h.2 c
          exact Pl.live (l' := [(0, .ref 12), (1, .int x1), (2, .int x2), (3, .int x3), (4, .int x4)]) hM lv_38 ⟨show ndL _ from (by decide : List.Nodup ([0, 1, 2, 3, 4] : List Nat)), show ndL _ from (by decide : List.Nodup ([0, 1, 2, 3, 4] : List Nat)), by rw [lva_38_63]; exact List.forall_mem_cons.mpr ⟨rfl, List.forall_mem_cons.mpr ⟨rfl, List.forall_mem_cons.mpr ⟨rfl, List.forall_mem_cons.mpr ⟨rfl, List.forall_mem_cons.mpr ⟨rfl, fun _ h => absurd h List.not_mem_nil⟩⟩⟩⟩⟩⟩ h
        · replace h := h.1 c
          exact Pl.live (l' := [(0, .ref 12), (1, .int x1), (2, .int x2), (3, .int x3), (4, .int x4)]) hM lv_38 ⟨show ndL _ from (by decide : List.Nodup ([0, 1, 2, 3, 4] : List Nat)), show ndL _ from (by decide : List.Nodup ([0, 1, 2, 3, 4] : List Nat)), by rw [lva_38_59]; exact List.forall_mem_cons.mpr ⟨rfl, List.forall_mem_cons.mpr ⟨rfl, List.forall_mem_cons.mpr ⟨rfl, List.forall_mem_cons.mpr ⟨rfl, List.forall_mem_cons.mpr ⟨rfl, fun _ h => absurd h List.not_mem_nil⟩⟩⟩⟩⟩⟩ h
set_option maxRecDepth 100000 in
theorem p_38_63 {n d : Nat} {Q : Option Value → Sg → Prop} (σ : Sg) (x1 x2 x3 x4 : Int32) (h : Pl PRG n d 38 88 [(0, .ref 12), (1, .int x1), (2, .int x2), (3, .int x3), (4, .int x4)] [] σ Q) : Pl PRG (n + 1) d 38 63 [(0, .ref 12), (1, .int x1), (2, .int x2), (3, .int x3), (4, .int x4)] [] σ Q := by
  have hM : PRG[38]? = some M_38 := rfl
  refine Pl.sg1 (pc' := 88) (ls' := [(5, .int (0 : Int32)), (0, .ref 12), (1, .int x1), (2, .int x2), (3, .int x3), (4, .int x4)]) (st' := []) (σ' := σ) hM 3 rfl ?_
  exact Pl.live (l' := [(0, .ref 12), (1, .int x1), (2, .int x2), (3, .int x3), (4, .int x4)]) hM lv_38 ⟨show ndL _ from (by decide : List.Nodup ([5, 0, 1, 2, 3, 4] : List Nat)), show ndL _ from (by decide : List.Nodup ([0, 1, 2, 3, 4] : List Nat)), by rw [lva_38_88]; exact List.forall_mem_cons.mpr ⟨rfl, List.forall_mem_cons.mpr ⟨rfl, List.forall_mem_cons.mpr ⟨rfl, List.forall_mem_cons.mpr ⟨rfl, List.forall_mem_cons.mpr ⟨rfl, fun _ h => absurd h List.not_mem_nil⟩⟩⟩⟩⟩⟩ h
set_option maxRecDepth 100000 in
theorem p_38_59 {n d : Nat} {Q : Option Value → Sg → Prop} (σ : Sg) (x1 x2 x3 x4 : Int32) (h : (∀ w2 σ1, RCx PRG n 12 [.ref 12, .int x4, .int (0 : Int32)] σ (some (.int w2)) σ1 → (w2 = 0 ∨ w2 = 1) → ((w2 = 0 → Pl PRG n d 38 88 [(0, .ref 12), (1, .int x1), (2, .int x2), (3, .int x3), (4, .int x4)] [] σ1 Q) ∧ (¬ w2 = 0 → Pl PRG n d 38 88 [(0, .ref 12), (1, .int x1), (2, .int x2), (3, .int (x3 ||| ((1 : Int32) <<< (x4 &&& 31)))), (4, .int x4)] [] σ1 Q)))) : Pl PRG (n + 1) d 38 59 [(0, .ref 12), (1, .int x1), (2, .int x2), (3, .int x3), (4, .int x4)] [] σ Q := by
  have hM : PRG[38]? = some M_38 := rfl
  refine Pl.sg1 (pc' := 75) (ls' := [(5, .int (1 : Int32)), (0, .ref 12), (1, .int x1), (2, .int x2), (3, .int x3), (4, .int x4)]) (st' := [.int (0 : Int32), .int x4, .ref 12]) (σ' := σ) hM 7 rfl ?_
  refine Pl.weak (Pl.cZ hM rfl rfl (by decide) (Mj := M_12) rfl rfl (fun w2 σ1 hw hz => ?_))
  replace h := h w2 σ1 hw hz
  refine Pl.br (c := w2 = 0) (a := 88) (b := 81) (ls' := [(5, .int (1 : Int32)), (0, .ref 12), (1, .int x1), (2, .int x2), (3, .int x3), (4, .int x4)]) (st' := []) (σ' := σ1) hM 1 rfl (fun c => ?_) (fun c => ?_)
  · replace h := h.1 c
    exact Pl.live (l' := [(0, .ref 12), (1, .int x1), (2, .int x2), (3, .int x3), (4, .int x4)]) hM lv_38 ⟨show ndL _ from (by decide : List.Nodup ([5, 0, 1, 2, 3, 4] : List Nat)), show ndL _ from (by decide : List.Nodup ([0, 1, 2, 3, 4] : List Nat)), by rw [lva_38_88]; exact List.forall_mem_cons.mpr ⟨rfl, List.forall_mem_cons.mpr ⟨rfl, List.forall_mem_cons.mpr ⟨rfl, List.forall_mem_cons.mpr ⟨rfl, List.forall_mem_cons.mpr ⟨rfl, fun _ h => absurd h List.not_mem_nil⟩⟩⟩⟩⟩⟩ h
  · replace h := h.2 c
    refine Pl.seg (pc' := 88) (ls' := [(3, .int (x3 ||| ((1 : Int32) <<< (x4 &&& 31)))), (5, .int (1 : Int32)), (0, .ref 12), (1, .int x1), (2, .int x2), (4, .int x4)]) (st' := []) (σ' := σ1) hM 6 rfl ?_
    exact Pl.live (l' := [(0, .ref 12), (1, .int x1), (2, .int x2), (3, .int (x3 ||| ((1 : Int32) <<< (x4 &&& 31)))), (4, .int x4)]) hM lv_38 ⟨show ndL _ from (by decide : List.Nodup ([3, 5, 0, 1, 2, 4] : List Nat)), show ndL _ from (by decide : List.Nodup ([0, 1, 2, 3, 4] : List Nat)), by rw [lva_38_88]; exact List.forall_mem_cons.mpr ⟨rfl, List.forall_mem_cons.mpr ⟨rfl, List.forall_mem_cons.mpr ⟨rfl, List.forall_mem_cons.mpr ⟨rfl, List.forall_mem_cons.mpr ⟨rfl, fun _ h => absurd h List.not_mem_nil⟩⟩⟩⟩⟩⟩ h
set_option maxRecDepth 100000 in
theorem p_38_88 {n d : Nat} {Q : Option Value → Sg → Prop} (σ : Sg) (x1 x2 x3 x4 : Int32) (h : Pl PRG n d 38 5 [(0, .ref 12), (1, .int x1), (2, .int x2), (3, .int x3), (4, .int (x4 + (1 : Int32)))] [] σ Q) : Pl PRG (n + 1) d 38 88 [(0, .ref 12), (1, .int x1), (2, .int x2), (3, .int x3), (4, .int x4)] [] σ Q := by
  have hM : PRG[38]? = some M_38 := rfl
  refine Pl.sg1 (pc' := 5) (ls' := [(4, .int (x4 + (1 : Int32))), (0, .ref 12), (1, .int x1), (2, .int x2), (3, .int x3)]) (st' := []) (σ' := σ) hM 1 rfl ?_
  exact Pl.live (l' := [(0, .ref 12), (1, .int x1), (2, .int x2), (3, .int x3), (4, .int (x4 + (1 : Int32)))]) hM lv_38 ⟨show ndL _ from (by decide : List.Nodup ([4, 0, 1, 2, 3] : List Nat)), show ndL _ from (by decide : List.Nodup ([0, 1, 2, 3, 4] : List Nat)), by rw [lva_38_5]; exact List.forall_mem_cons.mpr ⟨rfl, List.forall_mem_cons.mpr ⟨rfl, List.forall_mem_cons.mpr ⟨rfl, List.forall_mem_cons.mpr ⟨rfl, List.forall_mem_cons.mpr ⟨rfl, fun _ h => absurd h List.not_mem_nil⟩⟩⟩⟩⟩⟩ h
def LV_13 : List (Nat × List Nat) := [(0, [0, 1]), (1, [0, 1]), (2, [0, 1, 2]), (3, [0, 1, 2]), (4, [0, 1, 2, 3]), (5, [0, 1, 2, 3]), (6, [0, 1, 2, 3]), (9, [0, 1, 2, 3]), (12, [0, 1, 2, 3]), (15, [0, 1, 2, 3]), (16, [0, 1, 2, 3]), (17, [0, 1, 2, 3]), (18, [0, 1, 2, 3]), (19, [0, 1, 2, 3]), (20, [0, 1, 2, 3]), (23, [0, 1, 2, 3]), (24, [0, 1, 2, 3]), (25, [0, 1, 2, 3]), (26, [0, 1, 2, 3]), (29, [0, 1, 2, 3]), (32, [0, 1, 2, 3]), (33, [0, 1, 3]), (34, [0, 1, 3]), (35, [0, 1, 3]), (36, [0, 1, 3]), (37, [0, 1, 3]), (38, [0, 1, 2, 3]), (41, [0, 1, 2, 3]), (44, [2]), (45, [])]
set_option maxRecDepth 100000 in
theorem lv_13 : chkLv M_13 LV_13 = true := by decide +kernel
set_option maxRecDepth 100000 in
theorem lva_13_4 : lvA LV_13 4 = [0, 1, 2, 3] := by decide +kernel
set_option maxRecDepth 100000 in
theorem lva_13_38 : lvA LV_13 38 = [0, 1, 2, 3] := by decide +kernel
set_option maxRecDepth 100000 in
theorem p_13_0 {n d : Nat} {Q : Option Value → Sg → Prop} (σ : Sg) (x1 : Int32) (h : Pl PRG n d 13 4 [(0, .ref 12), (1, .int x1), (2, .int (0 : Int32)), (3, .int (0 : Int32))] [] σ Q) : Pl PRG (n + 1) d 13 0 [(0, .ref 12), (1, .int x1)] [] σ Q := by
  have hM : PRG[13]? = some M_13 := rfl
  refine Pl.sg1 (pc' := 4) (ls' := [(3, .int (0 : Int32)), (2, .int (0 : Int32)), (0, .ref 12), (1, .int x1)]) (st' := []) (σ' := σ) hM 3 rfl ?_
  exact Pl.live (l' := [(0, .ref 12), (1, .int x1), (2, .int (0 : Int32)), (3, .int (0 : Int32))]) hM lv_13 ⟨show ndL _ from (by decide : List.Nodup ([3, 2, 0, 1] : List Nat)), show ndL _ from (by decide : List.Nodup ([0, 1, 2, 3] : List Nat)), by rw [lva_13_4]; exact List.forall_mem_cons.mpr ⟨rfl, List.forall_mem_cons.mpr ⟨rfl, List.forall_mem_cons.mpr ⟨rfl, List.forall_mem_cons.mpr ⟨rfl, fun _ h => absurd h List.not_mem_nil⟩⟩⟩⟩⟩ h
set_option maxRecDepth 100000 in
theorem p_13_4 {n d : Nat} {Q : Option Value → Sg → Prop} (σ : Sg) (x1 x2 x3 : Int32) (h : (((σ.1 3 3) ≤ x3 → Q (some (.int x2)) σ) ∧ (¬ (σ.1 3 3) ≤ x3 → ((((x1 >>> (x3 &&& 31)) &&& (1 : Int32)) = 0 → Pl PRG n d 13 38 [(0, .ref 12), (1, .int x1), (2, .int x2), (3, .int x3)] [] σ Q) ∧ (¬ ((x1 >>> (x3 &&& 31)) &&& (1 : Int32)) = 0 → (∀ w2 σ1, RCx PRG n 12 [.ref 12, .int x3, .int (1 : Int32)] σ (some (.int w2)) σ1 → (w2 = 0 ∨ w2 = 1) → ((w2 = 0 → Pl PRG n d 13 38 [(0, .ref 12), (1, .int x1), (2, .int (x2 ||| ((1 : Int32) <<< (x3 &&& 31)))), (3, .int x3)] [] σ1 Q) ∧ (¬ w2 = 0 → Pl PRG n d 13 38 [(0, .ref 12), (1, .int x1), (2, .int x2), (3, .int x3)] [] σ1 Q)))))))) : Pl PRG (n + 1) d 13 4 [(0, .ref 12), (1, .int x1), (2, .int x2), (3, .int x3)] [] σ Q := by
  have hM : PRG[13]? = some M_13 := rfl
  refine Pl.br1 (c := (σ.1 3 3) ≤ x3) (a := 44) (b := 15) (ls' := [(0, .ref 12), (1, .int x1), (2, .int x2), (3, .int x3)]) (st' := []) (σ' := σ) hM 4 rfl (fun c => ?_) (fun c => ?_)
  · replace h := h.1 c
    refine Pl.seg (pc' := 45) (ls' := [(0, .ref 12), (1, .int x1), (2, .int x2), (3, .int x3)]) (st' := [.int x2]) (σ' := σ) hM 1 rfl ?_
    refine Pl.weak (Pl.ret hM rfl rfl h)
  · replace h := h.2 c
    refine Pl.br (c := ((x1 >>> (x3 &&& 31)) &&& (1 : Int32)) = 0) (a := 38) (b := 23) (ls' := [(0, .ref 12), (1, .int x1), (2, .int x2), (3, .int x3)]) (st' := []) (σ' := σ) hM 6 rfl (fun c => ?_) (fun c => ?_)
    · replace h := h.1 c
      exact Pl.live (l' := [(0, .ref 12), (1, .int x1), (2, .int x2), (3, .int x3)]) hM lv_13 ⟨show ndL _ from (by decide : List.Nodup ([0, 1, 2, 3] : List Nat)), show ndL _ from (by decide : List.Nodup ([0, 1, 2, 3] : List Nat)), by rw [lva_13_38]; exact List.forall_mem_cons.mpr ⟨rfl, List.forall_mem_cons.mpr ⟨rfl, List.forall_mem_cons.mpr ⟨rfl, List.forall_mem_cons.mpr ⟨rfl, fun _ h => absurd h List.not_mem_nil⟩⟩⟩⟩⟩ h
    · replace h := h.2 c
      refine Pl.seg (pc' := 26) (ls' := [(0, .ref 12), (1, .int x1), (2, .int x2), (3, .int x3)]) (st' := [.int (1 : Int32), .int x3, .ref 12]) (σ' := σ) hM 3 rfl ?_
      refine Pl.weak (Pl.cZ hM rfl rfl (by decide) (Mj := M_12) rfl rfl (fun w2 σ1 hw hz => ?_))
      replace h := h w2 σ1 hw hz
      refine Pl.brN (c := w2 = 0) (a := 38) (b := 32) (ls' := [(0, .ref 12), (1, .int x1), (2, .int x2), (3, .int x3)]) (st' := []) (σ' := σ1) hM 1 rfl (fun c => ?_) (fun c => ?_)
      · replace h := h.2 c
        exact Pl.live (l' := [(0, .ref 12), (1, .int x1), (2, .int x2), (3, .int x3)]) hM lv_13 ⟨show ndL _ from (by decide : List.Nodup ([0, 1, 2, 3] : List Nat)), show ndL _ from (by decide : List.Nodup ([0, 1, 2, 3] : List Nat)), by rw [lva_13_38]; exact List.forall_mem_cons.mpr ⟨rfl, List.forall_mem_cons.mpr ⟨rfl, List.forall_mem_cons.mpr ⟨rfl, List.forall_mem_cons.mpr ⟨rfl, fun _ h => absurd h List.not_mem_nil⟩⟩⟩⟩⟩ h
      · replace h := h.1 c
        refine Pl.seg (pc' := 38) (ls' := [(2, .int (x2 ||| ((1 : Int32) <<< (x3 &&& 31)))), (0, .ref 12), (1, .int x1), (3, .int x3)]) (st' := []) (σ' := σ1) hM 6 rfl ?_
        exact Pl.live (l' := [(0, .ref 12), (1, .int x1), (2, .int (x2 ||| ((1 : Int32) <<< (x3 &&& 31)))), (3, .int x3)]) hM lv_13 ⟨show ndL _ from (by decide : List.Nodup ([2, 0, 1, 3] : List Nat)), show ndL _ from (by decide : List.Nodup ([0, 1, 2, 3] : List Nat)), by rw [lva_13_38]; exact List.forall_mem_cons.mpr ⟨rfl, List.forall_mem_cons.mpr ⟨rfl, List.forall_mem_cons.mpr ⟨rfl, List.forall_mem_cons.mpr ⟨rfl, fun _ h => absurd h List.not_mem_nil⟩⟩⟩⟩⟩ h
set_option maxRecDepth 100000 in
theorem p_13_38 {n d : Nat} {Q : Option Value → Sg → Prop} (σ : Sg) (x1 x2 x3 : Int32) (h : Pl PRG n d 13 4 [(0, .ref 12), (1, .int x1), (2, .int x2), (3, .int (x3 + (1 : Int32)))] [] σ Q) : Pl PRG (n + 1) d 13 38 [(0, .ref 12), (1, .int x1), (2, .int x2), (3, .int x3)] [] σ Q := by
  have hM : PRG[13]? = some M_13 := rfl
  refine Pl.sg1 (pc' := 4) (ls' := [(3, .int (x3 + (1 : Int32))), (0, .ref 12), (1, .int x1), (2, .int x2)]) (st' := []) (σ' := σ) hM 1 rfl ?_
  exact Pl.live (l' := [(0, .ref 12), (1, .int x1), (2, .int x2), (3, .int (x3 + (1 : Int32)))]) hM lv_13 ⟨show ndL _ from (by decide : List.Nodup ([3, 0, 1, 2] : List Nat)), show ndL _ from (by decide : List.Nodup ([0, 1, 2, 3] : List Nat)), by rw [lva_13_4]; exact List.forall_mem_cons.mpr ⟨rfl, List.forall_mem_cons.mpr ⟨rfl, List.forall_mem_cons.mpr ⟨rfl, List.forall_mem_cons.mpr ⟨rfl, fun _ h => absurd h List.not_mem_nil⟩⟩⟩⟩⟩ h
def LV_12 : List (Nat × List Nat) := [(0, [0, 1, 2]), (1, [0, 1, 2]), (2, [0, 1, 2, 3]), (3, [0, 1, 2, 3]), (5, [0, 1, 2, 3, 4]), (6, [0, 1, 2, 3, 4]), (9, [0, 1, 2, 3, 4]), (12, [0, 1, 2, 3, 4]), (13, [0, 1, 2, 3, 4]), (14, [0, 1, 2, 3, 4]), (15, [0, 1, 2, 3, 4]), (16, [0, 1, 2, 3, 4]), (17, [0, 1, 2, 3, 4]), (18, [0, 1, 2, 3, 4]), (20, [0, 1, 2, 3, 4, 5]), (21, [0, 1, 2, 3, 4, 5]), (24, [0, 1, 2, 3, 4, 5]), (27, [0, 1, 2, 3, 4, 5]), (28, [0, 1, 2, 3, 4, 5]), (29, [0, 2, 3, 4, 5]), (30, [0, 2, 3, 4, 5]), (31, [0, 3, 4, 5]), (32, [0, 3, 4, 5]), (33, [0, 3, 4, 5]), (35, [0, 3, 4, 5, 6]), (37, [0, 3, 4, 5, 6]), (39, [0, 3, 4, 5, 6]), (42, [0, 3, 4, 5, 6]), (43, [0, 3, 4, 5, 6]), (46, [0, 3, 4, 5, 6]), (49, [0, 3, 4, 5, 6]), (51, [0, 3, 4, 5, 6]), (52, [0, 3, 4, 5, 6]), (55, [0, 3, 4, 5, 6]), (56, [0, 3, 4, 5, 6]), (58, [0, 3, 4, 5, 6, 7]), (59, [0, 3, 4, 5, 6, 7]), (62, [0, 3, 4, 5, 6, 7]), (65, [0, 3, 4, 5, 6, 7]), (67, [0, 3, 4, 5, 6, 7]), (68, [0, 3, 4, 5, 6, 7]), (70, [0, 3, 4, 5, 6, 7]), (71, [0, 3, 4, 5, 6, 7]), (73, [0, 3, 4, 5, 6, 7, 8]), (75, [0, 3, 4, 5, 6, 7, 8]), (76, [0, 3, 4, 5, 6, 7, 8]), (79, [0, 3, 4, 5, 6, 7, 8]), (81, [0, 3, 4, 5, 6, 7, 8]), (83, [0, 3, 4, 5, 6, 7, 8]), (86, [0, 3, 4, 5, 6, 7, 8]), (87, [0, 3, 4, 5, 6, 7, 8]), (88, [0, 3, 4, 5, 6, 7, 8]), (89, [0, 3, 4, 5, 6, 7, 8]), (90, [0, 3, 4, 5, 6, 7, 8]), (93, [0, 3, 4, 5, 6, 7, 8]), (94, [0, 3, 4, 5, 6, 7, 8]), (97, [0, 3, 4, 5, 6, 7, 8]), (99, [0, 3, 4, 5, 6, 7, 8]), (102, [0, 3, 4, 5, 6, 7, 8]), (104, [0, 3, 4, 5, 6, 7, 8]), (106, [0, 3, 4, 5, 6, 7, 8]), (109, [0, 3, 4, 5, 6, 7, 8]), (111, [0, 3, 4, 5, 6, 7, 8]), (112, [0, 3, 4, 5, 6, 7, 8]), (115, [0, 3, 4, 5, 6, 7, 8]), (116, [0, 3, 4, 5, 6, 7, 8]), (119, []), (120, []), (121, [0, 3, 4, 5, 6, 7, 8]), (124, [0, 3, 4, 5, 6, 7, 8]), (125, [0, 3, 4, 5, 6, 7, 8]), (128, [0, 3, 4, 5, 6, 7, 8]), (129, [0, 3, 4, 5, 6, 7, 8]), (131, [0, 3, 4, 5, 6, 8]), (132, [0, 3, 4, 5, 6, 8]), (135, [0, 3, 4, 5, 6, 8]), (137, [0, 3, 4, 5, 6]), (140, [0, 3, 4, 5, 6, 8]), (141, [0, 3, 4, 5, 6, 8]), (144, [0, 3, 4, 5, 6, 8]), (146, [0, 3, 4, 5, 6]), (147, [0, 3, 4, 5, 6]), (148, [0, 3, 4, 5, 6]), (151, [0, 3, 4, 5, 6, 7]), (152, [0, 3, 4, 5, 6, 7]), (155, [0, 3, 4, 5, 6, 7]), (156, [0, 3, 4, 5, 6, 7]), (157, [0, 3, 4, 5, 6, 7]), (160, [0, 3, 4, 5, 6, 7]), (162, [0, 3, 4, 5, 6, 7]), (164, [0, 3, 4, 5, 6, 7]), (167, []), (168, []), (169, [0, 3, 4, 5, 6, 7]), (170, [0, 3, 4, 5, 6, 7]), (173, [0, 3, 4, 5, 6, 7]), (174, [0, 3, 4, 5, 6, 7]), (175, [0, 3, 4, 5, 6, 7]), (177, [0, 3, 4, 5, 6, 7, 9]), (178, [0, 4, 5, 6, 7, 9]), (180, [0, 4, 5, 6, 7, 9]), (182, [0, 4, 5, 6, 7, 9]), (185, [0, 4, 5, 6, 7, 9]), (186, [0, 4, 5, 6, 7, 9]), (189, [0, 4, 5, 6, 7, 9]), (190, [0, 4, 5, 6, 7, 9]), (191, [0, 4, 5, 6, 7, 9]), (192, [0, 3, 4, 5, 6, 7, 9]), (193, [0, 3, 4, 5, 6, 7, 9]), (196, [0, 3, 4, 5, 6, 7, 9]), (197, [0, 3, 4, 5, 6, 7, 9]), (198, [0, 3, 4, 5, 6, 7, 9]), (200, [0, 3, 4, 5, 6, 7, 9, 10]), (202, [0, 3, 4, 5, 6, 7, 9, 10]), (300, [0, 3, 4, 5, 6, 9, 10]), (301, [0, 3, 4, 5, 6, 9, 10]), (304, [0, 3, 4, 5, 6, 9, 10]), (305, [0, 3, 4, 5, 6, 9, 10]), (307, [0, 3, 4, 5, 6, 9]), (309, [0, 3, 4, 5, 6]), (310, [0, 3, 4, 5, 6]), (311, [0, 3, 4, 5, 6]), (314, [0, 3, 4, 5, 6, 9, 10]), (315, [0, 3, 4, 5, 6, 9, 10]), (318, [0, 3, 4, 5, 6, 9, 10]), (319, [0, 3, 4, 5, 6, 9, 10]), (321, [0, 3, 4, 5, 6, 9]), (323, [0, 3, 4, 5, 6]), (324, [0, 3, 4, 5, 6]), (325, [0, 3, 4, 5, 6]), (328, [0, 3, 4, 5, 6, 9, 10]), (329, [0, 3, 4, 5, 6, 9, 10]), (332, [0, 3, 4, 5, 6, 9, 10]), (333, [0, 3, 4, 5, 6, 9, 10]), (335, [0, 3, 4, 5, 6, 9]), (337, [0, 3, 4, 5, 6]), (338, [0, 3, 4, 5, 6]), (339, [0, 3, 4, 5, 6]), (342, [0, 3, 4, 5, 6, 9, 10]), (344, [0, 3, 5, 6, 9, 10]), (347, [0, 3, 5, 6, 9, 10]), (349, [0, 3, 5, 6, 9, 10]), (352, [0, 3, 5, 6, 9, 10]), (353, [0, 3, 5, 6, 9, 10]), (356, [0, 3, 5, 6, 9, 10]), (357, [0, 3, 5, 6, 9, 10]), (359, [0, 3, 4, 5, 6, 9, 10]), (360, [0, 3, 4, 5, 6, 9, 10]), (363, [0, 3, 4, 5, 6, 9, 10]), (364, [0, 3, 4, 5, 6, 9, 10]), (366, [0, 3, 4, 5, 6, 9, 10]), (369, [0, 3, 4, 5, 6]), (370, [0, 3, 4, 5, 6]), (373, [0, 3, 4, 5, 6, 9, 10]), (375, [0, 3, 4, 5, 6, 9]), (377, [0, 3, 4, 5, 6]), (378, [0, 3, 4, 5, 6]), (379, [0, 3, 4, 5, 6]), (382, [0, 3, 4, 5, 6, 9, 10]), (383, [0, 3, 4, 5, 6, 9, 10]), (386, [0, 3, 4, 5, 6, 9, 10]), (387, [0, 3, 4, 5, 6, 9, 10]), (389, [0, 3, 4, 5, 6, 9]), (391, [0, 3, 4, 5, 6]), (392, [0, 3, 4, 5, 6]), (393, [0, 3, 4, 5, 6]), (396, [0, 3, 4, 5, 6, 9, 10]), (397, [0, 3, 4, 5, 6, 9, 10]), (400, [0, 3, 4, 5, 6, 9, 10]), (401, [0, 3, 4, 5, 6, 9, 10]), (403, [0, 3, 4, 5, 6, 9]), (405, [0, 3, 4, 5, 6]), (406, [0, 3, 4, 5, 6]), (407, [0, 3, 4, 5, 6]), (410, [0, 3, 4, 5, 6, 9]), (411, [0, 3, 4, 5, 6, 9]), (414, [0, 3, 4, 5, 6, 9]), (415, [0, 3, 4, 5, 6, 9]), (416, [0, 3, 4, 5, 6, 9]), (418, [0, 3, 4, 5, 6]), (419, [0, 3, 4, 5, 6]), (420, [0, 3, 4, 5, 6]), (423, [0, 3, 4, 5, 6, 7, 9, 10]), (424, [0, 3, 4, 5, 6, 7, 9, 10]), (427, [0, 3, 4, 5, 6, 7, 9, 10]), (428, [0, 3, 4, 5, 6, 7, 9, 10]), (430, [0, 3, 5, 6, 7, 9, 10]), (433, [0, 3, 5, 6, 7, 9, 10]), (435, [0, 3, 5, 6, 7, 9, 10]), (437, [0, 3, 5, 6, 7, 9, 10]), (440, [0, 3, 5, 6, 9, 10]), (442, [0, 3, 5, 6, 9]), (444, [0, 3, 5, 6]), (447, [0, 3, 5, 6]), (450, [0, 3, 5, 6, 7, 9, 10]), (452, [0, 3, 5, 6, 7, 9, 10]), (454, [0, 3, 5, 6, 7, 9, 10]), (457, [0, 3, 5, 6, 9, 10]), (459, [0, 3, 5, 6, 9]), (461, [0, 3, 5, 6]), (464, [0, 3, 5, 6]), (467, [0, 3, 5, 6, 7, 9, 10]), (469, [0, 3, 5, 6, 9, 10]), (471, [0, 3, 5, 6, 9, 10]), (474, [0, 3, 5, 6, 9, 10]), (476, [0, 3, 5, 6, 9]), (478, [0, 3, 5, 6]), (481, [0, 3, 5, 6]), (484, [0, 3, 5, 6, 9, 10]), (486, [0, 3, 5, 6, 9]), (488, [0, 3, 5, 6]), (491, [0, 3, 5, 6]), (492, [0, 3, 5, 6]), (495, [0, 3, 5, 6]), (496, [0, 3, 5, 6]), (497, [0, 3, 5, 6]), (498, [0, 3, 5, 6]), (500, [0, 3, 4, 5, 6]), (503, [0, 3, 4, 5, 6]), (506, [0, 3]), (507, [0, 3]), (510, [0, 3]), (511, [3]), (514, [3]), (515, []), (516, []), (519, []), (520, []), (523, []), (524, [])]
set_option maxRecDepth 100000 in
theorem lv_12 : chkLv M_12 LV_12 = true := by decide +kernel
set_option maxRecDepth 100000 in
theorem lva_12_35 : lvA LV_12 35 = [0, 3, 4, 5, 6] := by decide +kernel
set_option maxRecDepth 100000 in
theorem lva_12_86 : lvA LV_12 86 = [0, 3, 4, 5, 6, 7, 8] := by decide +kernel
set_option maxRecDepth 100000 in
theorem lva_12_119 : lvA LV_12 119 = [] := by decide +kernel
set_option maxRecDepth 100000 in
theorem lva_12_121 : lvA LV_12 121 = [0, 3, 4, 5, 6, 7, 8] := by decide +kernel
set_option maxRecDepth 100000 in
theorem lva_12_167 : lvA LV_12 167 = [] := by decide +kernel
set_option maxRecDepth 100000 in
theorem lva_12_169 : lvA LV_12 169 = [0, 3, 4, 5, 6, 7] := by decide +kernel
set_option maxRecDepth 100000 in
theorem lva_12_352 : lvA LV_12 352 = [0, 3, 5, 6, 9, 10] := by decide +kernel
set_option maxRecDepth 100000 in
theorem lva_12_423 : lvA LV_12 423 = [0, 3, 4, 5, 6, 7, 9, 10] := by decide +kernel
set_option maxRecDepth 100000 in
theorem lva_12_500 : lvA LV_12 500 = [0, 3, 4, 5, 6] := by decide +kernel
set_option maxRecDepth 100000 in
theorem lva_12_519 : lvA LV_12 519 = [] := by decide +kernel
set_option maxRecDepth 100000 in
theorem p_12_0 {n d : Nat} {Q : Option Value → Sg → Prop} (σ : Sg) (x1 x2 : Int32) (h : (inR (((2 : Int32) * x1) + x2) 12 = true → (inR (((2 : Int32) * x1) + x2) 12 = true → Pl PRG n d 12 35 [(0, .ref 12), (3, .int (-1 : Int32)), (4, .int (0 : Int32)), (5, .int (σ.1 7 (((2 : Int32) * x1) + x2).toNatClampNeg)), (6, .int (σ.1 6 (((2 : Int32) * x1) + x2).toNatClampNeg))] [] σ Q))) : Pl PRG (n + 1) d 12 0 [(0, .ref 12), (1, .int x1), (2, .int x2)] [] σ Q := by
  have hM : PRG[12]? = some M_12 := rfl
  refine Pl.sg1 (pc' := 17) (ls' := [(4, .int (0 : Int32)), (3, .int (-1 : Int32)), (0, .ref 12), (1, .int x1), (2, .int x2)]) (st' := [.int (((2 : Int32) * x1) + x2), .ref 7]) (σ' := σ) hM 11 rfl ?_
  refine Pl.weak (Pl.iald hM rfl rfl (fun hi => ?_))
  replace h := h hi
  refine Pl.seg (pc' := 32) (ls' := [(5, .int (σ.1 7 (((2 : Int32) * x1) + x2).toNatClampNeg)), (4, .int (0 : Int32)), (3, .int (-1 : Int32)), (0, .ref 12), (1, .int x1), (2, .int x2)]) (st' := [.int (((2 : Int32) * x1) + x2), .ref 6]) (σ' := σ) hM 9 rfl ?_
  refine Pl.weak (Pl.iald hM rfl rfl (fun hi => ?_))
  replace h := h hi
  refine Pl.seg (pc' := 35) (ls' := [(6, .int (σ.1 6 (((2 : Int32) * x1) + x2).toNatClampNeg)), (5, .int (σ.1 7 (((2 : Int32) * x1) + x2).toNatClampNeg)), (4, .int (0 : Int32)), (3, .int (-1 : Int32)), (0, .ref 12), (1, .int x1), (2, .int x2)]) (st' := []) (σ' := σ) hM 1 rfl ?_
  exact Pl.live (l' := [(0, .ref 12), (3, .int (-1 : Int32)), (4, .int (0 : Int32)), (5, .int (σ.1 7 (((2 : Int32) * x1) + x2).toNatClampNeg)), (6, .int (σ.1 6 (((2 : Int32) * x1) + x2).toNatClampNeg))]) hM lv_12 ⟨show ndL _ from (by decide : List.Nodup ([6, 5, 4, 3, 0, 1, 2] : List Nat)), show ndL _ from (by decide : List.Nodup ([0, 3, 4, 5, 6] : List Nat)), by rw [lva_12_35]; exact List.forall_mem_cons.mpr ⟨rfl, List.forall_mem_cons.mpr ⟨rfl, List.forall_mem_cons.mpr ⟨rfl, List.forall_mem_cons.mpr ⟨rfl, List.forall_mem_cons.mpr ⟨rfl, fun _ h => absurd h List.not_mem_nil⟩⟩⟩⟩⟩⟩ h
set_option maxRecDepth 100000 in
theorem p_12_35 {n d : Nat} {Q : Option Value → Sg → Prop} (σ : Sg) (x3 x4 x5 x6 : Int32) (h : ((x5 ≤ x6 → ((x3 < 0 → Pl PRG n d 12 519 [] [] σ Q) ∧ (¬ x3 < 0 → (inR x3 64 = true → (((σ.1 14 x3.toNatClampNeg) = 0 → Q (some (.int (0 : Int32))) σ) ∧ (¬ (σ.1 14 x3.toNatClampNeg) = 0 → Pl PRG n d 12 519 [] [] σ Q)))))) ∧ (¬ x5 ≤ x6 → (inR x6 400 = true → (inR x6 400 = true → ((((σ.1 8 x6.toNatClampNeg) &&& (255 : Int32)) = (3 : Int32) → Pl PRG n d 12 86 [(0, .ref 12), (3, .int x3), (4, .int x4), (5, .int x5), (6, .int x6), (7, .int ((σ.1 8 x6.toNatClampNeg) &&& (255 : Int32))), (8, .int ((σ.1 8 x6.toNatClampNeg) >>> ((8 : Int32) &&& 31)))] [] σ Q) ∧ (¬ ((σ.1 8 x6.toNatClampNeg) &&& (255 : Int32)) = (3 : Int32) → ((((σ.1 8 x6.toNatClampNeg) &&& (255 : Int32)) = (27 : Int32) → Pl PRG n d 12 86 [(0, .ref 12), (3, .int x3), (4, .int x4), (5, .int x5), (6, .int x6), (7, .int ((σ.1 8 x6.toNatClampNeg) &&& (255 : Int32))), (8, .int ((σ.1 8 x6.toNatClampNeg) >>> ((8 : Int32) &&& 31)))] [] σ Q) ∧ (¬ ((σ.1 8 x6.toNatClampNeg) &&& (255 : Int32)) = (27 : Int32) → ((x3 < 0 → Pl PRG n d 12 167 [] [] σ Q) ∧ (¬ x3 < 0 → (((1 : Int32) ≤ x3 → Pl PRG n d 12 169 [(0, .ref 12), (3, .int x3), (4, .int x4), (5, .int x5), (6, .int x6), (7, .int ((σ.1 8 x6.toNatClampNeg) &&& (255 : Int32)))] [] σ Q) ∧ (¬ (1 : Int32) ≤ x3 → ((((σ.1 8 x6.toNatClampNeg) &&& (255 : Int32)) = (25 : Int32) → Pl PRG n d 12 169 [(0, .ref 12), (3, .int x3), (4, .int x4), (5, .int x5), (6, .int x6), (7, .int ((σ.1 8 x6.toNatClampNeg) &&& (255 : Int32)))] [] σ Q) ∧ (¬ ((σ.1 8 x6.toNatClampNeg) &&& (255 : Int32)) = (25 : Int32) → Pl PRG n d 12 167 [] [] σ Q))))))))))))))) : Pl PRG (n + 1) d 12 35 [(0, .ref 12), (3, .int x3), (4, .int x4), (5, .int x5), (6, .int x6)] [] σ Q := by
  have hM : PRG[12]? = some M_12 := rfl
  refine Pl.br1 (c := x5 ≤ x6) (a := 506) (b := 42) (ls' := [(0, .ref 12), (3, .int x3), (4, .int x4), (5, .int x5), (6, .int x6)]) (st' := []) (σ' := σ) hM 2 rfl (fun c => ?_) (fun c => ?_)
  · replace h := h.1 c
    refine Pl.br (c := x3 < 0) (a := 519) (b := 510) (ls' := [(0, .ref 12), (3, .int x3), (4, .int x4), (5, .int x5), (6, .int x6)]) (st' := []) (σ' := σ) hM 2 rfl (fun c => ?_) (fun c => ?_)
    · replace h := h.1 c
      exact Pl.live (l' := []) hM lv_12 ⟨show ndL _ from (by decide : List.Nodup ([0, 3, 4, 5, 6] : List Nat)), show ndL _ from (by decide : List.Nodup ([] : List Nat)), by rw [lva_12_519]; exact fun _ h => absurd h List.not_mem_nil⟩ h
    · replace h := h.2 c
      refine Pl.seg (pc' := 515) (ls' := [(0, .ref 12), (3, .int x3), (4, .int x4), (5, .int x5), (6, .int x6)]) (st' := [.int x3, .ref 14]) (σ' := σ) hM 3 rfl ?_
      refine Pl.weak (Pl.iald hM rfl rfl (fun hi => ?_))
      replace h := h hi
      refine Pl.br (c := (σ.1 14 x3.toNatClampNeg) = 0) (a := 523) (b := 519) (ls' := [(0, .ref 12), (3, .int x3), (4, .int x4), (5, .int x5), (6, .int x6)]) (st' := []) (σ' := σ) hM 1 rfl (fun c => ?_) (fun c => ?_)
      · replace h := h.1 c
        refine Pl.seg (pc' := 524) (ls' := [(0, .ref 12), (3, .int x3), (4, .int x4), (5, .int x5), (6, .int x6)]) (st' := [.int (0 : Int32)]) (σ' := σ) hM 1 rfl ?_
        refine Pl.weak (Pl.ret hM rfl rfl h)
      · replace h := h.2 c
        exact Pl.live (l' := []) hM lv_12 ⟨show ndL _ from (by decide : List.Nodup ([0, 3, 4, 5, 6] : List Nat)), show ndL _ from (by decide : List.Nodup ([] : List Nat)), by rw [lva_12_519]; exact fun _ h => absurd h List.not_mem_nil⟩ h
  · replace h := h.2 c
    refine Pl.seg (pc' := 51) (ls' := [(0, .ref 12), (3, .int x3), (4, .int x4), (5, .int x5), (6, .int x6)]) (st' := [.int x6, .ref 8]) (σ' := σ) hM 4 rfl ?_
    refine Pl.weak (Pl.iald hM rfl rfl (fun hi => ?_))
    replace h := h hi
    refine Pl.seg (pc' := 67) (ls' := [(7, .int ((σ.1 8 x6.toNatClampNeg) &&& (255 : Int32))), (0, .ref 12), (3, .int x3), (4, .int x4), (5, .int x5), (6, .int x6)]) (st' := [.int x6, .ref 8]) (σ' := σ) hM 7 rfl ?_
    refine Pl.weak (Pl.iald hM rfl rfl (fun hi => ?_))
    replace h := h hi
    refine Pl.br (c := ((σ.1 8 x6.toNatClampNeg) &&& (255 : Int32)) = (3 : Int32)) (a := 86) (b := 79) (ls' := [(8, .int ((σ.1 8 x6.toNatClampNeg) >>> ((8 : Int32) &&& 31))), (7, .int ((σ.1 8 x6.toNatClampNeg) &&& (255 : Int32))), (0, .ref 12), (3, .int x3), (4, .int x4), (5, .int x5), (6, .int x6)]) (st' := []) (σ' := σ) hM 6 rfl (fun c => ?_) (fun c => ?_)
    · replace h := h.1 c
      exact Pl.live (l' := [(0, .ref 12), (3, .int x3), (4, .int x4), (5, .int x5), (6, .int x6), (7, .int ((σ.1 8 x6.toNatClampNeg) &&& (255 : Int32))), (8, .int ((σ.1 8 x6.toNatClampNeg) >>> ((8 : Int32) &&& 31)))]) hM lv_12 ⟨show ndL _ from (by decide : List.Nodup ([8, 7, 0, 3, 4, 5, 6] : List Nat)), show ndL _ from (by decide : List.Nodup ([0, 3, 4, 5, 6, 7, 8] : List Nat)), by rw [lva_12_86]; exact List.forall_mem_cons.mpr ⟨rfl, List.forall_mem_cons.mpr ⟨rfl, List.forall_mem_cons.mpr ⟨rfl, List.forall_mem_cons.mpr ⟨rfl, List.forall_mem_cons.mpr ⟨rfl, List.forall_mem_cons.mpr ⟨rfl, List.forall_mem_cons.mpr ⟨rfl, fun _ h => absurd h List.not_mem_nil⟩⟩⟩⟩⟩⟩⟩⟩ h
    · replace h := h.2 c
      refine Pl.brN (c := ((σ.1 8 x6.toNatClampNeg) &&& (255 : Int32)) = (27 : Int32)) (a := 151) (b := 86) (ls' := [(8, .int ((σ.1 8 x6.toNatClampNeg) >>> ((8 : Int32) &&& 31))), (7, .int ((σ.1 8 x6.toNatClampNeg) &&& (255 : Int32))), (0, .ref 12), (3, .int x3), (4, .int x4), (5, .int x5), (6, .int x6)]) (st' := []) (σ' := σ) hM 3 rfl (fun c => ?_) (fun c => ?_)
      · replace h := h.2 c
        refine Pl.br (c := x3 < 0) (a := 167) (b := 155) (ls' := [(8, .int ((σ.1 8 x6.toNatClampNeg) >>> ((8 : Int32) &&& 31))), (7, .int ((σ.1 8 x6.toNatClampNeg) &&& (255 : Int32))), (0, .ref 12), (3, .int x3), (4, .int x4), (5, .int x5), (6, .int x6)]) (st' := []) (σ' := σ) hM 2 rfl (fun c => ?_) (fun c => ?_)
        · replace h := h.1 c
          exact Pl.live (l' := []) hM lv_12 ⟨show ndL _ from (by decide : List.Nodup ([8, 7, 0, 3, 4, 5, 6] : List Nat)), show ndL _ from (by decide : List.Nodup ([] : List Nat)), by rw [lva_12_167]; exact fun _ h => absurd h List.not_mem_nil⟩ h
        · replace h := h.2 c
          refine Pl.br (c := (1 : Int32) ≤ x3) (a := 169) (b := 160) (ls' := [(8, .int ((σ.1 8 x6.toNatClampNeg) >>> ((8 : Int32) &&& 31))), (7, .int ((σ.1 8 x6.toNatClampNeg) &&& (255 : Int32))), (0, .ref 12), (3, .int x3), (4, .int x4), (5, .int x5), (6, .int x6)]) (st' := []) (σ' := σ) hM 3 rfl (fun c => ?_) (fun c => ?_)
          · replace h := h.1 c
            exact Pl.live (l' := [(0, .ref 12), (3, .int x3), (4, .int x4), (5, .int x5), (6, .int x6), (7, .int ((σ.1 8 x6.toNatClampNeg) &&& (255 : Int32)))]) hM lv_12 ⟨show ndL _ from (by decide : List.Nodup ([8, 7, 0, 3, 4, 5, 6] : List Nat)), show ndL _ from (by decide : List.Nodup ([0, 3, 4, 5, 6, 7] : List Nat)), by rw [lva_12_169]; exact List.forall_mem_cons.mpr ⟨rfl, List.forall_mem_cons.mpr ⟨rfl, List.forall_mem_cons.mpr ⟨rfl, List.forall_mem_cons.mpr ⟨rfl, List.forall_mem_cons.mpr ⟨rfl, List.forall_mem_cons.mpr ⟨rfl, fun _ h => absurd h List.not_mem_nil⟩⟩⟩⟩⟩⟩⟩ h
          · replace h := h.2 c
            refine Pl.br (c := ((σ.1 8 x6.toNatClampNeg) &&& (255 : Int32)) = (25 : Int32)) (a := 169) (b := 167) (ls' := [(8, .int ((σ.1 8 x6.toNatClampNeg) >>> ((8 : Int32) &&& 31))), (7, .int ((σ.1 8 x6.toNatClampNeg) &&& (255 : Int32))), (0, .ref 12), (3, .int x3), (4, .int x4), (5, .int x5), (6, .int x6)]) (st' := []) (σ' := σ) hM 3 rfl (fun c => ?_) (fun c => ?_)
            · replace h := h.1 c
              exact Pl.live (l' := [(0, .ref 12), (3, .int x3), (4, .int x4), (5, .int x5), (6, .int x6), (7, .int ((σ.1 8 x6.toNatClampNeg) &&& (255 : Int32)))]) hM lv_12 ⟨show ndL _ from (by decide : List.Nodup ([8, 7, 0, 3, 4, 5, 6] : List Nat)), show ndL _ from (by decide : List.Nodup ([0, 3, 4, 5, 6, 7] : List Nat)), by rw [lva_12_169]; exact List.forall_mem_cons.mpr ⟨rfl, List.forall_mem_cons.mpr ⟨rfl, List.forall_mem_cons.mpr ⟨rfl, List.forall_mem_cons.mpr ⟨rfl, List.forall_mem_cons.mpr ⟨rfl, List.forall_mem_cons.mpr ⟨rfl, fun _ h => absurd h List.not_mem_nil⟩⟩⟩⟩⟩⟩⟩ h
            · replace h := h.2 c
              exact Pl.live (l' := []) hM lv_12 ⟨show ndL _ from (by decide : List.Nodup ([8, 7, 0, 3, 4, 5, 6] : List Nat)), show ndL _ from (by decide : List.Nodup ([] : List Nat)), by rw [lva_12_167]; exact fun _ h => absurd h List.not_mem_nil⟩ h
      · replace h := h.1 c
        exact Pl.live (l' := [(0, .ref 12), (3, .int x3), (4, .int x4), (5, .int x5), (6, .int x6), (7, .int ((σ.1 8 x6.toNatClampNeg) &&& (255 : Int32))), (8, .int ((σ.1 8 x6.toNatClampNeg) >>> ((8 : Int32) &&& 31)))]) hM lv_12 ⟨show ndL _ from (by decide : List.Nodup ([8, 7, 0, 3, 4, 5, 6] : List Nat)), show ndL _ from (by decide : List.Nodup ([0, 3, 4, 5, 6, 7, 8] : List Nat)), by rw [lva_12_86]; exact List.forall_mem_cons.mpr ⟨rfl, List.forall_mem_cons.mpr ⟨rfl, List.forall_mem_cons.mpr ⟨rfl, List.forall_mem_cons.mpr ⟨rfl, List.forall_mem_cons.mpr ⟨rfl, List.forall_mem_cons.mpr ⟨rfl, List.forall_mem_cons.mpr ⟨rfl, fun _ h => absurd h List.not_mem_nil⟩⟩⟩⟩⟩⟩⟩⟩ h
set_option maxRecDepth 100000 in
theorem p_12_519 {n d : Nat} {Q : Option Value → Sg → Prop} (σ : Sg) (h : Q (some (.int (1 : Int32))) σ) : Pl PRG (n + 1) d 12 519 [] [] σ Q := by
  have hM : PRG[12]? = some M_12 := rfl
  refine Pl.sg1 (pc' := 524) (ls' := []) (st' := [.int (1 : Int32)]) (σ' := σ) hM 1 rfl ?_
  refine Pl.weak (Pl.ret hM rfl rfl h)
set_option maxRecDepth 100000 in
theorem p_12_86 {n d : Nat} {Q : Option Value → Sg → Prop} (σ : Sg) (x3 x4 x5 x6 x7 x8 : Int32) (h : (((64 : Int32) ≤ (x3 + (1 : Int32)) → Pl PRG n d 12 119 [] [] σ Q) ∧ (¬ (64 : Int32) ≤ (x3 + (1 : Int32)) → ((x8 < 0 → Pl PRG n d 12 119 [] [] σ Q) ∧ (¬ x8 < 0 → ((x7 = (27 : Int32) → ((x8 < (14 : Int32) → Pl PRG n d 12 121 [(0, .ref 12), (3, .int x3), (4, .int x4), (5, .int x5), (6, .int x6), (7, .int x7), (8, .int x8)] [] σ Q) ∧ (¬ x8 < (14 : Int32) → Pl PRG n d 12 119 [] [] σ Q))) ∧ (¬ x7 = (27 : Int32) → Pl PRG n d 12 121 [(0, .ref 12), (3, .int x3), (4, .int x4), (5, .int x5), (6, .int x6), (7, .int x7), (8, .int x8)] [] σ Q))))))) : Pl PRG (n + 1) d 12 86 [(0, .ref 12), (3, .int x3), (4, .int x4), (5, .int x5), (6, .int x6), (7, .int x7), (8, .int x8)] [] σ Q := by
  have hM : PRG[12]? = some M_12 := rfl
  refine Pl.br1 (c := (64 : Int32) ≤ (x3 + (1 : Int32))) (a := 119) (b := 97) (ls' := [(0, .ref 12), (3, .int x3), (4, .int x4), (5, .int x5), (6, .int x6), (7, .int x7), (8, .int x8)]) (st' := []) (σ' := σ) hM 6 rfl (fun c => ?_) (fun c => ?_)
  · replace h := h.1 c
    exact Pl.live (l' := []) hM lv_12 ⟨show ndL _ from (by decide : List.Nodup ([0, 3, 4, 5, 6, 7, 8] : List Nat)), show ndL _ from (by decide : List.Nodup ([] : List Nat)), by rw [lva_12_119]; exact fun _ h => absurd h List.not_mem_nil⟩ h
  · replace h := h.2 c
    refine Pl.br (c := x8 < 0) (a := 119) (b := 102) (ls' := [(0, .ref 12), (3, .int x3), (4, .int x4), (5, .int x5), (6, .int x6), (7, .int x7), (8, .int x8)]) (st' := []) (σ' := σ) hM 2 rfl (fun c => ?_) (fun c => ?_)
    · replace h := h.1 c
      exact Pl.live (l' := []) hM lv_12 ⟨show ndL _ from (by decide : List.Nodup ([0, 3, 4, 5, 6, 7, 8] : List Nat)), show ndL _ from (by decide : List.Nodup ([] : List Nat)), by rw [lva_12_119]; exact fun _ h => absurd h List.not_mem_nil⟩ h
    · replace h := h.2 c
      refine Pl.brN (c := x7 = (27 : Int32)) (a := 121) (b := 109) (ls' := [(0, .ref 12), (3, .int x3), (4, .int x4), (5, .int x5), (6, .int x6), (7, .int x7), (8, .int x8)]) (st' := []) (σ' := σ) hM 3 rfl (fun c => ?_) (fun c => ?_)
      · replace h := h.2 c
        exact Pl.live (l' := [(0, .ref 12), (3, .int x3), (4, .int x4), (5, .int x5), (6, .int x6), (7, .int x7), (8, .int x8)]) hM lv_12 ⟨show ndL _ from (by decide : List.Nodup ([0, 3, 4, 5, 6, 7, 8] : List Nat)), show ndL _ from (by decide : List.Nodup ([0, 3, 4, 5, 6, 7, 8] : List Nat)), by rw [lva_12_121]; exact List.forall_mem_cons.mpr ⟨rfl, List.forall_mem_cons.mpr ⟨rfl, List.forall_mem_cons.mpr ⟨rfl, List.forall_mem_cons.mpr ⟨rfl, List.forall_mem_cons.mpr ⟨rfl, List.forall_mem_cons.mpr ⟨rfl, List.forall_mem_cons.mpr ⟨rfl, fun _ h => absurd h List.not_mem_nil⟩⟩⟩⟩⟩⟩⟩⟩ h
      · replace h := h.1 c
        refine Pl.br (c := x8 < (14 : Int32)) (a := 121) (b := 119) (ls' := [(0, .ref 12), (3, .int x3), (4, .int x4), (5, .int x5), (6, .int x6), (7, .int x7), (8, .int x8)]) (st' := []) (σ' := σ) hM 5 rfl (fun c => ?_) (fun c => ?_)
        · replace h := h.1 c
          exact Pl.live (l' := [(0, .ref 12), (3, .int x3), (4, .int x4), (5, .int x5), (6, .int x6), (7, .int x7), (8, .int x8)]) hM lv_12 ⟨show ndL _ from (by decide : List.Nodup ([0, 3, 4, 5, 6, 7, 8] : List Nat)), show ndL _ from (by decide : List.Nodup ([0, 3, 4, 5, 6, 7, 8] : List Nat)), by rw [lva_12_121]; exact List.forall_mem_cons.mpr ⟨rfl, List.forall_mem_cons.mpr ⟨rfl, List.forall_mem_cons.mpr ⟨rfl, List.forall_mem_cons.mpr ⟨rfl, List.forall_mem_cons.mpr ⟨rfl, List.forall_mem_cons.mpr ⟨rfl, List.forall_mem_cons.mpr ⟨rfl, fun _ h => absurd h List.not_mem_nil⟩⟩⟩⟩⟩⟩⟩⟩ h
        · replace h := h.2 c
          exact Pl.live (l' := []) hM lv_12 ⟨show ndL _ from (by decide : List.Nodup ([0, 3, 4, 5, 6, 7, 8] : List Nat)), show ndL _ from (by decide : List.Nodup ([] : List Nat)), by rw [lva_12_119]; exact fun _ h => absurd h List.not_mem_nil⟩ h
set_option maxRecDepth 100000 in
theorem p_12_167 {n d : Nat} {Q : Option Value → Sg → Prop} (σ : Sg) (h : Q (some (.int (0 : Int32))) σ) : Pl PRG (n + 1) d 12 167 [] [] σ Q := by
  have hM : PRG[12]? = some M_12 := rfl
  refine Pl.sg1 (pc' := 168) (ls' := []) (st' := [.int (0 : Int32)]) (σ' := σ) hM 0 rfl ?_
  refine Pl.weak (Pl.ret hM rfl rfl h)
set_option maxRecDepth 100000 in
theorem p_12_169 {n d : Nat} {Q : Option Value → Sg → Prop} (σ : Sg) (x3 x4 x5 x6 x7 : Int32) (h : (inR x3 64 = true → ((x7 = (25 : Int32) → (inR (x3 - (0 : Int32)) 64 = true → ((x7.toInt < 5 ∨ 25 < x7.toInt → Pl PRG n d 12 423 [(0, .ref 12), (3, .int (x3 - (0 : Int32))), (4, .int x4), (5, .int x5), (6, .int x6), (7, .int x7), (9, .int (σ.1 14 x3.toNatClampNeg)), (10, .int (σ.1 14 (x3 - (0 : Int32)).toNatClampNeg))] [] σ Q) ∧ (x7.toInt = 5 → (inR (x3 - (0 : Int32)) 64 = true → Pl PRG n d 12 500 [(0, .ref 12), (3, .int (x3 - (0 : Int32))), (4, .int x4), (5, .int x5), (6, .int x6)] [] (s1 σ 14 (x3 - (0 : Int32)).toNatClampNeg ((σ.1 14 (x3 - (0 : Int32)).toNatClampNeg) + (σ.1 14 x3.toNatClampNeg))) Q)) ∧ (x7.toInt = 6 → (inR (x3 - (0 : Int32)) 64 = true → Pl PRG n d 12 500 [(0, .ref 12), (3, .int (x3 - (0 : Int32))), (4, .int x4), (5, .int x5), (6, .int x6)] [] (s1 σ 14 (x3 - (0 : Int32)).toNatClampNeg ((σ.1 14 (x3 - (0 : Int32)).toNatClampNeg) - (σ.1 14 x3.toNatClampNeg))) Q)) ∧ (x7.toInt = 7 → (inR (x3 - (0 : Int32)) 64 = true → Pl PRG n d 12 500 [(0, .ref 12), (3, .int (x3 - (0 : Int32))), (4, .int x4), (5, .int x5), (6, .int x6)] [] (s1 σ 14 (x3 - (0 : Int32)).toNatClampNeg ((σ.1 14 (x3 - (0 : Int32)).toNatClampNeg) * (σ.1 14 x3.toNatClampNeg))) Q)) ∧ (x7.toInt = 8 → ((x4 = 0 → (((σ.1 14 x3.toNatClampNeg) = 0 → Pl PRG n d 12 352 [(0, .ref 12), (3, .int (x3 - (0 : Int32))), (5, .int x5), (6, .int x6), (9, .int (σ.1 14 x3.toNatClampNeg)), (10, .int (σ.1 14 (x3 - (0 : Int32)).toNatClampNeg))] [] σ Q) ∧ (¬ (σ.1 14 x3.toNatClampNeg) = 0 → (((σ.1 14 x3.toNatClampNeg) = 0 → (inR (x3 - (0 : Int32)) 64 = true → Pl PRG n d 12 500 [(0, .ref 12), (3, .int (x3 - (0 : Int32))), (4, .int (0 : Int32)), (5, .int x5), (6, .int x6)] [] (s1 σ 14 (x3 - (0 : Int32)).toNatClampNeg (0 : Int32)) Q)) ∧ (¬ (σ.1 14 x3.toNatClampNeg) = 0 → (¬ (σ.1 14 x3.toNatClampNeg) = 0 → (inR (x3 - (0 : Int32)) 64 = true → Pl PRG n d 12 500 [(0, .ref 12), (3, .int (x3 - (0 : Int32))), (4, .int (0 : Int32)), (5, .int x5), (6, .int x6)] [] (s1 σ 14 (x3 - (0 : Int32)).toNatClampNeg ((σ.1 14 (x3 - (0 : Int32)).toNatClampNeg) / (σ.1 14 x3.toNatClampNeg))) Q))))))) ∧ (¬ x4 = 0 → Pl PRG n d 12 352 [(0, .ref 12), (3, .int (x3 - (0 : Int32))), (5, .int x5), (6, .int x6), (9, .int (σ.1 14 x3.toNatClampNeg)), (10, .int (σ.1 14 (x3 - (0 : Int32)).toNatClampNeg))] [] σ Q))) ∧ (x7.toInt = 9 → Pl PRG n d 12 423 [(0, .ref 12), (3, .int (x3 - (0 : Int32))), (4, .int x4), (5, .int x5), (6, .int x6), (7, .int x7), (9, .int (σ.1 14 x3.toNatClampNeg)), (10, .int (σ.1 14 (x3 - (0 : Int32)).toNatClampNeg))] [] σ Q) ∧ (x7.toInt = 10 → Pl PRG n d 12 423 [(0, .ref 12), (3, .int (x3 - (0 : Int32))), (4, .int x4), (5, .int x5), (6, .int x6), (7, .int x7), (9, .int (σ.1 14 x3.toNatClampNeg)), (10, .int (σ.1 14 (x3 - (0 : Int32)).toNatClampNeg))] [] σ Q) ∧ (x7.toInt = 11 → Pl PRG n d 12 423 [(0, .ref 12), (3, .int (x3 - (0 : Int32))), (4, .int x4), (5, .int x5), (6, .int x6), (7, .int x7), (9, .int (σ.1 14 x3.toNatClampNeg)), (10, .int (σ.1 14 (x3 - (0 : Int32)).toNatClampNeg))] [] σ Q) ∧ (x7.toInt = 12 → Pl PRG n d 12 423 [(0, .ref 12), (3, .int (x3 - (0 : Int32))), (4, .int x4), (5, .int x5), (6, .int x6), (7, .int x7), (9, .int (σ.1 14 x3.toNatClampNeg)), (10, .int (σ.1 14 (x3 - (0 : Int32)).toNatClampNeg))] [] σ Q) ∧ (x7.toInt = 13 → Pl PRG n d 12 423 [(0, .ref 12), (3, .int (x3 - (0 : Int32))), (4, .int x4), (5, .int x5), (6, .int x6), (7, .int x7), (9, .int (σ.1 14 x3.toNatClampNeg)), (10, .int (σ.1 14 (x3 - (0 : Int32)).toNatClampNeg))] [] σ Q) ∧ (x7.toInt = 14 → Pl PRG n d 12 423 [(0, .ref 12), (3, .int (x3 - (0 : Int32))), (4, .int x4), (5, .int x5), (6, .int x6), (7, .int x7), (9, .int (σ.1 14 x3.toNatClampNeg)), (10, .int (σ.1 14 (x3 - (0 : Int32)).toNatClampNeg))] [] σ Q) ∧ (x7.toInt = 15 → Pl PRG n d 12 423 [(0, .ref 12), (3, .int (x3 - (0 : Int32))), (4, .int x4), (5, .int x5), (6, .int x6), (7, .int x7), (9, .int (σ.1 14 x3.toNatClampNeg)), (10, .int (σ.1 14 (x3 - (0 : Int32)).toNatClampNeg))] [] σ Q) ∧ (x7.toInt = 16 → Pl PRG n d 12 423 [(0, .ref 12), (3, .int (x3 - (0 : Int32))), (4, .int x4), (5, .int x5), (6, .int x6), (7, .int x7), (9, .int (σ.1 14 x3.toNatClampNeg)), (10, .int (σ.1 14 (x3 - (0 : Int32)).toNatClampNeg))] [] σ Q) ∧ (x7.toInt = 17 → Pl PRG n d 12 423 [(0, .ref 12), (3, .int (x3 - (0 : Int32))), (4, .int x4), (5, .int x5), (6, .int x6), (7, .int x7), (9, .int (σ.1 14 x3.toNatClampNeg)), (10, .int (σ.1 14 (x3 - (0 : Int32)).toNatClampNeg))] [] σ Q) ∧ (x7.toInt = 18 → Pl PRG n d 12 423 [(0, .ref 12), (3, .int (x3 - (0 : Int32))), (4, .int x4), (5, .int x5), (6, .int x6), (7, .int x7), (9, .int (σ.1 14 x3.toNatClampNeg)), (10, .int (σ.1 14 (x3 - (0 : Int32)).toNatClampNeg))] [] σ Q) ∧ (x7.toInt = 19 → Pl PRG n d 12 423 [(0, .ref 12), (3, .int (x3 - (0 : Int32))), (4, .int x4), (5, .int x5), (6, .int x6), (7, .int x7), (9, .int (σ.1 14 x3.toNatClampNeg)), (10, .int (σ.1 14 (x3 - (0 : Int32)).toNatClampNeg))] [] σ Q) ∧ (x7.toInt = 20 → Pl PRG n d 12 423 [(0, .ref 12), (3, .int (x3 - (0 : Int32))), (4, .int x4), (5, .int x5), (6, .int x6), (7, .int x7), (9, .int (σ.1 14 x3.toNatClampNeg)), (10, .int (σ.1 14 (x3 - (0 : Int32)).toNatClampNeg))] [] σ Q) ∧ (x7.toInt = 21 → Pl PRG n d 12 423 [(0, .ref 12), (3, .int (x3 - (0 : Int32))), (4, .int x4), (5, .int x5), (6, .int x6), (7, .int x7), (9, .int (σ.1 14 x3.toNatClampNeg)), (10, .int (σ.1 14 (x3 - (0 : Int32)).toNatClampNeg))] [] σ Q) ∧ (x7.toInt = 22 → Pl PRG n d 12 423 [(0, .ref 12), (3, .int (x3 - (0 : Int32))), (4, .int x4), (5, .int x5), (6, .int x6), (7, .int x7), (9, .int (σ.1 14 x3.toNatClampNeg)), (10, .int (σ.1 14 (x3 - (0 : Int32)).toNatClampNeg))] [] σ Q) ∧ (x7.toInt = 23 → (inR (x3 - (0 : Int32)) 64 = true → Pl PRG n d 12 500 [(0, .ref 12), (3, .int (x3 - (0 : Int32))), (4, .int x4), (5, .int x5), (6, .int x6)] [] (s1 σ 14 (x3 - (0 : Int32)).toNatClampNeg ((σ.1 14 (x3 - (0 : Int32)).toNatClampNeg) ||| (σ.1 14 x3.toNatClampNeg))) Q)) ∧ (x7.toInt = 24 → (inR (x3 - (0 : Int32)) 64 = true → Pl PRG n d 12 500 [(0, .ref 12), (3, .int (x3 - (0 : Int32))), (4, .int x4), (5, .int x5), (6, .int x6)] [] (s1 σ 14 (x3 - (0 : Int32)).toNatClampNeg ((σ.1 14 (x3 - (0 : Int32)).toNatClampNeg) &&& (σ.1 14 x3.toNatClampNeg))) Q)) ∧ (x7.toInt = 25 → (inR (x3 - (0 : Int32)) 64 = true → Pl PRG n d 12 500 [(0, .ref 12), (3, .int (x3 - (0 : Int32))), (4, .int x4), (5, .int x5), (6, .int x6)] [] (s1 σ 14 (x3 - (0 : Int32)).toNatClampNeg ((1 : Int32) - (σ.1 14 x3.toNatClampNeg))) Q))))) ∧ (¬ x7 = (25 : Int32) → (inR (x3 - (1 : Int32)) 64 = true → ((x7.toInt < 5 ∨ 25 < x7.toInt → Pl PRG n d 12 423 [(0, .ref 12), (3, .int (x3 - (1 : Int32))), (4, .int x4), (5, .int x5), (6, .int x6), (7, .int x7), (9, .int (σ.1 14 x3.toNatClampNeg)), (10, .int (σ.1 14 (x3 - (1 : Int32)).toNatClampNeg))] [] σ Q) ∧ (x7.toInt = 5 → (inR (x3 - (1 : Int32)) 64 = true → Pl PRG n d 12 500 [(0, .ref 12), (3, .int (x3 - (1 : Int32))), (4, .int x4), (5, .int x5), (6, .int x6)] [] (s1 σ 14 (x3 - (1 : Int32)).toNatClampNeg ((σ.1 14 (x3 - (1 : Int32)).toNatClampNeg) + (σ.1 14 x3.toNatClampNeg))) Q)) ∧ (x7.toInt = 6 → (inR (x3 - (1 : Int32)) 64 = true → Pl PRG n d 12 500 [(0, .ref 12), (3, .int (x3 - (1 : Int32))), (4, .int x4), (5, .int x5), (6, .int x6)] [] (s1 σ 14 (x3 - (1 : Int32)).toNatClampNeg ((σ.1 14 (x3 - (1 : Int32)).toNatClampNeg) - (σ.1 14 x3.toNatClampNeg))) Q)) ∧ (x7.toInt = 7 → (inR (x3 - (1 : Int32)) 64 = true → Pl PRG n d 12 500 [(0, .ref 12), (3, .int (x3 - (1 : Int32))), (4, .int x4), (5, .int x5), (6, .int x6)] [] (s1 σ 14 (x3 - (1 : Int32)).toNatClampNeg ((σ.1 14 (x3 - (1 : Int32)).toNatClampNeg) * (σ.1 14 x3.toNatClampNeg))) Q)) ∧ (x7.toInt = 8 → ((x4 = 0 → (((σ.1 14 x3.toNatClampNeg) = 0 → Pl PRG n d 12 352 [(0, .ref 12), (3, .int (x3 - (1 : Int32))), (5, .int x5), (6, .int x6), (9, .int (σ.1 14 x3.toNatClampNeg)), (10, .int (σ.1 14 (x3 - (1 : Int32)).toNatClampNeg))] [] σ Q) ∧ (¬ (σ.1 14 x3.toNatClampNeg) = 0 → (((σ.1 14 x3.toNatClampNeg) = 0 → (inR (x3 - (1 : Int32)) 64 = true → Pl PRG n d 12 500 [(0, .ref 12), (3, .int (x3 - (1 : Int32))), (4, .int (0 : Int32)), (5, .int x5), (6, .int x6)] [] (s1 σ 14 (x3 - (1 : Int32)).toNatClampNeg (0 : Int32)) Q)) ∧ (¬ (σ.1 14 x3.toNatClampNeg) = 0 → (¬ (σ.1 14 x3.toNatClampNeg) = 0 → (inR (x3 - (1 : Int32)) 64 = true → Pl PRG n d 12 500 [(0, .ref 12), (3, .int (x3 - (1 : Int32))), (4, .int (0 : Int32)), (5, .int x5), (6, .int x6)] [] (s1 σ 14 (x3 - (1 : Int32)).toNatClampNeg ((σ.1 14 (x3 - (1 : Int32)).toNatClampNeg) / (σ.1 14 x3.toNatClampNeg))) Q))))))) ∧ (¬ x4 = 0 → Pl PRG n d 12 352 [(0, .ref 12), (3, .int (x3 - (1 : Int32))), (5, .int x5), (6, .int x6), (9, .int (σ.1 14 x3.toNatClampNeg)), (10, .int (σ.1 14 (x3 - (1 : Int32)).toNatClampNeg))] [] σ Q))) ∧ (x7.toInt = 9 → Pl PRG n d 12 423 [(0, .ref 12), (3, .int (x3 - (1 : Int32))), (4, .int x4), (5, .int x5), (6, .int x6), (7, .int x7), (9, .int (σ.1 14 x3.toNatClampNeg)), (10, .int (σ.1 14 (x3 - (1 : Int32)).toNatClampNeg))] [] σ Q) ∧ (x7.toInt = 10 → Pl PRG n d 12 423 [(0, .ref 12), (3, .int (x3 - (1 : Int32))), (4, .int x4), (5, .int x5), (6, .int x6), (7, .int x7), (9, .int (σ.1 14 x3.toNatClampNeg)), (10, .int (σ.1 14 (x3 - (1 : Int32)).toNatClampNeg))] [] σ Q) ∧ (x7.toInt = 11 → Pl PRG n d 12 423 [(0, .ref 12), (3, .int (x3 - (1 : Int32))), (4, .int x4), (5, .int x5), (6, .int x6), (7, .int x7), (9, .int (σ.1 14 x3.toNatClampNeg)), (10, .int (σ.1 14 (x3 - (1 : Int32)).toNatClampNeg))] [] σ Q) ∧ (x7.toInt = 12 → Pl PRG n d 12 423 [(0, .ref 12), (3, .int (x3 - (1 : Int32))), (4, .int x4), (5, .int x5), (6, .int x6), (7, .int x7), (9, .int (σ.1 14 x3.toNatClampNeg)), (10, .int (σ.1 14 (x3 - (1 : Int32)).toNatClampNeg))] [] σ Q) ∧ (x7.toInt = 13 → Pl PRG n d 12 423 [(0, .ref 12), (3, .int (x3 - (1 : Int32))), (4, .int x4), (5, .int x5), (6, .int x6), (7, .int x7), (9, .int (σ.1 14 x3.toNatClampNeg)), (10, .int (σ.1 14 (x3 - (1 : Int32)).toNatClampNeg))] [] σ Q) ∧ (x7.toInt = 14 → Pl PRG n d 12 423 [(0, .ref 12), (3, .int (x3 - (1 : Int32))), (4, .int x4), (5, .int x5), (6, .int x6), (7, .int x7), (9, .int (σ.1 14 x3.toNatClampNeg)), (10, .int (σ.1 14 (x3 - (1 : Int32)).toNatClampNeg))] [] σ Q) ∧ (x7.toInt = 15 → Pl PRG n d 12 423 [(0, .ref 12), (3, .int (x3 - (1 : Int32))), (4, .int x4), (5, .int x5), (6, .int x6), (7, .int x7), (9, .int (σ.1 14 x3.toNatClampNeg)), (10, .int (σ.1 14 (x3 - (1 : Int32)).toNatClampNeg))] [] σ Q) ∧ (x7.toInt = 16 → Pl PRG n d 12 423 [(0, .ref 12), (3, .int (x3 - (1 : Int32))), (4, .int x4), (5, .int x5), (6, .int x6), (7, .int x7), (9, .int (σ.1 14 x3.toNatClampNeg)), (10, .int (σ.1 14 (x3 - (1 : Int32)).toNatClampNeg))] [] σ Q) ∧ (x7.toInt = 17 → Pl PRG n d 12 423 [(0, .ref 12), (3, .int (x3 - (1 : Int32))), (4, .int x4), (5, .int x5), (6, .int x6), (7, .int x7), (9, .int (σ.1 14 x3.toNatClampNeg)), (10, .int (σ.1 14 (x3 - (1 : Int32)).toNatClampNeg))] [] σ Q) ∧ (x7.toInt = 18 → Pl PRG n d 12 423 [(0, .ref 12), (3, .int (x3 - (1 : Int32))), (4, .int x4), (5, .int x5), (6, .int x6), (7, .int x7), (9, .int (σ.1 14 x3.toNatClampNeg)), (10, .int (σ.1 14 (x3 - (1 : Int32)).toNatClampNeg))] [] σ Q) ∧ (x7.toInt = 19 → Pl PRG n d 12 423 [(0, .ref 12), (3, .int (x3 - (1 : Int32))), (4, .int x4), (5, .int x5), (6, .int x6), (7, .int x7), (9, .int (σ.1 14 x3.toNatClampNeg)), (10, .int (σ.1 14 (x3 - (1 : Int32)).toNatClampNeg))] [] σ Q) ∧ (x7.toInt = 20 → Pl PRG n d 12 423 [(0, .ref 12), (3, .int (x3 - (1 : Int32))), (4, .int x4), (5, .int x5), (6, .int x6), (7, .int x7), (9, .int (σ.1 14 x3.toNatClampNeg)), (10, .int (σ.1 14 (x3 - (1 : Int32)).toNatClampNeg))] [] σ Q) ∧ (x7.toInt = 21 → Pl PRG n d 12 423 [(0, .ref 12), (3, .int (x3 - (1 : Int32))), (4, .int x4), (5, .int x5), (6, .int x6), (7, .int x7), (9, .int (σ.1 14 x3.toNatClampNeg)), (10, .int (σ.1 14 (x3 - (1 : Int32)).toNatClampNeg))] [] σ Q) ∧ (x7.toInt = 22 → Pl PRG n d 12 423 [(0, .ref 12), (3, .int (x3 - (1 : Int32))), (4, .int x4), (5, .int x5), (6, .int x6), (7, .int x7), (9, .int (σ.1 14 x3.toNatClampNeg)), (10, .int (σ.1 14 (x3 - (1 : Int32)).toNatClampNeg))] [] σ Q) ∧ (x7.toInt = 23 → (inR (x3 - (1 : Int32)) 64 = true → Pl PRG n d 12 500 [(0, .ref 12), (3, .int (x3 - (1 : Int32))), (4, .int x4), (5, .int x5), (6, .int x6)] [] (s1 σ 14 (x3 - (1 : Int32)).toNatClampNeg ((σ.1 14 (x3 - (1 : Int32)).toNatClampNeg) ||| (σ.1 14 x3.toNatClampNeg))) Q)) ∧ (x7.toInt = 24 → (inR (x3 - (1 : Int32)) 64 = true → Pl PRG n d 12 500 [(0, .ref 12), (3, .int (x3 - (1 : Int32))), (4, .int x4), (5, .int x5), (6, .int x6)] [] (s1 σ 14 (x3 - (1 : Int32)).toNatClampNeg ((σ.1 14 (x3 - (1 : Int32)).toNatClampNeg) &&& (σ.1 14 x3.toNatClampNeg))) Q)) ∧ (x7.toInt = 25 → (inR (x3 - (1 : Int32)) 64 = true → Pl PRG n d 12 500 [(0, .ref 12), (3, .int (x3 - (1 : Int32))), (4, .int x4), (5, .int x5), (6, .int x6)] [] (s1 σ 14 (x3 - (1 : Int32)).toNatClampNeg ((1 : Int32) - (σ.1 14 x3.toNatClampNeg))) Q)))))))) : Pl PRG (n + 1) d 12 169 [(0, .ref 12), (3, .int x3), (4, .int x4), (5, .int x5), (6, .int x6), (7, .int x7)] [] σ Q := by
  have hM : PRG[12]? = some M_12 := rfl
  refine Pl.sg1 (pc' := 174) (ls' := [(0, .ref 12), (3, .int x3), (4, .int x4), (5, .int x5), (6, .int x6), (7, .int x7)]) (st' := [.int x3, .ref 14]) (σ' := σ) hM 2 rfl ?_
  refine Pl.weak (Pl.iald hM rfl rfl (fun hi => ?_))
  replace h := h hi
  refine Pl.brN (c := x7 = (25 : Int32)) (a := 189) (b := 185) (ls' := [(9, .int (σ.1 14 x3.toNatClampNeg)), (0, .ref 12), (3, .int x3), (4, .int x4), (5, .int x5), (6, .int x6), (7, .int x7)]) (st' := [.int x3]) (σ' := σ) hM 5 rfl (fun c => ?_) (fun c => ?_)
  · replace h := h.2 c
    refine Pl.seg (pc' := 197) (ls' := [(3, .int (x3 - (1 : Int32))), (9, .int (σ.1 14 x3.toNatClampNeg)), (0, .ref 12), (4, .int x4), (5, .int x5), (6, .int x6), (7, .int x7)]) (st' := [.int (x3 - (1 : Int32)), .ref 14]) (σ' := σ) hM 6 rfl ?_
    refine Pl.weak (Pl.iald hM rfl rfl (fun hi => ?_))
    replace h := h hi
    refine Pl.seg (pc' := 202) (ls' := [(10, .int (σ.1 14 (x3 - (1 : Int32)).toNatClampNeg)), (3, .int (x3 - (1 : Int32))), (9, .int (σ.1 14 x3.toNatClampNeg)), (0, .ref 12), (4, .int x4), (5, .int x5), (6, .int x6), (7, .int x7)]) (st' := [.int x7]) (σ' := σ) hM 2 rfl ?_
    refine Pl.weak (Pl.tsw hM rfl (fun c => ?_) (fun j o c ho => ?_))
    · replace h := h.1 c
      show Pl PRG n d 12 423 [(10, .int (σ.1 14 (x3 - (1 : Int32)).toNatClampNeg)), (3, .int (x3 - (1 : Int32))), (9, .int (σ.1 14 x3.toNatClampNeg)), (0, .ref 12), (4, .int x4), (5, .int x5), (6, .int x6), (7, .int x7)] [] σ Q
      exact Pl.live (l' := [(0, .ref 12), (3, .int (x3 - (1 : Int32))), (4, .int x4), (5, .int x5), (6, .int x6), (7, .int x7), (9, .int (σ.1 14 x3.toNatClampNeg)), (10, .int (σ.1 14 (x3 - (1 : Int32)).toNatClampNeg))]) hM lv_12 ⟨show ndL _ from (by decide : List.Nodup ([10, 3, 9, 0, 4, 5, 6, 7] : List Nat)), show ndL _ from (by decide : List.Nodup ([0, 3, 4, 5, 6, 7, 9, 10] : List Nat)), by rw [lva_12_423]; exact List.forall_mem_cons.mpr ⟨rfl, List.forall_mem_cons.mpr ⟨rfl, List.forall_mem_cons.mpr ⟨rfl, List.forall_mem_cons.mpr ⟨rfl, List.forall_mem_cons.mpr ⟨rfl, List.forall_mem_cons.mpr ⟨rfl, List.forall_mem_cons.mpr ⟨rfl, List.forall_mem_cons.mpr ⟨rfl, fun _ h => absurd h List.not_mem_nil⟩⟩⟩⟩⟩⟩⟩⟩⟩ h
    · match j, c, ho with
      | 0, c, ho =>
        have ho : some (98 : Int) = some o := ho
        cases ho
        have c : x7.toInt = 5 := by simpa using c
        replace h := h.2.1 c
        show Pl PRG n d 12 300 [(10, .int (σ.1 14 (x3 - (1 : Int32)).toNatClampNeg)), (3, .int (x3 - (1 : Int32))), (9, .int (σ.1 14 x3.toNatClampNeg)), (0, .ref 12), (4, .int x4), (5, .int x5), (6, .int x6), (7, .int x7)] [] σ Q
        refine Pl.seg (pc' := 310) (ls' := [(10, .int (σ.1 14 (x3 - (1 : Int32)).toNatClampNeg)), (3, .int (x3 - (1 : Int32))), (9, .int (σ.1 14 x3.toNatClampNeg)), (0, .ref 12), (4, .int x4), (5, .int x5), (6, .int x6), (7, .int x7)]) (st' := [.int ((σ.1 14 (x3 - (1 : Int32)).toNatClampNeg) + (σ.1 14 x3.toNatClampNeg)), .int (x3 - (1 : Int32)), .ref 14]) (σ' := σ) hM 6 rfl ?_
        refine Pl.weak (Pl.iast hM rfl rfl (fun hi => ?_))
        replace h := h hi
        refine Pl.seg (pc' := 500) (ls' := [(10, .int (σ.1 14 (x3 - (1 : Int32)).toNatClampNeg)), (3, .int (x3 - (1 : Int32))), (9, .int (σ.1 14 x3.toNatClampNeg)), (0, .ref 12), (4, .int x4), (5, .int x5), (6, .int x6), (7, .int x7)]) (st' := []) (σ' := (s1 σ 14 (x3 - (1 : Int32)).toNatClampNeg ((σ.1 14 (x3 - (1 : Int32)).toNatClampNeg) + (σ.1 14 x3.toNatClampNeg)))) hM 1 rfl ?_
        exact Pl.live (l' := [(0, .ref 12), (3, .int (x3 - (1 : Int32))), (4, .int x4), (5, .int x5), (6, .int x6)]) hM lv_12 ⟨show ndL _ from (by decide : List.Nodup ([10, 3, 9, 0, 4, 5, 6, 7] : List Nat)), show ndL _ from (by decide : List.Nodup ([0, 3, 4, 5, 6] : List Nat)), by rw [lva_12_500]; exact List.forall_mem_cons.mpr ⟨rfl, List.forall_mem_cons.mpr ⟨rfl, List.forall_mem_cons.mpr ⟨rfl, List.forall_mem_cons.mpr ⟨rfl, List.forall_mem_cons.mpr ⟨rfl, fun _ h => absurd h List.not_mem_nil⟩⟩⟩⟩⟩⟩ h
      | 1, c, ho =>
        have ho : some (112 : Int) = some o := ho
        cases ho
        have c : x7.toInt = 6 := by simpa using c
        replace h := h.2.2.1 c
        show Pl PRG n d 12 314 [(10, .int (σ.1 14 (x3 - (1 : Int32)).toNatClampNeg)), (3, .int (x3 - (1 : Int32))), (9, .int (σ.1 14 x3.toNatClampNeg)), (0, .ref 12), (4, .int x4), (5, .int x5), (6, .int x6), (7, .int x7)] [] σ Q
        refine Pl.seg (pc' := 324) (ls' := [(10, .int (σ.1 14 (x3 - (1 : Int32)).toNatClampNeg)), (3, .int (x3 - (1 : Int32))), (9, .int (σ.1 14 x3.toNatClampNeg)), (0, .ref 12), (4, .int x4), (5, .int x5), (6, .int x6), (7, .int x7)]) (st' := [.int ((σ.1 14 (x3 - (1 : Int32)).toNatClampNeg) - (σ.1 14 x3.toNatClampNeg)), .int (x3 - (1 : Int32)), .ref 14]) (σ' := σ) hM 6 rfl ?_
        refine Pl.weak (Pl.iast hM rfl rfl (fun hi => ?_))
        replace h := h hi
        refine Pl.seg (pc' := 500) (ls' := [(10, .int (σ.1 14 (x3 - (1 : Int32)).toNatClampNeg)), (3, .int (x3 - (1 : Int32))), (9, .int (σ.1 14 x3.toNatClampNeg)), (0, .ref 12), (4, .int x4), (5, .int x5), (6, .int x6), (7, .int x7)]) (st' := []) (σ' := (s1 σ 14 (x3 - (1 : Int32)).toNatClampNeg ((σ.1 14 (x3 - (1 : Int32)).toNatClampNeg) - (σ.1 14 x3.toNatClampNeg)))) hM 1 rfl ?_
        exact Pl.live (l' := [(0, .ref 12), (3, .int (x3 - (1 : Int32))), (4, .int x4), (5, .int x5), (6, .int x6)]) hM lv_12 ⟨show ndL _ from (by decide : List.Nodup ([10, 3, 9, 0, 4, 5, 6, 7] : List Nat)), show ndL _ from (by decide : List.Nodup ([0, 3, 4, 5, 6] : List Nat)), by rw [lva_12_500]; exact List.forall_mem_cons.mpr ⟨rfl, List.forall_mem_cons.mpr ⟨rfl, List.forall_mem_cons.mpr ⟨rfl, List.forall_mem_cons.mpr ⟨rfl, List.forall_mem_cons.mpr ⟨rfl, fun _ h => absurd h List.not_mem_nil⟩⟩⟩⟩⟩⟩ h
      | 2, c, ho =>
        have ho : some (126 : Int) = some o := ho
        cases ho
        have c : x7.toInt = 7 := by simpa using c
        replace h := h.2.2.2.1 c
        show Pl PRG n d 12 328 [(10, .int (σ.1 14 (x3 - (1 : Int32)).toNatClampNeg)), (3, .int (x3 - (1 : Int32))), (9, .int (σ.1 14 x3.toNatClampNeg)), (0, .ref 12), (4, .int x4), (5, .int x5), (6, .int x6), (7, .int x7)] [] σ Q
        refine Pl.seg (pc' := 338) (ls' := [(10, .int (σ.1 14 (x3 - (1 : Int32)).toNatClampNeg)), (3, .int (x3 - (1 : Int32))), (9, .int (σ.1 14 x3.toNatClampNeg)), (0, .ref 12), (4, .int x4), (5, .int x5), (6, .int x6), (7, .int x7)]) (st' := [.int ((σ.1 14 (x3 - (1 : Int32)).toNatClampNeg) * (σ.1 14 x3.toNatClampNeg)), .int (x3 - (1 : Int32)), .ref 14]) (σ' := σ) hM 6 rfl ?_
        refine Pl.weak (Pl.iast hM rfl rfl (fun hi => ?_))
        replace h := h hi
        refine Pl.seg (pc' := 500) (ls' := [(10, .int (σ.1 14 (x3 - (1 : Int32)).toNatClampNeg)), (3, .int (x3 - (1 : Int32))), (9, .int (σ.1 14 x3.toNatClampNeg)), (0, .ref 12), (4, .int x4), (5, .int x5), (6, .int x6), (7, .int x7)]) (st' := []) (σ' := (s1 σ 14 (x3 - (1 : Int32)).toNatClampNeg ((σ.1 14 (x3 - (1 : Int32)).toNatClampNeg) * (σ.1 14 x3.toNatClampNeg)))) hM 1 rfl ?_
        exact Pl.live (l' := [(0, .ref 12), (3, .int (x3 - (1 : Int32))), (4, .int x4), (5, .int x5), (6, .int x6)]) hM lv_12 ⟨show ndL _ from (by decide : List.Nodup ([10, 3, 9, 0, 4, 5, 6, 7] : List Nat)), show ndL _ from (by decide : List.Nodup ([0, 3, 4, 5, 6] : List Nat)), by rw [lva_12_500]; exact List.forall_mem_cons.mpr ⟨rfl, List.forall_mem_cons.mpr ⟨rfl, List.forall_mem_cons.mpr ⟨rfl, List.forall_mem_cons.mpr ⟨rfl, List.forall_mem_cons.mpr ⟨rfl, fun _ h => absurd h List.not_mem_nil⟩⟩⟩⟩⟩⟩ h
      | 3, c, ho =>
        have ho : some (140 : Int) = some o := ho
        cases ho
        have c : x7.toInt = 8 := by simpa using c
        replace h := h.2.2.2.2.1 c
        show Pl PRG n d 12 342 [(10, .int (σ.1 14 (x3 - (1 : Int32)).toNatClampNeg)), (3, .int (x3 - (1 : Int32))), (9, .int (σ.1 14 x3.toNatClampNeg)), (0, .ref 12), (4, .int x4), (5, .int x5), (6, .int x6), (7, .int x7)] [] σ Q
        refine Pl.brN (c := x4 = 0) (a := 352) (b := 347) (ls' := [(10, .int (σ.1 14 (x3 - (1 : Int32)).toNatClampNeg)), (3, .int (x3 - (1 : Int32))), (9, .int (σ.1 14 x3.toNatClampNeg)), (0, .ref 12), (4, .int x4), (5, .int x5), (6, .int x6), (7, .int x7)]) (st' := []) (σ' := σ) hM 2 rfl (fun c => ?_) (fun c => ?_)
        · replace h := h.2 c
          exact Pl.live (l' := [(0, .ref 12), (3, .int (x3 - (1 : Int32))), (5, .int x5), (6, .int x6), (9, .int (σ.1 14 x3.toNatClampNeg)), (10, .int (σ.1 14 (x3 - (1 : Int32)).toNatClampNeg))]) hM lv_12 ⟨show ndL _ from (by decide : List.Nodup ([10, 3, 9, 0, 4, 5, 6, 7] : List Nat)), show ndL _ from (by decide : List.Nodup ([0, 3, 5, 6, 9, 10] : List Nat)), by rw [lva_12_352]; exact List.forall_mem_cons.mpr ⟨rfl, List.forall_mem_cons.mpr ⟨rfl, List.forall_mem_cons.mpr ⟨rfl, List.forall_mem_cons.mpr ⟨rfl, List.forall_mem_cons.mpr ⟨rfl, List.forall_mem_cons.mpr ⟨rfl, fun _ h => absurd h List.not_mem_nil⟩⟩⟩⟩⟩⟩⟩ h
        · replace h := h.1 c
          refine Pl.brN (c := (σ.1 14 x3.toNatClampNeg) = 0) (a := 356) (b := 352) (ls' := [(10, .int (σ.1 14 (x3 - (1 : Int32)).toNatClampNeg)), (3, .int (x3 - (1 : Int32))), (9, .int (σ.1 14 x3.toNatClampNeg)), (0, .ref 12), (4, .int x4), (5, .int x5), (6, .int x6), (7, .int x7)]) (st' := []) (σ' := σ) hM 2 rfl (fun c => ?_) (fun c => ?_)
          · replace h := h.2 c
            refine Pl.brN (c := (σ.1 14 x3.toNatClampNeg) = 0) (a := 373) (b := 369) (ls' := [(4, .int (0 : Int32)), (10, .int (σ.1 14 (x3 - (1 : Int32)).toNatClampNeg)), (3, .int (x3 - (1 : Int32))), (9, .int (σ.1 14 x3.toNatClampNeg)), (0, .ref 12), (5, .int x5), (6, .int x6), (7, .int x7)]) (st' := [.int (x3 - (1 : Int32)), .ref 14]) (σ' := σ) hM 7 rfl (fun c => ?_) (fun c => ?_)
            · replace h := h.2 c
              refine Pl.seg (pc' := 377) (ls' := [(4, .int (0 : Int32)), (10, .int (σ.1 14 (x3 - (1 : Int32)).toNatClampNeg)), (3, .int (x3 - (1 : Int32))), (9, .int (σ.1 14 x3.toNatClampNeg)), (0, .ref 12), (5, .int x5), (6, .int x6), (7, .int x7)]) (st' := [.int (σ.1 14 x3.toNatClampNeg), .int (σ.1 14 (x3 - (1 : Int32)).toNatClampNeg), .int (x3 - (1 : Int32)), .ref 14]) (σ' := σ) hM 2 rfl ?_
              refine Pl.weak (Pl.dv hM rfl (fun hi => ?_))
              replace h := h hi
              refine Pl.weak (Pl.iast hM rfl rfl (fun hi => ?_))
              replace h := h hi
              refine Pl.seg (pc' := 500) (ls' := [(4, .int (0 : Int32)), (10, .int (σ.1 14 (x3 - (1 : Int32)).toNatClampNeg)), (3, .int (x3 - (1 : Int32))), (9, .int (σ.1 14 x3.toNatClampNeg)), (0, .ref 12), (5, .int x5), (6, .int x6), (7, .int x7)]) (st' := []) (σ' := (s1 σ 14 (x3 - (1 : Int32)).toNatClampNeg ((σ.1 14 (x3 - (1 : Int32)).toNatClampNeg) / (σ.1 14 x3.toNatClampNeg)))) hM 1 rfl ?_
              exact Pl.live (l' := [(0, .ref 12), (3, .int (x3 - (1 : Int32))), (4, .int (0 : Int32)), (5, .int x5), (6, .int x6)]) hM lv_12 ⟨show ndL _ from (by decide : List.Nodup ([4, 10, 3, 9, 0, 5, 6, 7] : List Nat)), show ndL _ from (by decide : List.Nodup ([0, 3, 4, 5, 6] : List Nat)), by rw [lva_12_500]; exact List.forall_mem_cons.mpr ⟨rfl, List.forall_mem_cons.mpr ⟨rfl, List.forall_mem_cons.mpr ⟨rfl, List.forall_mem_cons.mpr ⟨rfl, List.forall_mem_cons.mpr ⟨rfl, fun _ h => absurd h List.not_mem_nil⟩⟩⟩⟩⟩⟩ h
            · replace h := h.1 c
              refine Pl.seg (pc' := 378) (ls' := [(4, .int (0 : Int32)), (10, .int (σ.1 14 (x3 - (1 : Int32)).toNatClampNeg)), (3, .int (x3 - (1 : Int32))), (9, .int (σ.1 14 x3.toNatClampNeg)), (0, .ref 12), (5, .int x5), (6, .int x6), (7, .int x7)]) (st' := [.int (0 : Int32), .int (x3 - (1 : Int32)), .ref 14]) (σ' := σ) hM 2 rfl ?_
              refine Pl.weak (Pl.iast hM rfl rfl (fun hi => ?_))
              replace h := h hi
              refine Pl.seg (pc' := 500) (ls' := [(4, .int (0 : Int32)), (10, .int (σ.1 14 (x3 - (1 : Int32)).toNatClampNeg)), (3, .int (x3 - (1 : Int32))), (9, .int (σ.1 14 x3.toNatClampNeg)), (0, .ref 12), (5, .int x5), (6, .int x6), (7, .int x7)]) (st' := []) (σ' := (s1 σ 14 (x3 - (1 : Int32)).toNatClampNeg (0 : Int32))) hM 1 rfl ?_
              exact Pl.live (l' := [(0, .ref 12), (3, .int (x3 - (1 : Int32))), (4, .int (0 : Int32)), (5, .int x5), (6, .int x6)]) hM lv_12 ⟨show ndL _ from (by decide : List.Nodup ([4, 10, 3, 9, 0, 5, 6, 7] : List Nat)), show ndL _ from (by decide : List.Nodup ([0, 3, 4, 5, 6] : List Nat)), by rw [lva_12_500]; exact List.forall_mem_cons.mpr ⟨rfl, List.forall_mem_cons.mpr ⟨rfl, List.forall_mem_cons.mpr ⟨rfl, List.forall_mem_cons.mpr ⟨rfl, List.forall_mem_cons.mpr ⟨rfl, fun _ h => absurd h List.not_mem_nil⟩⟩⟩⟩⟩⟩ h
          · replace h := h.1 c
            exact Pl.live (l' := [(0, .ref 12), (3, .int (x3 - (1 : Int32))), (5, .int x5), (6, .int x6), (9, .int (σ.1 14 x3.toNatClampNeg)), (10, .int (σ.1 14 (x3 - (1 : Int32)).toNatClampNeg))]) hM lv_12 ⟨show ndL _ from (by decide : List.Nodup ([10, 3, 9, 0, 4, 5, 6, 7] : List Nat)), show ndL _ from (by decide : List.Nodup ([0, 3, 5, 6, 9, 10] : List Nat)), by rw [lva_12_352]; exact List.forall_mem_cons.mpr ⟨rfl, List.forall_mem_cons.mpr ⟨rfl, List.forall_mem_cons.mpr ⟨rfl, List.forall_mem_cons.mpr ⟨rfl, List.forall_mem_cons.mpr ⟨rfl, List.forall_mem_cons.mpr ⟨rfl, fun _ h => absurd h List.not_mem_nil⟩⟩⟩⟩⟩⟩⟩ h
      | 4, c, ho =>
        have ho : some (221 : Int) = some o := ho
        cases ho
        have c : x7.toInt = 9 := by simpa using c
        replace h := h.2.2.2.2.2.1 c
        show Pl PRG n d 12 423 [(10, .int (σ.1 14 (x3 - (1 : Int32)).toNatClampNeg)), (3, .int (x3 - (1 : Int32))), (9, .int (σ.1 14 x3.toNatClampNeg)), (0, .ref 12), (4, .int x4), (5, .int x5), (6, .int x6), (7, .int x7)] [] σ Q
        exact Pl.live (l' := [(0, .ref 12), (3, .int (x3 - (1 : Int32))), (4, .int x4), (5, .int x5), (6, .int x6), (7, .int x7), (9, .int (σ.1 14 x3.toNatClampNeg)), (10, .int (σ.1 14 (x3 - (1 : Int32)).toNatClampNeg))]) hM lv_12 ⟨show ndL _ from (by decide : List.Nodup ([10, 3, 9, 0, 4, 5, 6, 7] : List Nat)), show ndL _ from (by decide : List.Nodup ([0, 3, 4, 5, 6, 7, 9, 10] : List Nat)), by rw [lva_12_423]; exact List.forall_mem_cons.mpr ⟨rfl, List.forall_mem_cons.mpr ⟨rfl, List.forall_mem_cons.mpr ⟨rfl, List.forall_mem_cons.mpr ⟨rfl, List.forall_mem_cons.mpr ⟨rfl, List.forall_mem_cons.mpr ⟨rfl, List.forall_mem_cons.mpr ⟨rfl, List.forall_mem_cons.mpr ⟨rfl, fun _ h => absurd h List.not_mem_nil⟩⟩⟩⟩⟩⟩⟩⟩⟩ h
      | 5, c, ho =>
        have ho : some (221 : Int) = some o := ho
        cases ho
        have c : x7.toInt = 10 := by simpa using c
        replace h := h.2.2.2.2.2.2.1 c
        show Pl PRG n d 12 423 [(10, .int (σ.1 14 (x3 - (1 : Int32)).toNatClampNeg)), (3, .int (x3 - (1 : Int32))), (9, .int (σ.1 14 x3.toNatClampNeg)), (0, .ref 12), (4, .int x4), (5, .int x5), (6, .int x6), (7, .int x7)] [] σ Q
        exact Pl.live (l' := [(0, .ref 12), (3, .int (x3 - (1 : Int32))), (4, .int x4), (5, .int x5), (6, .int x6), (7, .int x7), (9, .int (σ.1 14 x3.toNatClampNeg)), (10, .int (σ.1 14 (x3 - (1 : Int32)).toNatClampNeg))]) hM lv_12 ⟨show ndL _ from (by decide : List.Nodup ([10, 3, 9, 0, 4, 5, 6, 7] : List Nat)), show ndL _ from (by decide : List.Nodup ([0, 3, 4, 5, 6, 7, 9, 10] : List Nat)), by rw [lva_12_423]; exact List.forall_mem_cons.mpr ⟨rfl, List.forall_mem_cons.mpr ⟨rfl, List.forall_mem_cons.mpr ⟨rfl, List.forall_mem_cons.mpr ⟨rfl, List.forall_mem_cons.mpr ⟨rfl, List.forall_mem_cons.mpr ⟨rfl, List.forall_mem_cons.mpr ⟨rfl, List.forall_mem_cons.mpr ⟨rfl, fun _ h => absurd h List.not_mem_nil⟩⟩⟩⟩⟩⟩⟩⟩⟩ h
      | 6, c, ho =>
        have ho : some (221 : Int) = some o := ho
        cases ho
        have c : x7.toInt = 11 := by simpa using c
        replace h := h.2.2.2.2.2.2.2.1 c
        show Pl PRG n d 12 423 [(10, .int (σ.1 14 (x3 - (1 : Int32)).toNatClampNeg)), (3, .int (x3 - (1 : Int32))), (9, .int (σ.1 14 x3.toNatClampNeg)), (0, .ref 12), (4, .int x4), (5, .int x5), (6, .int x6), (7, .int x7)] [] σ Q
        exact Pl.live (l' := [(0, .ref 12), (3, .int (x3 - (1 : Int32))), (4, .int x4), (5, .int x5), (6, .int x6), (7, .int x7), (9, .int (σ.1 14 x3.toNatClampNeg)), (10, .int (σ.1 14 (x3 - (1 : Int32)).toNatClampNeg))]) hM lv_12 ⟨show ndL _ from (by decide : List.Nodup ([10, 3, 9, 0, 4, 5, 6, 7] : List Nat)), show ndL _ from (by decide : List.Nodup ([0, 3, 4, 5, 6, 7, 9, 10] : List Nat)), by rw [lva_12_423]; exact List.forall_mem_cons.mpr ⟨rfl, List.forall_mem_cons.mpr ⟨rfl, List.forall_mem_cons.mpr ⟨rfl, List.forall_mem_cons.mpr ⟨rfl, List.forall_mem_cons.mpr ⟨rfl, List.forall_mem_cons.mpr ⟨rfl, List.forall_mem_cons.mpr ⟨rfl, List.forall_mem_cons.mpr ⟨rfl, fun _ h => absurd h List.not_mem_nil⟩⟩⟩⟩⟩⟩⟩⟩⟩ h
      | 7, c, ho =>
        have ho : some (221 : Int) = some o := ho
        cases ho
        have c : x7.toInt = 12 := by simpa using c
        replace h := h.2.2.2.2.2.2.2.2.1 c
        show Pl PRG n d 12 423 [(10, .int (σ.1 14 (x3 - (1 : Int32)).toNatClampNeg)), (3, .int (x3 - (1 : Int32))), (9, .int (σ.1 14 x3.toNatClampNeg)), (0, .ref 12), (4, .int x4), (5, .int x5), (6, .int x6), (7, .int x7)] [] σ Q
        exact Pl.live (l' := [(0, .ref 12), (3, .int (x3 - (1 : Int32))), (4, .int x4), (5, .int x5), (6, .int x6), (7, .int x7), (9, .int (σ.1 14 x3.toNatClampNeg)), (10, .int (σ.1 14 (x3 - (1 : Int32)).toNatClampNeg))]) hM lv_12 ⟨show ndL _ from (by decide : List.Nodup ([10, 3, 9, 0, 4, 5, 6, 7] : List Nat)), show ndL _ from (by decide : List.Nodup ([0, 3, 4, 5, 6, 7, 9, 10] : List Nat)), by rw [lva_12_423]; exact List.forall_mem_cons.mpr ⟨rfl, List.forall_mem_cons.mpr ⟨rfl, List.forall_mem_cons.mpr ⟨rfl, List.forall_mem_cons.mpr ⟨rfl, List.forall_mem_cons.mpr ⟨rfl, List.forall_mem_cons.mpr ⟨rfl, List.forall_mem_cons.mpr ⟨rfl, List.forall_mem_cons.mpr ⟨rfl, fun _ h => absurd h List.not_mem_nil⟩⟩⟩⟩⟩⟩⟩⟩⟩ h
      | 8, c, ho =>
        have ho : some (221 : Int) = some o := ho
        cases ho
        have c : x7.toInt = 13 := by simpa using c
        replace h := h.2.2.2.2.2.2.2.2.2.1 c
        show Pl PRG n d 12 423 [(10, .int (σ.1 14 (x3 - (1 : Int32)).toNatClampNeg)), (3, .int (x3 - (1 : Int32))), (9, .int (σ.1 14 x3.toNatClampNeg)), (0, .ref 12), (4, .int x4), (5, .int x5), (6, .int x6), (7, .int x7)] [] σ Q
        exact Pl.live (l' := [(0, .ref 12), (3, .int (x3 - (1 : Int32))), (4, .int x4), (5, .int x5), (6, .int x6), (7, .int x7), (9, .int (σ.1 14 x3.toNatClampNeg)), (10, .int (σ.1 14 (x3 - (1 : Int32)).toNatClampNeg))]) hM lv_12 ⟨show ndL _ from (by decide : List.Nodup ([10, 3, 9, 0, 4, 5, 6, 7] : List Nat)), show ndL _ from (by decide : List.Nodup ([0, 3, 4, 5, 6, 7, 9, 10] : List Nat)), by rw [lva_12_423]; exact List.forall_mem_cons.mpr ⟨rfl, List.forall_mem_cons.mpr ⟨rfl, List.forall_mem_cons.mpr ⟨rfl, List.forall_mem_cons.mpr ⟨rfl, List.forall_mem_cons.mpr ⟨rfl, List.forall_mem_cons.mpr ⟨rfl, List.forall_mem_cons.mpr ⟨rfl, List.forall_mem_cons.mpr ⟨rfl, fun _ h => absurd h List.not_mem_nil⟩⟩⟩⟩⟩⟩⟩⟩⟩ h
      | 9, c, ho =>
        have ho : some (221 : Int) = some o := ho
        cases ho
        have c : x7.toInt = 14 := by simpa using c
        replace h := h.2.2.2.2.2.2.2.2.2.2.1 c
        show Pl PRG n d 12 423 [(10, .int (σ.1 14 (x3 - (1 : Int32)).toNatClampNeg)), (3, .int (x3 - (1 : Int32))), (9, .int (σ.1 14 x3.toNatClampNeg)), (0, .ref 12), (4, .int x4), (5, .int x5), (6, .int x6), (7, .int x7)] [] σ Q
        exact Pl.live (l' := [(0, .ref 12), (3, .int (x3 - (1 : Int32))), (4, .int x4), (5, .int x5), (6, .int x6), (7, .int x7), (9, .int (σ.1 14 x3.toNatClampNeg)), (10, .int (σ.1 14 (x3 - (1 : Int32)).toNatClampNeg))]) hM lv_12 ⟨show ndL _ from (by decide : List.Nodup ([10, 3, 9, 0, 4, 5, 6, 7] : List Nat)), show ndL _ from (by decide : List.Nodup ([0, 3, 4, 5, 6, 7, 9, 10] : List Nat)), by rw [lva_12_423]; exact List.forall_mem_cons.mpr ⟨rfl, List.forall_mem_cons.mpr ⟨rfl, List.forall_mem_cons.mpr ⟨rfl, List.forall_mem_cons.mpr ⟨rfl, List.forall_mem_cons.mpr ⟨rfl, List.forall_mem_cons.mpr ⟨rfl, List.forall_mem_cons.mpr ⟨rfl, List.forall_mem_cons.mpr ⟨rfl, fun _ h => absurd h List.not_mem_nil⟩⟩⟩⟩⟩⟩⟩⟩⟩ h
      | 10, c, ho =>
        have ho : some (221 : Int) = some o := ho
        cases ho
        have c : x7.toInt = 15 := by simpa using c
        replace h := h.2.2.2.2.2.2.2.2.2.2.2.1 c
        show Pl PRG n d 12 423 [(10, .int (σ.1 14 (x3 - (1 : Int32)).toNatClampNeg)), (3, .int (x3 - (1 : Int32))), (9, .int (σ.1 14 x3.toNatClampNeg)), (0, .ref 12), (4, .int x4), (5, .int x5), (6, .int x6), (7, .int x7)] [] σ Q
        exact Pl.live (l' := [(0, .ref 12), (3, .int (x3 - (1 : Int32))), (4, .int x4), (5, .int x5), (6, .int x6), (7, .int x7), (9, .int (σ.1 14 x3.toNatClampNeg)), (10, .int (σ.1 14 (x3 - (1 : Int32)).toNatClampNeg))]) hM lv_12 ⟨show ndL _ from (by decide : List.Nodup ([10, 3, 9, 0, 4, 5, 6, 7] : List Nat)), show ndL _ from (by decide : List.Nodup ([0, 3, 4, 5, 6, 7, 9, 10] : List Nat)), by rw [lva_12_423]; exact List.forall_mem_cons.mpr ⟨rfl, List.forall_mem_cons.mpr ⟨rfl, List.forall_mem_cons.mpr ⟨rfl, List.forall_mem_cons.mpr ⟨rfl, List.forall_mem_cons.mpr ⟨rfl, List.forall_mem_cons.mpr ⟨rfl, List.forall_mem_cons.mpr ⟨rfl, List.forall_mem_cons.mpr ⟨rfl, fun _ h => absurd h List.not_mem_nil⟩⟩⟩⟩⟩⟩⟩⟩⟩ h
      | 11, c, ho =>
        have ho : some (221 : Int) = some o := ho
        cases ho
        have c : x7.toInt = 16 := by simpa using c
        replace h := h.2.2.2.2.2.2.2.2.2.2.2.2.1 c
        show Pl PRG n d 12 423 [(10, .int (σ.1 14 (x3 - (1 : Int32)).toNatClampNeg)), (3, .int (x3 - (1 : Int32))), (9, .int (σ.1 14 x3.toNatClampNeg)), (0, .ref 12), (4, .int x4), (5, .int x5), (6, .int x6), (7, .int x7)] [] σ Q
        exact Pl.live (l' := [(0, .ref 12), (3, .int (x3 - (1 : Int32))), (4, .int x4), (5, .int x5), (6, .int x6), (7, .int x7), (9, .int (σ.1 14 x3.toNatClampNeg)), (10, .int (σ.1 14 (x3 - (1 : Int32)).toNatClampNeg))]) hM lv_12 ⟨show ndL _ from (by decide : List.Nodup ([10, 3, 9, 0, 4, 5, 6, 7] : List Nat)), show ndL _ from (by decide : List.Nodup ([0, 3, 4, 5, 6, 7, 9, 10] : List Nat)), by rw [lva_12_423]; exact List.forall_mem_cons.mpr ⟨rfl, List.forall_mem_cons.mpr ⟨rfl, List.forall_mem_cons.mpr ⟨rfl, List.forall_mem_cons.mpr ⟨rfl, List.forall_mem_cons.mpr ⟨rfl, List.forall_mem_cons.mpr ⟨rfl, List.forall_mem_cons.mpr ⟨rfl, List.forall_mem_cons.mpr ⟨rfl, fun _ h => absurd h List.not_mem_nil⟩⟩⟩⟩⟩⟩⟩⟩⟩ h
      | 12, c, ho =>
        have ho : some (221 : Int) = some o := ho
        cases ho
        have c : x7.toInt = 17 := by simpa using c
        replace h := h.2.2.2.2.2.2.2.2.2.2.2.2.2.1 c
        show Pl PRG n d 12 423 [(10, .int (σ.1 14 (x3 - (1 : Int32)).toNatClampNeg)), (3, .int (x3 - (1 : Int32))), (9, .int (σ.1 14 x3.toNatClampNeg)), (0, .ref 12), (4, .int x4), (5, .int x5), (6, .int x6), (7, .int x7)] [] σ Q
        exact Pl.live (l' := [(0, .ref 12), (3, .int (x3 - (1 : Int32))), (4, .int x4), (5, .int x5), (6, .int x6), (7, .int x7), (9, .int (σ.1 14 x3.toNatClampNeg)), (10, .int (σ.1 14 (x3 - (1 : Int32)).toNatClampNeg))]) hM lv_12 ⟨show ndL _ from (by decide : List.Nodup ([10, 3, 9, 0, 4, 5, 6, 7] : List Nat)), show ndL _ from (by decide : List.Nodup ([0, 3, 4, 5, 6, 7, 9, 10] : List Nat)), by rw [lva_12_423]; exact List.forall_mem_cons.mpr ⟨rfl, List.forall_mem_cons.mpr ⟨rfl, List.forall_mem_cons.mpr ⟨rfl, List.forall_mem_cons.mpr ⟨rfl, List.forall_mem_cons.mpr ⟨rfl, List.forall_mem_cons.mpr ⟨rfl, List.forall_mem_cons.mpr ⟨rfl, List.forall_mem_cons.mpr ⟨rfl, fun _ h => absurd h List.not_mem_nil⟩⟩⟩⟩⟩⟩⟩⟩⟩ h
      | 13, c, ho =>
        have ho : some (221 : Int) = some o := ho
        cases ho
        have c : x7.toInt = 18 := by simpa using c
        replace h := h.2.2.2.2.2.2.2.2.2.2.2.2.2.2.1 c
        show Pl PRG n d 12 423 [(10, .int (σ.1 14 (x3 - (1 : Int32)).toNatClampNeg)), (3, .int (x3 - (1 : Int32))), (9, .int (σ.1 14 x3.toNatClampNeg)), (0, .ref 12), (4, .int x4), (5, .int x5), (6, .int x6), (7, .int x7)] [] σ Q
        exact Pl.live (l' := [(0, .ref 12), (3, .int (x3 - (1 : Int32))), (4, .int x4), (5, .int x5), (6, .int x6), (7, .int x7), (9, .int (σ.1 14 x3.toNatClampNeg)), (10, .int (σ.1 14 (x3 - (1 : Int32)).toNatClampNeg))]) hM lv_12 ⟨show ndL _ from (by decide : List.Nodup ([10, 3, 9, 0, 4, 5, 6, 7] : List Nat)), show ndL _ from (by decide : List.Nodup ([0, 3, 4, 5, 6, 7, 9, 10] : List Nat)), by rw [lva_12_423]; exact List.forall_mem_cons.mpr ⟨rfl, List.forall_mem_cons.mpr ⟨rfl, List.forall_mem_cons.mpr ⟨rfl, List.forall_mem_cons.mpr ⟨rfl, List.forall_mem_cons.mpr ⟨rfl, List.forall_mem_cons.mpr ⟨rfl, List.forall_mem_cons.mpr ⟨rfl, List.forall_mem_cons.mpr ⟨rfl, fun _ h => absurd h List.not_mem_nil⟩⟩⟩⟩⟩⟩⟩⟩⟩ h
      | 14, c, ho =>
        have ho : some (221 : Int) = some o := ho
        cases ho
        have c : x7.toInt = 19 := by simpa using c
        replace h := h.2.2.2.2.2.2.2.2.2.2.2.2.2.2.2.1 c
        show Pl PRG n d 12 423 [(10, .int (σ.1 14 (x3 - (1 : Int32)).toNatClampNeg)), (3, .int (x3 - (1 : Int32))), (9, .int (σ.1 14 x3.toNatClampNeg)), (0, .ref 12), (4, .int x4), (5, .int x5), (6, .int x6), (7, .int x7)] [] σ Q
        exact Pl.live (l' := [(0, .ref 12), (3, .int (x3 - (1 : Int32))), (4, .int x4), (5, .int x5), (6, .int x6), (7, .int x7), (9, .int (σ.1 14 x3.toNatClampNeg)), (10, .int (σ.1 14 (x3 - (1 : Int32)).toNatClampNeg))]) hM lv_12 ⟨show ndL _ from (by decide : List.Nodup ([10, 3, 9, 0, 4, 5, 6, 7] : List Nat)), show ndL _ from (by decide : List.Nodup ([0, 3, 4, 5, 6, 7, 9, 10] : List Nat)), by rw [lva_12_423]; exact List.forall_mem_cons.mpr ⟨rfl, List.forall_mem_cons.mpr ⟨rfl, List.forall_mem_cons.mpr ⟨rfl, List.forall_mem_cons.mpr ⟨rfl, List.forall_mem_cons.mpr ⟨rfl, List.forall_mem_cons.mpr ⟨rfl, List.forall_mem_cons.mpr ⟨rfl, List.forall_mem_cons.mpr ⟨rfl, fun _ h => absurd h List.not_mem_nil⟩⟩⟩⟩⟩⟩⟩⟩⟩ h
      | 15, c, ho =>
        have ho : some (221 : Int) = some o := ho
        cases ho
        have c : x7.toInt = 20 := by simpa using c
        replace h := h.2.2.2.2.2.2.2.2.2.2.2.2.2.2.2.2.1 c
        show Pl PRG n d 12 423 [(10, .int (σ.1 14 (x3 - (1 : Int32)).toNatClampNeg)), (3, .int (x3 - (1 : Int32))), (9, .int (σ.1 14 x3.toNatClampNeg)), (0, .ref 12), (4, .int x4), (5, .int x5), (6, .int x6), (7, .int x7)] [] σ Q
        exact Pl.live (l' := [(0, .ref 12), (3, .int (x3 - (1 : Int32))), (4, .int x4), (5, .int x5), (6, .int x6), (7, .int x7), (9, .int (σ.1 14 x3.toNatClampNeg)), (10, .int (σ.1 14 (x3 - (1 : Int32)).toNatClampNeg))]) hM lv_12 ⟨show ndL _ from (by decide : List.Nodup ([10, 3, 9, 0, 4, 5, 6, 7] : List Nat)), show ndL _ from (by decide : List.Nodup ([0, 3, 4, 5, 6, 7, 9, 10] : List Nat)), by rw [lva_12_423]; exact List.forall_mem_cons.mpr ⟨rfl, List.forall_mem_cons.mpr ⟨rfl, List.forall_mem_cons.mpr ⟨rfl, List.forall_mem_cons.mpr ⟨rfl, List.forall_mem_cons.mpr ⟨rfl, List.forall_mem_cons.mpr ⟨rfl, List.forall_mem_cons.mpr ⟨rfl, List.forall_mem_cons.mpr ⟨rfl, fun _ h => absurd h List.not_mem_nil⟩⟩⟩⟩⟩⟩⟩⟩⟩ h
      | 16, c, ho =>
        have ho : some (221 : Int) = some o := ho
        cases ho
        have c : x7.toInt = 21 := by simpa using c
        replace h := h.2.2.2.2.2.2.2.2.2.2.2.2.2.2.2.2.2.1 c
        show Pl PRG n d 12 423 [(10, .int (σ.1 14 (x3 - (1 : Int32)).toNatClampNeg)), (3, .int (x3 - (1 : Int32))), (9, .int (σ.1 14 x3.toNatClampNeg)), (0, .ref 12), (4, .int x4), (5, .int x5), (6, .int x6), (7, .int x7)] [] σ Q
        exact Pl.live (l' := [(0, .ref 12), (3, .int (x3 - (1 : Int32))), (4, .int x4), (5, .int x5), (6, .int x6), (7, .int x7), (9, .int (σ.1 14 x3.toNatClampNeg)), (10, .int (σ.1 14 (x3 - (1 : Int32)).toNatClampNeg))]) hM lv_12 ⟨show ndL _ from (by decide : List.Nodup ([10, 3, 9, 0, 4, 5, 6, 7] : List Nat)), show ndL _ from (by decide : List.Nodup ([0, 3, 4, 5, 6, 7, 9, 10] : List Nat)), by rw [lva_12_423]; exact List.forall_mem_cons.mpr ⟨rfl, List.forall_mem_cons.mpr ⟨rfl, List.forall_mem_cons.mpr ⟨rfl, List.forall_mem_cons.mpr ⟨rfl, List.forall_mem_cons.mpr ⟨rfl, List.forall_mem_cons.mpr ⟨rfl, List.forall_mem_cons.mpr ⟨rfl, List.forall_mem_cons.mpr ⟨rfl, fun _ h => absurd h List.not_mem_nil⟩⟩⟩⟩⟩⟩⟩⟩⟩ h
      | 17, c, ho =>
        have ho : some (221 : Int) = some o := ho
        cases ho
        have c : x7.toInt = 22 := by simpa using c
        replace h := h.2.2.2.2.2.2.2.2.2.2.2.2.2.2.2.2.2.2.1 c
        show Pl PRG n d 12 423 [(10, .int (σ.1 14 (x3 - (1 : Int32)).toNatClampNeg)), (3, .int (x3 - (1 : Int32))), (9, .int (σ.1 14 x3.toNatClampNeg)), (0, .ref 12), (4, .int x4), (5, .int x5), (6, .int x6), (7, .int x7)] [] σ Q
        exact Pl.live (l' := [(0, .ref 12), (3, .int (x3 - (1 : Int32))), (4, .int x4), (5, .int x5), (6, .int x6), (7, .int x7), (9, .int (σ.1 14 x3.toNatClampNeg)), (10, .int (σ.1 14 (x3 - (1 : Int32)).toNatClampNeg))]) hM lv_12 ⟨show ndL _ from (by decide : List.Nodup ([10, 3, 9, 0, 4, 5, 6, 7] : List Nat)), show ndL _ from (by decide : List.Nodup ([0, 3, 4, 5, 6, 7, 9, 10] : List Nat)), by rw [lva_12_423]; exact List.forall_mem_cons.mpr ⟨rfl, List.forall_mem_cons.mpr ⟨rfl, List.forall_mem_cons.mpr ⟨rfl, List.forall_mem_cons.mpr ⟨rfl, List.forall_mem_cons.mpr ⟨rfl, List.forall_mem_cons.mpr ⟨rfl, List.forall_mem_cons.mpr ⟨rfl, List.forall_mem_cons.mpr ⟨rfl, fun _ h => absurd h List.not_mem_nil⟩⟩⟩⟩⟩⟩⟩⟩⟩ h
      | 18, c, ho =>
        have ho : some (194 : Int) = some o := ho
        cases ho
        have c : x7.toInt = 23 := by simpa using c
        replace h := h.2.2.2.2.2.2.2.2.2.2.2.2.2.2.2.2.2.2.2.1 c
        show Pl PRG n d 12 396 [(10, .int (σ.1 14 (x3 - (1 : Int32)).toNatClampNeg)), (3, .int (x3 - (1 : Int32))), (9, .int (σ.1 14 x3.toNatClampNeg)), (0, .ref 12), (4, .int x4), (5, .int x5), (6, .int x6), (7, .int x7)] [] σ Q
        refine Pl.seg (pc' := 406) (ls' := [(10, .int (σ.1 14 (x3 - (1 : Int32)).toNatClampNeg)), (3, .int (x3 - (1 : Int32))), (9, .int (σ.1 14 x3.toNatClampNeg)), (0, .ref 12), (4, .int x4), (5, .int x5), (6, .int x6), (7, .int x7)]) (st' := [.int ((σ.1 14 (x3 - (1 : Int32)).toNatClampNeg) ||| (σ.1 14 x3.toNatClampNeg)), .int (x3 - (1 : Int32)), .ref 14]) (σ' := σ) hM 6 rfl ?_
        refine Pl.weak (Pl.iast hM rfl rfl (fun hi => ?_))
        replace h := h hi
        refine Pl.seg (pc' := 500) (ls' := [(10, .int (σ.1 14 (x3 - (1 : Int32)).toNatClampNeg)), (3, .int (x3 - (1 : Int32))), (9, .int (σ.1 14 x3.toNatClampNeg)), (0, .ref 12), (4, .int x4), (5, .int x5), (6, .int x6), (7, .int x7)]) (st' := []) (σ' := (s1 σ 14 (x3 - (1 : Int32)).toNatClampNeg ((σ.1 14 (x3 - (1 : Int32)).toNatClampNeg) ||| (σ.1 14 x3.toNatClampNeg)))) hM 1 rfl ?_
        exact Pl.live (l' := [(0, .ref 12), (3, .int (x3 - (1 : Int32))), (4, .int x4), (5, .int x5), (6, .int x6)]) hM lv_12 ⟨show ndL _ from (by decide : List.Nodup ([10, 3, 9, 0, 4, 5, 6, 7] : List Nat)), show ndL _ from (by decide : List.Nodup ([0, 3, 4, 5, 6] : List Nat)), by rw [lva_12_500]; exact List.forall_mem_cons.mpr ⟨rfl, List.forall_mem_cons.mpr ⟨rfl, List.forall_mem_cons.mpr ⟨rfl, List.forall_mem_cons.mpr ⟨rfl, List.forall_mem_cons.mpr ⟨rfl, fun _ h => absurd h List.not_mem_nil⟩⟩⟩⟩⟩⟩ h
      | 19, c, ho =>
        have ho : some (180 : Int) = some o := ho
        cases ho
        have c : x7.toInt = 24 := by simpa using c
        replace h := h.2.2.2.2.2.2.2.2.2.2.2.2.2.2.2.2.2.2.2.2.1 c
        show Pl PRG n d 12 382 [(10, .int (σ.1 14 (x3 - (1 : Int32)).toNatClampNeg)), (3, .int (x3 - (1 : Int32))), (9, .int (σ.1 14 x3.toNatClampNeg)), (0, .ref 12), (4, .int x4), (5, .int x5), (6, .int x6), (7, .int x7)] [] σ Q
        refine Pl.seg (pc' := 392) (ls' := [(10, .int (σ.1 14 (x3 - (1 : Int32)).toNatClampNeg)), (3, .int (x3 - (1 : Int32))), (9, .int (σ.1 14 x3.toNatClampNeg)), (0, .ref 12), (4, .int x4), (5, .int x5), (6, .int x6), (7, .int x7)]) (st' := [.int ((σ.1 14 (x3 - (1 : Int32)).toNatClampNeg) &&& (σ.1 14 x3.toNatClampNeg)), .int (x3 - (1 : Int32)), .ref 14]) (σ' := σ) hM 6 rfl ?_
        refine Pl.weak (Pl.iast hM rfl rfl (fun hi => ?_))
        replace h := h hi
        refine Pl.seg (pc' := 500) (ls' := [(10, .int (σ.1 14 (x3 - (1 : Int32)).toNatClampNeg)), (3, .int (x3 - (1 : Int32))), (9, .int (σ.1 14 x3.toNatClampNeg)), (0, .ref 12), (4, .int x4), (5, .int x5), (6, .int x6), (7, .int x7)]) (st' := []) (σ' := (s1 σ 14 (x3 - (1 : Int32)).toNatClampNeg ((σ.1 14 (x3 - (1 : Int32)).toNatClampNeg) &&& (σ.1 14 x3.toNatClampNeg)))) hM 1 rfl ?_
        exact Pl.live (l' := [(0, .ref 12), (3, .int (x3 - (1 : Int32))), (4, .int x4), (5, .int x5), (6, .int x6)]) hM lv_12 ⟨show ndL _ from (by decide : List.Nodup ([10, 3, 9, 0, 4, 5, 6, 7] : List Nat)), show ndL _ from (by decide : List.Nodup ([0, 3, 4, 5, 6] : List Nat)), by rw [lva_12_500]; exact List.forall_mem_cons.mpr ⟨rfl, List.forall_mem_cons.mpr ⟨rfl, List.forall_mem_cons.mpr ⟨rfl, List.forall_mem_cons.mpr ⟨rfl, List.forall_mem_cons.mpr ⟨rfl, fun _ h => absurd h List.not_mem_nil⟩⟩⟩⟩⟩⟩ h
      | 20, c, ho =>
        have ho : some (208 : Int) = some o := ho
        cases ho
        have c : x7.toInt = 25 := by simpa using c
        replace h := h.2.2.2.2.2.2.2.2.2.2.2.2.2.2.2.2.2.2.2.2.2 c
        show Pl PRG n d 12 410 [(10, .int (σ.1 14 (x3 - (1 : Int32)).toNatClampNeg)), (3, .int (x3 - (1 : Int32))), (9, .int (σ.1 14 x3.toNatClampNeg)), (0, .ref 12), (4, .int x4), (5, .int x5), (6, .int x6), (7, .int x7)] [] σ Q
        refine Pl.seg (pc' := 419) (ls' := [(10, .int (σ.1 14 (x3 - (1 : Int32)).toNatClampNeg)), (3, .int (x3 - (1 : Int32))), (9, .int (σ.1 14 x3.toNatClampNeg)), (0, .ref 12), (4, .int x4), (5, .int x5), (6, .int x6), (7, .int x7)]) (st' := [.int ((1 : Int32) - (σ.1 14 x3.toNatClampNeg)), .int (x3 - (1 : Int32)), .ref 14]) (σ' := σ) hM 6 rfl ?_
        refine Pl.weak (Pl.iast hM rfl rfl (fun hi => ?_))
        replace h := h hi
        refine Pl.seg (pc' := 500) (ls' := [(10, .int (σ.1 14 (x3 - (1 : Int32)).toNatClampNeg)), (3, .int (x3 - (1 : Int32))), (9, .int (σ.1 14 x3.toNatClampNeg)), (0, .ref 12), (4, .int x4), (5, .int x5), (6, .int x6), (7, .int x7)]) (st' := []) (σ' := (s1 σ 14 (x3 - (1 : Int32)).toNatClampNeg ((1 : Int32) - (σ.1 14 x3.toNatClampNeg)))) hM 1 rfl ?_
        exact Pl.live (l' := [(0, .ref 12), (3, .int (x3 - (1 : Int32))), (4, .int x4), (5, .int x5), (6, .int x6)]) hM lv_12 ⟨show ndL _ from (by decide : List.Nodup ([10, 3, 9, 0, 4, 5, 6, 7] : List Nat)), show ndL _ from (by decide : List.Nodup ([0, 3, 4, 5, 6] : List Nat)), by rw [lva_12_500]; exact List.forall_mem_cons.mpr ⟨rfl, List.forall_mem_cons.mpr ⟨rfl, List.forall_mem_cons.mpr ⟨rfl, List.forall_mem_cons.mpr ⟨rfl, List.forall_mem_cons.mpr ⟨rfl, fun _ h => absurd h List.not_mem_nil⟩⟩⟩⟩⟩⟩ h
      | k + 21, c, ho => exact absurd ho (by intro e; have e : (none : Option Int) = some o := e; cases e)
  · replace h := h.1 c
    refine Pl.seg (pc' := 197) (ls' := [(3, .int (x3 - (0 : Int32))), (9, .int (σ.1 14 x3.toNatClampNeg)), (0, .ref 12), (4, .int x4), (5, .int x5), (6, .int x6), (7, .int x7)]) (st' := [.int (x3 - (0 : Int32)), .ref 14]) (σ' := σ) hM 7 rfl ?_
    refine Pl.weak (Pl.iald hM rfl rfl (fun hi => ?_))
    replace h := h hi
    refine Pl.seg (pc' := 202) (ls' := [(10, .int (σ.1 14 (x3 - (0 : Int32)).toNatClampNeg)), (3, .int (x3 - (0 : Int32))), (9, .int (σ.1 14 x3.toNatClampNeg)), (0, .ref 12), (4, .int x4), (5, .int x5), (6, .int x6), (7, .int x7)]) (st' := [.int x7]) (σ' := σ) hM 2 rfl ?_
    refine Pl.weak (Pl.tsw hM rfl (fun c => ?_) (fun j o c ho => ?_))
    · replace h := h.1 c
      show Pl PRG n d 12 423 [(10, .int (σ.1 14 (x3 - (0 : Int32)).toNatClampNeg)), (3, .int (x3 - (0 : Int32))), (9, .int (σ.1 14 x3.toNatClampNeg)), (0, .ref 12), (4, .int x4), (5, .int x5), (6, .int x6), (7, .int x7)] [] σ Q
      exact Pl.live (l' := [(0, .ref 12), (3, .int (x3 - (0 : Int32))), (4, .int x4), (5, .int x5), (6, .int x6), (7, .int x7), (9, .int (σ.1 14 x3.toNatClampNeg)), (10, .int (σ.1 14 (x3 - (0 : Int32)).toNatClampNeg))]) hM lv_12 ⟨show ndL _ from (by decide : List.Nodup ([10, 3, 9, 0, 4, 5, 6, 7] : List Nat)), show ndL _ from (by decide : List.Nodup ([0, 3, 4, 5, 6, 7, 9, 10] : List Nat)), by rw [lva_12_423]; exact List.forall_mem_cons.mpr ⟨rfl, List.forall_mem_cons.mpr ⟨rfl, List.forall_mem_cons.mpr ⟨rfl, List.forall_mem_cons.mpr ⟨rfl, List.forall_mem_cons.mpr ⟨rfl, List.forall_mem_cons.mpr ⟨rfl, List.forall_mem_cons.mpr ⟨rfl, List.forall_mem_cons.mpr ⟨rfl, fun _ h => absurd h List.not_mem_nil⟩⟩⟩⟩⟩⟩⟩⟩⟩ h
    · match j, c, ho with
      | 0, c, ho =>
        have ho : some (98 : Int) = some o := ho
        cases ho
        have c : x7.toInt = 5 := by simpa using c
        replace h := h.2.1 c
        show Pl PRG n d 12 300 [(10, .int (σ.1 14 (x3 - (0 : Int32)).toNatClampNeg)), (3, .int (x3 - (0 : Int32))), (9, .int (σ.1 14 x3.toNatClampNeg)), (0, .ref 12), (4, .int x4), (5, .int x5), (6, .int x6), (7, .int x7)] [] σ Q
        refine Pl.seg (pc' := 310) (ls' := [(10, .int (σ.1 14 (x3 - (0 : Int32)).toNatClampNeg)), (3, .int (x3 - (0 : Int32))), (9, .int (σ.1 14 x3.toNatClampNeg)), (0, .ref 12), (4, .int x4), (5, .int x5), (6, .int x6), (7, .int x7)]) (st' := [.int ((σ.1 14 (x3 - (0 : Int32)).toNatClampNeg) + (σ.1 14 x3.toNatClampNeg)), .int (x3 - (0 : Int32)), .ref 14]) (σ' := σ) hM 6 rfl ?_
        refine Pl.weak (Pl.iast hM rfl rfl (fun hi => ?_))
        replace h := h hi
        refine Pl.seg (pc' := 500) (ls' := [(10, .int (σ.1 14 (x3 - (0 : Int32)).toNatClampNeg)), (3, .int (x3 - (0 : Int32))), (9, .int (σ.1 14 x3.toNatClampNeg)), (0, .ref 12), (4, .int x4), (5, .int x5), (6, .int x6), (7, .int x7)]) (st' := []) (σ' := (s1 σ 14 (x3 - (0 : Int32)).toNatClampNeg ((σ.1 14 (x3 - (0 : Int32)).toNatClampNeg) + (σ.1 14 x3.toNatClampNeg)))) hM 1 rfl ?_
        exact Pl.live (l' := [(0, .ref 12), (3, .int (x3 - (0 : Int32))), (4, .int x4), (5, .int x5), (6, .int x6)]) hM lv_12 ⟨show ndL _ from (by decide : List.Nodup ([10, 3, 9, 0, 4, 5, 6, 7] : List Nat)), show ndL _ from (by decide : List.Nodup ([0, 3, 4, 5, 6] : List Nat)), by rw [lva_12_500]; exact List.forall_mem_cons.mpr ⟨rfl, List.forall_mem_cons.mpr ⟨rfl, List.forall_mem_cons.mpr ⟨rfl, List.forall_mem_cons.mpr ⟨rfl, List.forall_mem_cons.mpr ⟨rfl, fun _ h => absurd h List.not_mem_nil⟩⟩⟩⟩⟩⟩ h
      | 1, c, ho =>
        have ho : some (112 : Int) = some o := ho
        cases ho
        have c : x7.toInt = 6 := by simpa using c
        replace h := h.2.2.1 c
        show Pl PRG n d 12 314 [(10, .int (σ.1 14 (x3 - (0 : Int32)).toNatClampNeg)), (3, .int (x3 - (0 : Int32))), (9, .int (σ.1 14 x3.toNatClampNeg)), (0, .ref 12), (4, .int x4), (5, .int x5), (6, .int x6), (7, .int x7)] [] σ Q
        refine Pl.seg (pc' := 324) (ls' := [(10, .int (σ.1 14 (x3 - (0 : Int32)).toNatClampNeg)), (3, .int (x3 - (0 : Int32))), (9, .int (σ.1 14 x3.toNatClampNeg)), (0, .ref 12), (4, .int x4), (5, .int x5), (6, .int x6), (7, .int x7)]) (st' := [.int ((σ.1 14 (x3 - (0 : Int32)).toNatClampNeg) - (σ.1 14 x3.toNatClampNeg)), .int (x3 - (0 : Int32)), .ref 14]) (σ' := σ) hM 6 rfl ?_
        refine Pl.weak (Pl.iast hM rfl rfl (fun hi => ?_))
        replace h := h hi
        refine Pl.seg (pc' := 500) (ls' := [(10, .int (σ.1 14 (x3 - (0 : Int32)).toNatClampNeg)), (3, .int (x3 - (0 : Int32))), (9, .int (σ.1 14 x3.toNatClampNeg)), (0, .ref 12), (4, .int x4), (5, .int x5), (6, .int x6), (7, .int x7)]) (st' := []) (σ' := (s1 σ 14 (x3 - (0 : Int32)).toNatClampNeg ((σ.1 14 (x3 - (0 : Int32)).toNatClampNeg) - (σ.1 14 x3.toNatClampNeg)))) hM 1 rfl ?_
        exact Pl.live (l' := [(0, .ref 12), (3, .int (x3 - (0 : Int32))), (4, .int x4), (5, .int x5), (6, .int x6)]) hM lv_12 ⟨show ndL _ from (by decide : List.Nodup ([10, 3, 9, 0, 4, 5, 6, 7] : List Nat)), show ndL _ from (by decide : List.Nodup ([0, 3, 4, 5, 6] : List Nat)), by rw [lva_12_500]; exact List.forall_mem_cons.mpr ⟨rfl, List.forall_mem_cons.mpr ⟨rfl, List.forall_mem_cons.mpr ⟨rfl, List.forall_mem_cons.mpr ⟨rfl, List.forall_mem_cons.mpr ⟨rfl, fun _ h => absurd h List.not_mem_nil⟩⟩⟩⟩⟩⟩ h
      | 2, c, ho =>
        have ho : some (126 : Int) = some o := ho
        cases ho
        have c : x7.toInt = 7 := by simpa using c
        replace h := h.2.2.2.1 c
        show Pl PRG n d 12 328 [(10, .int (σ.1 14 (x3 - (0 : Int32)).toNatClampNeg)), (3, .int (x3 - (0 : Int32))), (9, .int (σ.1 14 x3.toNatClampNeg)), (0, .ref 12), (4, .int x4), (5, .int x5), (6, .int x6), (7, .int x7)] [] σ Q
        refine Pl.seg (pc' := 338) (ls' := [(10, .int (σ.1 14 (x3 - (0 : Int32)).toNatClampNeg)), (3, .int (x3 - (0 : Int32))), (9, .int (σ.1 14 x3.toNatClampNeg)), (0, .ref 12), (4, .int x4), (5, .int x5), (6, .int x6), (7, .int x7)]) (st' := [.int ((σ.1 14 (x3 - (0 : Int32)).toNatClampNeg) * (σ.1 14 x3.toNatClampNeg)), .int (x3 - (0 : Int32)), .ref 14]) (σ' := σ) hM 6 rfl ?_
        refine Pl.weak (Pl.iast hM rfl rfl (fun hi => ?_))
        replace h := h hi
        refine Pl.seg (pc' := 500) (ls' := [(10, .int (σ.1 14 (x3 - (0 : Int32)).toNatClampNeg)), (3, .int (x3 - (0 : Int32))), (9, .int (σ.1 14 x3.toNatClampNeg)), (0, .ref 12), (4, .int x4), (5, .int x5), (6, .int x6), (7, .int x7)]) (st' := []) (σ' := (s1 σ 14 (x3 - (0 : Int32)).toNatClampNeg ((σ.1 14 (x3 - (0 : Int32)).toNatClampNeg) * (σ.1 14 x3.toNatClampNeg)))) hM 1 rfl ?_
        exact Pl.live (l' := [(0, .ref 12), (3, .int (x3 - (0 : Int32))), (4, .int x4), (5, .int x5), (6, .int x6)]) hM lv_12 ⟨show ndL _ from (by decide : List.Nodup ([10, 3, 9, 0, 4, 5, 6, 7] : List Nat)), show ndL _ from (by decide : List.Nodup ([0, 3, 4, 5, 6] : List Nat)), by rw [lva_12_500]; exact List.forall_mem_cons.mpr ⟨rfl, List.forall_mem_cons.mpr ⟨rfl, List.forall_mem_cons.mpr ⟨rfl, List.forall_mem_cons.mpr ⟨rfl, List.forall_mem_cons.mpr ⟨rfl, fun _ h => absurd h List.not_mem_nil⟩⟩⟩⟩⟩⟩ h
      | 3, c, ho =>
        have ho : some (140 : Int) = some o := ho
        cases ho
        have c : x7.toInt = 8 := by simpa using c
        replace h := h.2.2.2.2.1 c
        show Pl PRG n d 12 342 [(10, .int (σ.1 14 (x3 - (0 : Int32)).toNatClampNeg)), (3, .int (x3 - (0 : Int32))), (9, .int (σ.1 14 x3.toNatClampNeg)), (0, .ref 12), (4, .int x4), (5, .int x5), (6, .int x6), (7, .int x7)] [] σ Q
        refine Pl.brN (c := x4 = 0) (a := 352) (b := 347) (ls' := [(10, .int (σ.1 14 (x3 - (0 : Int32)).toNatClampNeg)), (3, .int (x3 - (0 : Int32))), (9, .int (σ.1 14 x3.toNatClampNeg)), (0, .ref 12), (4, .int x4), (5, .int x5), (6, .int x6), (7, .int x7)]) (st' := []) (σ' := σ) hM 2 rfl (fun c => ?_) (fun c => ?_)
        · replace h := h.2 c
          exact Pl.live (l' := [(0, .ref 12), (3, .int (x3 - (0 : Int32))), (5, .int x5), (6, .int x6), (9, .int (σ.1 14 x3.toNatClampNeg)), (10, .int (σ.1 14 (x3 - (0 : Int32)).toNatClampNeg))]) hM lv_12 ⟨show ndL _ from (by decide : List.Nodup ([10, 3, 9, 0, 4, 5, 6, 7] : List Nat)), show ndL _ from (by decide : List.Nodup ([0, 3, 5, 6, 9, 10] : List Nat)), by rw [lva_12_352]; exact List.forall_mem_cons.mpr ⟨rfl, List.forall_mem_cons.mpr ⟨rfl, List.forall_mem_cons.mpr ⟨rfl, List.forall_mem_cons.mpr ⟨rfl, List.forall_mem_cons.mpr ⟨rfl, List.forall_mem_cons.mpr ⟨rfl, fun _ h => absurd h List.not_mem_nil⟩⟩⟩⟩⟩⟩⟩ h
        · replace h := h.1 c
          refine Pl.brN (c := (σ.1 14 x3.toNatClampNeg) = 0) (a := 356) (b := 352) (ls' := [(10, .int (σ.1 14 (x3 - (0 : Int32)).toNatClampNeg)), (3, .int (x3 - (0 : Int32))), (9, .int (σ.1 14 x3.toNatClampNeg)), (0, .ref 12), (4, .int x4), (5, .int x5), (6, .int x6), (7, .int x7)]) (st' := []) (σ' := σ) hM 2 rfl (fun c => ?_) (fun c => ?_)
          · replace h := h.2 c
            refine Pl.brN (c := (σ.1 14 x3.toNatClampNeg) = 0) (a := 373) (b := 369) (ls' := [(4, .int (0 : Int32)), (10, .int (σ.1 14 (x3 - (0 : Int32)).toNatClampNeg)), (3, .int (x3 - (0 : Int32))), (9, .int (σ.1 14 x3.toNatClampNeg)), (0, .ref 12), (5, .int x5), (6, .int x6), (7, .int x7)]) (st' := [.int (x3 - (0 : Int32)), .ref 14]) (σ' := σ) hM 7 rfl (fun c => ?_) (fun c => ?_)
            · replace h := h.2 c
              refine Pl.seg (pc' := 377) (ls' := [(4, .int (0 : Int32)), (10, .int (σ.1 14 (x3 - (0 : Int32)).toNatClampNeg)), (3, .int (x3 - (0 : Int32))), (9, .int (σ.1 14 x3.toNatClampNeg)), (0, .ref 12), (5, .int x5), (6, .int x6), (7, .int x7)]) (st' := [.int (σ.1 14 x3.toNatClampNeg), .int (σ.1 14 (x3 - (0 : Int32)).toNatClampNeg), .int (x3 - (0 : Int32)), .ref 14]) (σ' := σ) hM 2 rfl ?_
              refine Pl.weak (Pl.dv hM rfl (fun hi => ?_))
              replace h := h hi
              refine Pl.weak (Pl.iast hM rfl rfl (fun hi => ?_))
              replace h := h hi
              refine Pl.seg (pc' := 500) (ls' := [(4, .int (0 : Int32)), (10, .int (σ.1 14 (x3 - (0 : Int32)).toNatClampNeg)), (3, .int (x3 - (0 : Int32))), (9, .int (σ.1 14 x3.toNatClampNeg)), (0, .ref 12), (5, .int x5), (6, .int x6), (7, .int x7)]) (st' := []) (σ' := (s1 σ 14 (x3 - (0 : Int32)).toNatClampNeg ((σ.1 14 (x3 - (0 : Int32)).toNatClampNeg) / (σ.1 14 x3.toNatClampNeg)))) hM 1 rfl ?_
              exact Pl.live (l' := [(0, .ref 12), (3, .int (x3 - (0 : Int32))), (4, .int (0 : Int32)), (5, .int x5), (6, .int x6)]) hM lv_12 ⟨show ndL _ from (by decide : List.Nodup ([4, 10, 3, 9, 0, 5, 6, 7] : List Nat)), show ndL _ from (by decide : List.Nodup ([0, 3, 4, 5, 6] : List Nat)), by rw [lva_12_500]; exact List.forall_mem_cons.mpr ⟨rfl, List.forall_mem_cons.mpr ⟨rfl, List.forall_mem_cons.mpr ⟨rfl, List.forall_mem_cons.mpr ⟨rfl, List.forall_mem_cons.mpr ⟨rfl, fun _ h => absurd h List.not_mem_nil⟩⟩⟩⟩⟩⟩ h
            · replace h := h.1 c
              refine Pl.seg (pc' := 378) (ls' := [(4, .int (0 : Int32)), (10, .int (σ.1 14 (x3 - (0 : Int32)).toNatClampNeg)), (3, .int (x3 - (0 : Int32))), (9, .int (σ.1 14 x3.toNatClampNeg)), (0, .ref 12), (5, .int x5), (6, .int x6), (7, .int x7)]) (st' := [.int (0 : Int32), .int (x3 - (0 : Int32)), .ref 14]) (σ' := σ) hM 2 rfl ?_
              refine Pl.weak (Pl.iast hM rfl rfl (fun hi => ?_))
              replace h := h hi
              refine Pl.seg (pc' := 500) (ls' := [(4, .int (0 : Int32)), (10, .int (σ.1 14 (x3 - (0 : Int32)).toNatClampNeg)), (3, .int (x3 - (0 : Int32))), (9, .int (σ.1 14 x3.toNatClampNeg)), (0, .ref 12), (5, .int x5), (6, .int x6), (7, .int x7)]) (st' := []) (σ' := (s1 σ 14 (x3 - (0 : Int32)).toNatClampNeg (0 : Int32))) hM 1 rfl ?_
              exact Pl.live (l' := [(0, .ref 12), (3, .int (x3 - (0 : Int32))), (4, .int (0 : Int32)), (5, .int x5), (6, .int x6)]) hM lv_12 ⟨show ndL _ from (by decide : List.Nodup ([4, 10, 3, 9, 0, 5, 6, 7] : List Nat)), show ndL _ from (by decide : List.Nodup ([0, 3, 4, 5, 6] : List Nat)), by rw [lva_12_500]; exact List.forall_mem_cons.mpr ⟨rfl, List.forall_mem_cons.mpr ⟨rfl, List.forall_mem_cons.mpr ⟨rfl, List.forall_mem_cons.mpr ⟨rfl, List.forall_mem_cons.mpr ⟨rfl, fun _ h => absurd h List.not_mem_nil⟩⟩⟩⟩⟩⟩ h
          · replace h := h.1 c
            exact Pl.live (l' := [(0, .ref 12), (3, .int (x3 - (0 : Int32))), (5, .int x5), (6, .int x6), (9, .int (σ.1 14 x3.toNatClampNeg)), (10, .int (σ.1 14 (x3 - (0 : Int32)).toNatClampNeg))]) hM lv_12 ⟨show ndL _ from (by decide : List.Nodup ([10, 3, 9, 0, 4, 5, 6, 7] : List Nat)), show ndL _ from (by decide : List.Nodup ([0, 3, 5, 6, 9, 10] : List Nat)), by rw [lva_12_352]; exact List.forall_mem_cons.mpr ⟨rfl, List.forall_mem_cons.mpr ⟨rfl, List.forall_mem_cons.mpr ⟨rfl, List.forall_mem_cons.mpr ⟨rfl, List.forall_mem_cons.mpr ⟨rfl, List.forall_mem_cons.mpr ⟨rfl, fun _ h => absurd h List.not_mem_nil⟩⟩⟩⟩⟩⟩⟩ h
      | 4, c, ho =>
        have ho : some (221 : Int) = some o := ho
        cases ho
        have c : x7.toInt = 9 := by simpa using c
        replace h := h.2.2.2.2.2.1 c
        show Pl PRG n d 12 423 [(10, .int (σ.1 14 (x3 - (0 : Int32)).toNatClampNeg)), (3, .int (x3 - (0 : Int32))), (9, .int (σ.1 14 x3.toNatClampNeg)), (0, .ref 12), (4, .int x4), (5, .int x5), (6, .int x6), (7, .int x7)] [] σ Q
        exact Pl.live (l' := [(0, .ref 12), (3, .int (x3 - (0 : Int32))), (4, .int x4), (5, .int x5), (6, .int x6), (7, .int x7), (9, .int (σ.1 14 x3.toNatClampNeg)), (10, .int (σ.1 14 (x3 - (0 : Int32)).toNatClampNeg))]) hM lv_12 ⟨show ndL _ from (by decide : List.Nodup ([10, 3, 9, 0, 4, 5, 6, 7] : List Nat)), show ndL _ from (by decide : List.Nodup ([0, 3, 4, 5, 6, 7, 9, 10] : List Nat)), by rw [lva_12_423]; exact List.forall_mem_cons.mpr ⟨rfl, List.forall_mem_cons.mpr ⟨rfl, List.forall_mem_cons.mpr ⟨rfl, List.forall_mem_cons.mpr ⟨rfl, List.forall_mem_cons.mpr ⟨rfl, List.forall_mem_cons.mpr ⟨rfl, List.forall_mem_cons.mpr ⟨rfl, List.forall_mem_cons.mpr ⟨rfl, fun _ h => absurd h List.not_mem_nil⟩⟩⟩⟩⟩⟩⟩⟩⟩ h
      | 5, c, ho =>
        have ho : some (221 : Int) = some o := ho
        cases ho
        have c : x7.toInt = 10 := by simpa using c
        replace h := h.2.2.2.2.2.2.1 c
        show Pl PRG n d 12 423 [(10, .int (σ.1 14 (x3 - (0 : Int32)).toNatClampNeg)), (3, .int (x3 - (0 : Int32))), (9, .int (σ.1 14 x3.toNatClampNeg)), (0, .ref 12), (4, .int x4), (5, .int x5), (6, .int x6), (7, .int x7)] [] σ Q
        exact Pl.live (l' := [(0, .ref 12), (3, .int (x3 - (0 : Int32))), (4, .int x4), (5, .int x5), (6, .int x6), (7, .int x7), (9, .int (σ.1 14 x3.toNatClampNeg)), (10, .int (σ.1 14 (x3 - (0 : Int32)).toNatClampNeg))]) hM lv_12 ⟨show ndL _ from (by decide : List.Nodup ([10, 3, 9, 0, 4, 5, 6, 7] : List Nat)), show ndL _ from (by decide : List.Nodup ([0, 3, 4, 5, 6, 7, 9, 10] : List Nat)), by rw [lva_12_423]; exact List.forall_mem_cons.mpr ⟨rfl, List.forall_mem_cons.mpr ⟨rfl, List.forall_mem_cons.mpr ⟨rfl, List.forall_mem_cons.mpr ⟨rfl, List.forall_mem_cons.mpr ⟨rfl, List.forall_mem_cons.mpr ⟨rfl, List.forall_mem_cons.mpr ⟨rfl, List.forall_mem_cons.mpr ⟨rfl, fun _ h => absurd h List.not_mem_nil⟩⟩⟩⟩⟩⟩⟩⟩⟩ h
      | 6, c, ho =>
        have ho : some (221 : Int) = some o := ho
        cases ho
        have c : x7.toInt = 11 := by simpa using c
        replace h := h.2.2.2.2.2.2.2.1 c
        show Pl PRG n d 12 423 [(10, .int (σ.1 14 (x3 - (0 : Int32)).toNatClampNeg)), (3, .int (x3 - (0 : Int32))), (9, .int (σ.1 14 x3.toNatClampNeg)), (0, .ref 12), (4, .int x4), (5, .int x5), (6, .int x6), (7, .int x7)] [] σ Q
        exact Pl.live (l' := [(0, .ref 12), (3, .int (x3 - (0 : Int32))), (4, .int x4), (5, .int x5), (6, .int x6), (7, .int x7), (9, .int (σ.1 14 x3.toNatClampNeg)), (10, .int (σ.1 14 (x3 - (0 : Int32)).toNatClampNeg))]) hM lv_12 ⟨show ndL _ from (by decide : List.Nodup ([10, 3, 9, 0, 4, 5, 6, 7] : List Nat)), show ndL _ from (by decide : List.Nodup ([0, 3, 4, 5, 6, 7, 9, 10] : List Nat)), by rw [lva_12_423]; exact List.forall_mem_cons.mpr ⟨rfl, List.forall_mem_cons.mpr ⟨rfl, List.forall_mem_cons.mpr ⟨rfl, List.forall_mem_cons.mpr ⟨rfl, List.forall_mem_cons.mpr ⟨rfl, List.forall_mem_cons.mpr ⟨rfl, List.forall_mem_cons.mpr ⟨rfl, List.forall_mem_cons.mpr ⟨rfl, fun _ h => absurd h List.not_mem_nil⟩⟩⟩⟩⟩⟩⟩⟩⟩ h
      | 7, c, ho =>
        have ho : some (221 : Int) = some o := ho
        cases ho
        have c : x7.toInt = 12 := by simpa using c
        replace h := h.2.2.2.2.2.2.2.2.1 c
        show Pl PRG n d 12 423 [(10, .int (σ.1 14 (x3 - (0 : Int32)).toNatClampNeg)), (3, .int (x3 - (0 : Int32))), (9, .int (σ.1 14 x3.toNatClampNeg)), (0, .ref 12), (4, .int x4), (5, .int x5), (6, .int x6), (7, .int x7)] [] σ Q
        exact Pl.live (l' := [(0, .ref 12), (3, .int (x3 - (0 : Int32))), (4, .int x4), (5, .int x5), (6, .int x6), (7, .int x7), (9, .int (σ.1 14 x3.toNatClampNeg)), (10, .int (σ.1 14 (x3 - (0 : Int32)).toNatClampNeg))]) hM lv_12 ⟨show ndL _ from (by decide : List.Nodup ([10, 3, 9, 0, 4, 5, 6, 7] : List Nat)), show ndL _ from (by decide : List.Nodup ([0, 3, 4, 5, 6, 7, 9, 10] : List Nat)), by rw [lva_12_423]; exact List.forall_mem_cons.mpr ⟨rfl, List.forall_mem_cons.mpr ⟨rfl, List.forall_mem_cons.mpr ⟨rfl, List.forall_mem_cons.mpr ⟨rfl, List.forall_mem_cons.mpr ⟨rfl, List.forall_mem_cons.mpr ⟨rfl, List.forall_mem_cons.mpr ⟨rfl, List.forall_mem_cons.mpr ⟨rfl, fun _ h => absurd h List.not_mem_nil⟩⟩⟩⟩⟩⟩⟩⟩⟩ h
      | 8, c, ho =>
        have ho : some (221 : Int) = some o := ho
        cases ho
        have c : x7.toInt = 13 := by simpa using c
        replace h := h.2.2.2.2.2.2.2.2.2.1 c
        show Pl PRG n d 12 423 [(10, .int (σ.1 14 (x3 - (0 : Int32)).toNatClampNeg)), (3, .int (x3 - (0 : Int32))), (9, .int (σ.1 14 x3.toNatClampNeg)), (0, .ref 12), (4, .int x4), (5, .int x5), (6, .int x6), (7, .int x7)] [] σ Q
        exact Pl.live (l' := [(0, .ref 12), (3, .int (x3 - (0 : Int32))), (4, .int x4), (5, .int x5), (6, .int x6), (7, .int x7), (9, .int (σ.1 14 x3.toNatClampNeg)), (10, .int (σ.1 14 (x3 - (0 : Int32)).toNatClampNeg))]) hM lv_12 ⟨show ndL _ from (by decide : List.Nodup ([10, 3, 9, 0, 4, 5, 6, 7] : List Nat)), show ndL _ from (by decide : List.Nodup ([0, 3, 4, 5, 6, 7, 9, 10] : List Nat)), by rw [lva_12_423]; exact List.forall_mem_cons.mpr ⟨rfl, List.forall_mem_cons.mpr ⟨rfl, List.forall_mem_cons.mpr ⟨rfl, List.forall_mem_cons.mpr ⟨rfl, List.forall_mem_cons.mpr ⟨rfl, List.forall_mem_cons.mpr ⟨rfl, List.forall_mem_cons.mpr ⟨rfl, List.forall_mem_cons.mpr ⟨rfl, fun _ h => absurd h List.not_mem_nil⟩⟩⟩⟩⟩⟩⟩⟩⟩ h
      | 9, c, ho =>
        have ho : some (221 : Int) = some o := ho
        cases ho
        have c : x7.toInt = 14 := by simpa using c
        replace h := h.2.2.2.2.2.2.2.2.2.2.1 c
        show Pl PRG n d 12 423 [(10, .int (σ.1 14 (x3 - (0 : Int32)).toNatClampNeg)), (3, .int (x3 - (0 : Int32))), (9, .int (σ.1 14 x3.toNatClampNeg)), (0, .ref 12), (4, .int x4), (5, .int x5), (6, .int x6), (7, .int x7)] [] σ Q
        exact Pl.live (l' := [(0, .ref 12), (3, .int (x3 - (0 : Int32))), (4, .int x4), (5, .int x5), (6, .int x6), (7, .int x7), (9, .int (σ.1 14 x3.toNatClampNeg)), (10, .int (σ.1 14 (x3 - (0 : Int32)).toNatClampNeg))]) hM lv_12 ⟨show ndL _ from (by decide : List.Nodup ([10, 3, 9, 0, 4, 5, 6, 7] : List Nat)), show ndL _ from (by decide : List.Nodup ([0, 3, 4, 5, 6, 7, 9, 10] : List Nat)), by rw [lva_12_423]; exact List.forall_mem_cons.mpr ⟨rfl, List.forall_mem_cons.mpr ⟨rfl, List.forall_mem_cons.mpr ⟨rfl, List.forall_mem_cons.mpr ⟨rfl, List.forall_mem_cons.mpr ⟨rfl, List.forall_mem_cons.mpr ⟨rfl, List.forall_mem_cons.mpr ⟨rfl, List.forall_mem_cons.mpr ⟨rfl, fun _ h => absurd h List.not_mem_nil⟩⟩⟩⟩⟩⟩⟩⟩⟩ h
      | 10, c, ho =>
        have ho : some (221 : Int) = some o := ho
        cases ho
        have c : x7.toInt = 15 := by simpa using c
        replace h := h.2.2.2.2.2.2.2.2.2.2.2.1 c
        show Pl PRG n d 12 423 [(10, .int (σ.1 14 (x3 - (0 : Int32)).toNatClampNeg)), (3, .int (x3 - (0 : Int32))), (9, .int (σ.1 14 x3.toNatClampNeg)), (0, .ref 12), (4, .int x4), (5, .int x5), (6, .int x6), (7, .int x7)] [] σ Q
        exact Pl.live (l' := [(0, .ref 12), (3, .int (x3 - (0 : Int32))), (4, .int x4), (5, .int x5), (6, .int x6), (7, .int x7), (9, .int (σ.1 14 x3.toNatClampNeg)), (10, .int (σ.1 14 (x3 - (0 : Int32)).toNatClampNeg))]) hM lv_12 ⟨show ndL _ from (by decide : List.Nodup ([10, 3, 9, 0, 4, 5, 6, 7] : List Nat)), show ndL _ from (by decide : List.Nodup ([0, 3, 4, 5, 6, 7, 9, 10] : List Nat)), by rw [lva_12_423]; exact List.forall_mem_cons.mpr ⟨rfl, List.forall_mem_cons.mpr ⟨rfl, List.forall_mem_cons.mpr ⟨rfl, List.forall_mem_cons.mpr ⟨rfl, List.forall_mem_cons.mpr ⟨rfl, List.forall_mem_cons.mpr ⟨rfl, List.forall_mem_cons.mpr ⟨rfl, List.forall_mem_cons.mpr ⟨rfl, fun _ h => absurd h List.not_mem_nil⟩⟩⟩⟩⟩⟩⟩⟩⟩ h
      | 11, c, ho =>
        have ho : some (221 : Int) = some o := ho
        cases ho
        have c : x7.toInt = 16 := by simpa using c
        replace h := h.2.2.2.2.2.2.2.2.2.2.2.2.1 c
        show Pl PRG n d 12 423 [(10, .int (σ.1 14 (x3 - (0 : Int32)).toNatClampNeg)), (3, .int (x3 - (0 : Int32))), (9, .int (σ.1 14 x3.toNatClampNeg)), (0, .ref 12), (4, .int x4), (5, .int x5), (6, .int x6), (7, .int x7)] [] σ Q
        exact Pl.live (l' := [(0, .ref 12), (3, .int (x3 - (0 : Int32))), (4, .int x4), (5, .int x5), (6, .int x6), (7, .int x7), (9, .int (σ.1 14 x3.toNatClampNeg)), (10, .int (σ.1 14 (x3 - (0 : Int32)).toNatClampNeg))]) hM lv_12 ⟨show ndL _ from (by decide : List.Nodup ([10, 3, 9, 0, 4, 5, 6, 7] : List Nat)), show ndL _ from (by decide : List.Nodup ([0, 3, 4, 5, 6, 7, 9, 10] : List Nat)), by rw [lva_12_423]; exact List.forall_mem_cons.mpr ⟨rfl, List.forall_mem_cons.mpr ⟨rfl, List.forall_mem_cons.mpr ⟨rfl, List.forall_mem_cons.mpr ⟨rfl, List.forall_mem_cons.mpr ⟨rfl, List.forall_mem_cons.mpr ⟨rfl, List.forall_mem_cons.mpr ⟨rfl, List.forall_mem_cons.mpr ⟨rfl, fun _ h => absurd h List.not_mem_nil⟩⟩⟩⟩⟩⟩⟩⟩⟩ h
      | 12, c, ho =>
        have ho : some (221 : Int) = some o := ho
        cases ho
        have c : x7.toInt = 17 := by simpa using c
        replace h := h.2.2.2.2.2.2.2.2.2.2.2.2.2.1 c
        show Pl PRG n d 12 423 [(10, .int (σ.1 14 (x3 - (0 : Int32)).toNatClampNeg)), (3, .int (x3 - (0 : Int32))), (9, .int (σ.1 14 x3.toNatClampNeg)), (0, .ref 12), (4, .int x4), (5, .int x5), (6, .int x6), (7, .int x7)] [] σ Q
        exact Pl.live (l' := [(0, .ref 12), (3, .int (x3 - (0 : Int32))), (4, .int x4), (5, .int x5), (6, .int x6), (7, .int x7), (9, .int (σ.1 14 x3.toNatClampNeg)), (10, .int (σ.1 14 (x3 - (0 : Int32)).toNatClampNeg))]) hM lv_12 ⟨show ndL _ from (by decide : List.Nodup ([10, 3, 9, 0, 4, 5, 6, 7] : List Nat)), show ndL _ from (by decide : List.Nodup ([0, 3, 4, 5, 6, 7, 9, 10] : List Nat)), by rw [lva_12_423]; exact List.forall_mem_cons.mpr ⟨rfl, List.forall_mem_cons.mpr ⟨rfl, List.forall_mem_cons.mpr ⟨rfl, List.forall_mem_cons.mpr ⟨rfl, List.forall_mem_cons.mpr ⟨rfl, List.forall_mem_cons.mpr ⟨rfl, List.forall_mem_cons.mpr ⟨rfl, List.forall_mem_cons.mpr ⟨rfl, fun _ h => absurd h List.not_mem_nil⟩⟩⟩⟩⟩⟩⟩⟩⟩ h
      | 13, c, ho =>
        have ho : some (221 : Int) = some o := ho
        cases ho
        have c : x7.toInt = 18 := by simpa using c
        replace h := h.2.2.2.2.2.2.2.2.2.2.2.2.2.2.1 c
        show Pl PRG n d 12 423 [(10, .int (σ.1 14 (x3 - (0 : Int32)).toNatClampNeg)), (3, .int (x3 - (0 : Int32))), (9, .int (σ.1 14 x3.toNatClampNeg)), (0, .ref 12), (4, .int x4), (5, .int x5), (6, .int x6), (7, .int x7)] [] σ Q
        exact Pl.live (l' := [(0, .ref 12), (3, .int (x3 - (0 : Int32))), (4, .int x4), (5, .int x5), (6, .int x6), (7, .int x7), (9, .int (σ.1 14 x3.toNatClampNeg)), (10, .int (σ.1 14 (x3 - (0 : Int32)).toNatClampNeg))]) hM lv_12 ⟨show ndL _ from (by decide : List.Nodup ([10, 3, 9, 0, 4, 5, 6, 7] : List Nat)), show ndL _ from (by decide : List.Nodup ([0, 3, 4, 5, 6, 7, 9, 10] : List Nat)), by rw [lva_12_423]; exact List.forall_mem_cons.mpr ⟨rfl, List.forall_mem_cons.mpr ⟨rfl, List.forall_mem_cons.mpr ⟨rfl, List.forall_mem_cons.mpr ⟨rfl, List.forall_mem_cons.mpr ⟨rfl, List.forall_mem_cons.mpr ⟨rfl, List.forall_mem_cons.mpr ⟨rfl, List.forall_mem_cons.mpr ⟨rfl, fun _ h => absurd h List.not_mem_nil⟩⟩⟩⟩⟩⟩⟩⟩⟩ h
      | 14, c, ho =>
        have ho : some (221 : Int) = some o := ho
        cases ho
        have c : x7.toInt = 19 := by simpa using c
        replace h := h.2.2.2.2.2.2.2.2.2.2.2.2.2.2.2.1 c
        show Pl PRG n d 12 423 [(10, .int (σ.1 14 (x3 - (0 : Int32)).toNatClampNeg)), (3, .int (x3 - (0 : Int32))), (9, .int (σ.1 14 x3.toNatClampNeg)), (0, .ref 12), (4, .int x4), (5, .int x5), (6, .int x6), (7, .int x7)] [] σ Q
        exact Pl.live (l' := [(0, .ref 12), (3, .int (x3 - (0 : Int32))), (4, .int x4), (5, .int x5), (6, .int x6), (7, .int x7), (9, .int (σ.1 14 x3.toNatClampNeg)), (10, .int (σ.1 14 (x3 - (0 : Int32)).toNatClampNeg))]) hM lv_12 ⟨show ndL _ from (by decide : List.Nodup ([10, 3, 9, 0, 4, 5, 6, 7] : List Nat)), show ndL _ from (by decide : List.Nodup ([0, 3, 4, 5, 6, 7, 9, 10] : List Nat)), by rw [lva_12_423]; exact List.forall_mem_cons.mpr ⟨rfl, List.forall_mem_cons.mpr ⟨rfl, List.forall_mem_cons.mpr ⟨rfl, List.forall_mem_cons.mpr ⟨rfl, List.forall_mem_cons.mpr ⟨rfl, List.forall_mem_cons.mpr ⟨rfl, List.forall_mem_cons.mpr ⟨rfl, List.forall_mem_cons.mpr ⟨rfl, fun _ h => absurd h List.not_mem_nil⟩⟩⟩⟩⟩⟩⟩⟩⟩ h
      | 15, c, ho =>
        have ho : some (221 : Int) = some o := ho
        cases ho
        have c : x7.toInt = 20 := by simpa using c
        replace h := h.2.2.2.2.2.2.2.2.2.2.2.2.2.2.2.2.1 c
        show Pl PRG n d 12 423 [(10, .int (σ.1 14 (x3 - (0 : Int32)).toNatClampNeg)), (3, .int (x3 - (0 : Int32))), (9, .int (σ.1 14 x3.toNatClampNeg)), (0, .ref 12), (4, .int x4), (5, .int x5), (6, .int x6), (7, .int x7)] [] σ Q
        exact Pl.live (l' := [(0, .ref 12), (3, .int (x3 - (0 : Int32))), (4, .int x4), (5, .int x5), (6, .int x6), (7, .int x7), (9, .int (σ.1 14 x3.toNatClampNeg)), (10, .int (σ.1 14 (x3 - (0 : Int32)).toNatClampNeg))]) hM lv_12 ⟨show ndL _ from (by decide : List.Nodup ([10, 3, 9, 0, 4, 5, 6, 7] : List Nat)), show ndL _ from (by decide : List.Nodup ([0, 3, 4, 5, 6, 7, 9, 10] : List Nat)), by rw [lva_12_423]; exact List.forall_mem_cons.mpr ⟨rfl, List.forall_mem_cons.mpr ⟨rfl, List.forall_mem_cons.mpr ⟨rfl, List.forall_mem_cons.mpr ⟨rfl, List.forall_mem_cons.mpr ⟨rfl, List.forall_mem_cons.mpr ⟨rfl, List.forall_mem_cons.mpr ⟨rfl, List.forall_mem_cons.mpr ⟨rfl, fun _ h => absurd h List.not_mem_nil⟩⟩⟩⟩⟩⟩⟩⟩⟩ h
      | 16, c, ho =>
        have ho : some (221 : Int) = some o := ho
        cases ho
        have c : x7.toInt = 21 := by simpa using c
        replace h := h.2.2.2.2.2.2.2.2.2.2.2.2.2.2.2.2.2.1 c
        show Pl PRG n d 12 423 [(10, .int (σ.1 14 (x3 - (0 : Int32)).toNatClampNeg)), (3, .int (x3 - (0 : Int32))), (9, .int (σ.1 14 x3.toNatClampNeg)), (0, .ref 12), (4, .int x4), (5, .int x5), (6, .int x6), (7, .int x7)] [] σ Q
        exact Pl.live (l' := [(0, .ref 12), (3, .int (x3 - (0 : Int32))), (4, .int x4), (5, .int x5), (6, .int x6), (7, .int x7), (9, .int (σ.1 14 x3.toNatClampNeg)), (10, .int (σ.1 14 (x3 - (0 : Int32)).toNatClampNeg))]) hM lv_12 ⟨show ndL _ from (by decide : List.Nodup ([10, 3, 9, 0, 4, 5, 6, 7] : List Nat)), show ndL _ from (by decide : List.Nodup ([0, 3, 4, 5, 6, 7, 9, 10] : List Nat)), by rw [lva_12_423]; exact List.forall_mem_cons.mpr ⟨rfl, List.forall_mem_cons.mpr ⟨rfl, List.forall_mem_cons.mpr ⟨rfl, List.forall_mem_cons.mpr ⟨rfl, List.forall_mem_cons.mpr ⟨rfl, List.forall_mem_cons.mpr ⟨rfl, List.forall_mem_cons.mpr ⟨rfl, List.forall_mem_cons.mpr ⟨rfl, fun _ h => absurd h List.not_mem_nil⟩⟩⟩⟩⟩⟩⟩⟩⟩ h
      | 17, c, ho =>
        have ho : some (221 : Int) = some o := ho
        cases ho
        have c : x7.toInt = 22 := by simpa using c
        replace h := h.2.2.2.2.2.2.2.2.2.2.2.2.2.2.2.2.2.2.1 c
        show Pl PRG n d 12 423 [(10, .int (σ.1 14 (x3 - (0 : Int32)).toNatClampNeg)), (3, .int (x3 - (0 : Int32))), (9, .int (σ.1 14 x3.toNatClampNeg)), (0, .ref 12), (4, .int x4), (5, .int x5), (6, .int x6), (7, .int x7)] [] σ Q
        exact Pl.live (l' := [(0, .ref 12), (3, .int (x3 - (0 : Int32))), (4, .int x4), (5, .int x5), (6, .int x6), (7, .int x7), (9, .int (σ.1 14 x3.toNatClampNeg)), (10, .int (σ.1 14 (x3 - (0 : Int32)).toNatClampNeg))]) hM lv_12 ⟨show ndL _ from (by decide : List.Nodup ([10, 3, 9, 0, 4, 5, 6, 7] : List Nat)), show ndL _ from (by decide : List.Nodup ([0, 3, 4, 5, 6, 7, 9, 10] : List Nat)), by rw [lva_12_423]; exact List.forall_mem_cons.mpr ⟨rfl, List.forall_mem_cons.mpr ⟨rfl, List.forall_mem_cons.mpr ⟨rfl, List.forall_mem_cons.mpr ⟨rfl, List.forall_mem_cons.mpr ⟨rfl, List.forall_mem_cons.mpr ⟨rfl, List.forall_mem_cons.mpr ⟨rfl, List.forall_mem_cons.mpr ⟨rfl, fun _ h => absurd h List.not_mem_nil⟩⟩⟩⟩⟩⟩⟩⟩⟩ h
      | 18, c, ho =>
        have ho : some (194 : Int) = some o := ho
        cases ho
        have c : x7.toInt = 23 := by simpa using c
        replace h := h.2.2.2.2.2.2.2.2.2.2.2.2.2.2.2.2.2.2.2.1 c
        show Pl PRG n d 12 396 [(10, .int (σ.1 14 (x3 - (0 : Int32)).toNatClampNeg)), (3, .int (x3 - (0 : Int32))), (9, .int (σ.1 14 x3.toNatClampNeg)), (0, .ref 12), (4, .int x4), (5, .int x5), (6, .int x6), (7, .int x7)] [] σ Q
        refine Pl.seg (pc' := 406) (ls' := [(10, .int (σ.1 14 (x3 - (0 : Int32)).toNatClampNeg)), (3, .int (x3 - (0 : Int32))), (9, .int (σ.1 14 x3.toNatClampNeg)), (0, .ref 12), (4, .int x4), (5, .int x5), (6, .int x6), (7, .int x7)]) (st' := [.int ((σ.1 14 (x3 - (0 : Int32)).toNatClampNeg) ||| (σ.1 14 x3.toNatClampNeg)), .int (x3 - (0 : Int32)), .ref 14]) (σ' := σ) hM 6 rfl ?_
        refine Pl.weak (Pl.iast hM rfl rfl (fun hi => ?_))
        replace h := h hi
        refine Pl.seg (pc' := 500) (ls' := [(10, .int (σ.1 14 (x3 - (0 : Int32)).toNatClampNeg)), (3, .int (x3 - (0 : Int32))), (9, .int (σ.1 14 x3.toNatClampNeg)), (0, .ref 12), (4, .int x4), (5, .int x5), (6, .int x6), (7, .int x7)]) (st' := []) (σ' := (s1 σ 14 (x3 - (0 : Int32)).toNatClampNeg ((σ.1 14 (x3 - (0 : Int32)).toNatClampNeg) ||| (σ.1 14 x3.toNatClampNeg)))) hM 1 rfl ?_
        exact Pl.live (l' := [(0, .ref 12), (3, .int (x3 - (0 : Int32))), (4, .int x4), (5, .int x5), (6, .int x6)]) hM lv_12 ⟨show ndL _ from (by decide : List.Nodup ([10, 3, 9, 0, 4, 5, 6, 7] : List Nat)), show ndL _ from (by decide : List.Nodup ([0, 3, 4, 5, 6] : List Nat)), by rw [lva_12_500]; exact List.forall_mem_cons.mpr ⟨rfl, List.forall_mem_cons.mpr ⟨rfl, List.forall_mem_cons.mpr ⟨rfl, List.forall_mem_cons.mpr ⟨rfl, List.forall_mem_cons.mpr ⟨rfl, fun _ h => absurd h List.not_mem_nil⟩⟩⟩⟩⟩⟩ h
      | 19, c, ho =>
        have ho : some (180 : Int) = some o := ho
        cases ho
        have c : x7.toInt = 24 := by simpa using c
        replace h := h.2.2.2.2.2.2.2.2.2.2.2.2.2.2.2.2.2.2.2.2.1 c
        show Pl PRG n d 12 382 [(10, .int (σ.1 14 (x3 - (0 : Int32)).toNatClampNeg)), (3, .int (x3 - (0 : Int32))), (9, .int (σ.1 14 x3.toNatClampNeg)), (0, .ref 12), (4, .int x4), (5, .int x5), (6, .int x6), (7, .int x7)] [] σ Q
        refine Pl.seg (pc' := 392) (ls' := [(10, .int (σ.1 14 (x3 - (0 : Int32)).toNatClampNeg)), (3, .int (x3 - (0 : Int32))), (9, .int (σ.1 14 x3.toNatClampNeg)), (0, .ref 12), (4, .int x4), (5, .int x5), (6, .int x6), (7, .int x7)]) (st' := [.int ((σ.1 14 (x3 - (0 : Int32)).toNatClampNeg) &&& (σ.1 14 x3.toNatClampNeg)), .int (x3 - (0 : Int32)), .ref 14]) (σ' := σ) hM 6 rfl ?_
        refine Pl.weak (Pl.iast hM rfl rfl (fun hi => ?_))
        replace h := h hi
        refine Pl.seg (pc' := 500) (ls' := [(10, .int (σ.1 14 (x3 - (0 : Int32)).toNatClampNeg)), (3, .int (x3 - (0 : Int32))), (9, .int (σ.1 14 x3.toNatClampNeg)), (0, .ref 12), (4, .int x4), (5, .int x5), (6, .int x6), (7, .int x7)]) (st' := []) (σ' := (s1 σ 14 (x3 - (0 : Int32)).toNatClampNeg ((σ.1 14 (x3 - (0 : Int32)).toNatClampNeg) &&& (σ.1 14 x3.toNatClampNeg)))) hM 1 rfl ?_
        exact Pl.live (l' := [(0, .ref 12), (3, .int (x3 - (0 : Int32))), (4, .int x4), (5, .int x5), (6, .int x6)]) hM lv_12 ⟨show ndL _ from (by decide : List.Nodup ([10, 3, 9, 0, 4, 5, 6, 7] : List Nat)), show ndL _ from (by decide : List.Nodup ([0, 3, 4, 5, 6] : List Nat)), by rw [lva_12_500]; exact List.forall_mem_cons.mpr ⟨rfl, List.forall_mem_cons.mpr ⟨rfl, List.forall_mem_cons.mpr ⟨rfl, List.forall_mem_cons.mpr ⟨rfl, List.forall_mem_cons.mpr ⟨rfl, fun _ h => absurd h List.not_mem_nil⟩⟩⟩⟩⟩⟩ h
      | 20, c, ho =>
        have ho : some (208 : Int) = some o := ho
        cases ho
        have c : x7.toInt = 25 := by simpa using c
        replace h := h.2.2.2.2.2.2.2.2.2.2.2.2.2.2.2.2.2.2.2.2.2 c
        show Pl PRG n d 12 410 [(10, .int (σ.1 14 (x3 - (0 : Int32)).toNatClampNeg)), (3, .int (x3 - (0 : Int32))), (9, .int (σ.1 14 x3.toNatClampNeg)), (0, .ref 12), (4, .int x4), (5, .int x5), (6, .int x6), (7, .int x7)] [] σ Q
        refine Pl.seg (pc' := 419) (ls' := [(10, .int (σ.1 14 (x3 - (0 : Int32)).toNatClampNeg)), (3, .int (x3 - (0 : Int32))), (9, .int (σ.1 14 x3.toNatClampNeg)), (0, .ref 12), (4, .int x4), (5, .int x5), (6, .int x6), (7, .int x7)]) (st' := [.int ((1 : Int32) - (σ.1 14 x3.toNatClampNeg)), .int (x3 - (0 : Int32)), .ref 14]) (σ' := σ) hM 6 rfl ?_
        refine Pl.weak (Pl.iast hM rfl rfl (fun hi => ?_))
        replace h := h hi
        refine Pl.seg (pc' := 500) (ls' := [(10, .int (σ.1 14 (x3 - (0 : Int32)).toNatClampNeg)), (3, .int (x3 - (0 : Int32))), (9, .int (σ.1 14 x3.toNatClampNeg)), (0, .ref 12), (4, .int x4), (5, .int x5), (6, .int x6), (7, .int x7)]) (st' := []) (σ' := (s1 σ 14 (x3 - (0 : Int32)).toNatClampNeg ((1 : Int32) - (σ.1 14 x3.toNatClampNeg)))) hM 1 rfl ?_
        exact Pl.live (l' := [(0, .ref 12), (3, .int (x3 - (0 : Int32))), (4, .int x4), (5, .int x5), (6, .int x6)]) hM lv_12 ⟨show ndL _ from (by decide : List.Nodup ([10, 3, 9, 0, 4, 5, 6, 7] : List Nat)), show ndL _ from (by decide : List.Nodup ([0, 3, 4, 5, 6] : List Nat)), by rw [lva_12_500]; exact List.forall_mem_cons.mpr ⟨rfl, List.forall_mem_cons.mpr ⟨rfl, List.forall_mem_cons.mpr ⟨rfl, List.forall_mem_cons.mpr ⟨rfl, List.forall_mem_cons.mpr ⟨rfl, fun _ h => absurd h List.not_mem_nil⟩⟩⟩⟩⟩⟩ h
      | k + 21, c, ho => exact absurd ho (by intro e; have e : (none : Option Int) = some o := e; cases e)
set_option maxRecDepth 100000 in
theorem p_12_119 {n d : Nat} {Q : Option Value → Sg → Prop} (σ : Sg) (h : Q (some (.int (0 : Int32))) σ) : Pl PRG (n + 1) d 12 119 [] [] σ Q := by
  have hM : PRG[12]? = some M_12 := rfl
  refine Pl.sg1 (pc' := 120) (ls' := []) (st' := [.int (0 : Int32)]) (σ' := σ) hM 0 rfl ?_
  refine Pl.weak (Pl.ret hM rfl rfl h)
set_option maxRecDepth 100000 in
theorem p_12_121 {n d : Nat} {Q : Option Value → Sg → Prop} (σ : Sg) (x3 x4 x5 x6 x7 x8 : Int32) (h : ((x7 = (3 : Int32) → (inR (x3 + (1 : Int32)) 64 = true → Pl PRG n d 12 500 [(0, .ref 12), (3, .int (x3 + (1 : Int32))), (4, .int x4), (5, .int x5), (6, .int x6)] [] (s1 σ 14 (x3 + (1 : Int32)).toNatClampNeg x8) Q)) ∧ (¬ x7 = (3 : Int32) → (inR x8 14 = true → (inR (x3 + (1 : Int32)) 64 = true → Pl PRG n d 12 500 [(0, .ref 12), (3, .int (x3 + (1 : Int32))), (4, .int x4), (5, .int x5), (6, .int x6)] [] (s1 σ 14 (x3 + (1 : Int32)).toNatClampNeg (σ.1 13 x8.toNatClampNeg)) Q))))) : Pl PRG (n + 1) d 12 121 [(0, .ref 12), (3, .int x3), (4, .int x4), (5, .int x5), (6, .int x6), (7, .int x7), (8, .int x8)] [] σ Q := by
  have hM : PRG[12]? = some M_12 := rfl
  refine Pl.brN1 (c := x7 = (3 : Int32)) (a := 140) (b := 135) (ls' := [(3, .int (x3 + (1 : Int32))), (0, .ref 12), (4, .int x4), (5, .int x5), (6, .int x6), (7, .int x7), (8, .int x8)]) (st' := [.int (x3 + (1 : Int32)), .ref 14]) (σ' := σ) hM 6 rfl (fun c => ?_) (fun c => ?_)
  · replace h := h.2 c
    refine Pl.seg (pc' := 146) (ls' := [(3, .int (x3 + (1 : Int32))), (0, .ref 12), (4, .int x4), (5, .int x5), (6, .int x6), (7, .int x7), (8, .int x8)]) (st' := [.int x8, .ref 13, .int (x3 + (1 : Int32)), .ref 14]) (σ' := σ) hM 3 rfl ?_
    refine Pl.weak (Pl.iald hM rfl rfl (fun hi => ?_))
    replace h := h hi
    refine Pl.weak (Pl.iast hM rfl rfl (fun hi => ?_))
    replace h := h hi
    refine Pl.seg (pc' := 500) (ls' := [(3, .int (x3 + (1 : Int32))), (0, .ref 12), (4, .int x4), (5, .int x5), (6, .int x6), (7, .int x7), (8, .int x8)]) (st' := []) (σ' := (s1 σ 14 (x3 + (1 : Int32)).toNatClampNeg (σ.1 13 x8.toNatClampNeg))) hM 1 rfl ?_
    exact Pl.live (l' := [(0, .ref 12), (3, .int (x3 + (1 : Int32))), (4, .int x4), (5, .int x5), (6, .int x6)]) hM lv_12 ⟨show ndL _ from (by decide : List.Nodup ([3, 0, 4, 5, 6, 7, 8] : List Nat)), show ndL _ from (by decide : List.Nodup ([0, 3, 4, 5, 6] : List Nat)), by rw [lva_12_500]; exact List.forall_mem_cons.mpr ⟨rfl, List.forall_mem_cons.mpr ⟨rfl, List.forall_mem_cons.mpr ⟨rfl, List.forall_mem_cons.mpr ⟨rfl, List.forall_mem_cons.mpr ⟨rfl, fun _ h => absurd h List.not_mem_nil⟩⟩⟩⟩⟩⟩ h
  · replace h := h.1 c
    refine Pl.seg (pc' := 147) (ls' := [(3, .int (x3 + (1 : Int32))), (0, .ref 12), (4, .int x4), (5, .int x5), (6, .int x6), (7, .int x7), (8, .int x8)]) (st' := [.int x8, .int (x3 + (1 : Int32)), .ref 14]) (σ' := σ) hM 2 rfl ?_
    refine Pl.weak (Pl.iast hM rfl rfl (fun hi => ?_))
    replace h := h hi
    refine Pl.seg (pc' := 500) (ls' := [(3, .int (x3 + (1 : Int32))), (0, .ref 12), (4, .int x4), (5, .int x5), (6, .int x6), (7, .int x7), (8, .int x8)]) (st' := []) (σ' := (s1 σ 14 (x3 + (1 : Int32)).toNatClampNeg x8)) hM 1 rfl ?_
    exact Pl.live (l' := [(0, .ref 12), (3, .int (x3 + (1 : Int32))), (4, .int x4), (5, .int x5), (6, .int x6)]) hM lv_12 ⟨show ndL _ from (by decide : List.Nodup ([3, 0, 4, 5, 6, 7, 8] : List Nat)), show ndL _ from (by decide : List.Nodup ([0, 3, 4, 5, 6] : List Nat)), by rw [lva_12_500]; exact List.forall_mem_cons.mpr ⟨rfl, List.forall_mem_cons.mpr ⟨rfl, List.forall_mem_cons.mpr ⟨rfl, List.forall_mem_cons.mpr ⟨rfl, List.forall_mem_cons.mpr ⟨rfl, fun _ h => absurd h List.not_mem_nil⟩⟩⟩⟩⟩⟩ h
set_option maxRecDepth 100000 in
theorem p_12_423 {n d : Nat} {Q : Option Value → Sg → Prop} (σ : Sg) (x3 x4 x5 x6 x7 x9 x10 : Int32) (h : ((x4 = 0 → ((x7 = (9 : Int32) → ((x10 = x9 → (inR x3 64 = true → Pl PRG n d 12 500 [(0, .ref 12), (3, .int x3), (4, .int (0 : Int32)), (5, .int x5), (6, .int x6)] [] (s1 σ 14 x3.toNatClampNeg (1 : Int32)) Q)) ∧ (¬ x10 = x9 → (inR x3 64 = true → Pl PRG n d 12 500 [(0, .ref 12), (3, .int x3), (4, .int (0 : Int32)), (5, .int x5), (6, .int x6)] [] (s1 σ 14 x3.toNatClampNeg (0 : Int32)) Q)))) ∧ (¬ x7 = (9 : Int32) → ((x7 = (10 : Int32) → ((x10 = x9 → (inR x3 64 = true → Pl PRG n d 12 500 [(0, .ref 12), (3, .int x3), (4, .int (0 : Int32)), (5, .int x5), (6, .int x6)] [] (s1 σ 14 x3.toNatClampNeg (0 : Int32)) Q)) ∧ (¬ x10 = x9 → (inR x3 64 = true → Pl PRG n d 12 500 [(0, .ref 12), (3, .int x3), (4, .int (0 : Int32)), (5, .int x5), (6, .int x6)] [] (s1 σ 14 x3.toNatClampNeg (1 : Int32)) Q)))) ∧ (¬ x7 = (10 : Int32) → ((x7 = (11 : Int32) → ((x9 ≤ x10 → (inR x3 64 = true → Pl PRG n d 12 500 [(0, .ref 12), (3, .int x3), (4, .int (0 : Int32)), (5, .int x5), (6, .int x6)] [] (s1 σ 14 x3.toNatClampNeg (0 : Int32)) Q)) ∧ (¬ x9 ≤ x10 → (inR x3 64 = true → Pl PRG n d 12 500 [(0, .ref 12), (3, .int x3), (4, .int (0 : Int32)), (5, .int x5), (6, .int x6)] [] (s1 σ 14 x3.toNatClampNeg (1 : Int32)) Q)))) ∧ (¬ x7 = (11 : Int32) → ((x9 < x10 → (inR x3 64 = true → Pl PRG n d 12 500 [(0, .ref 12), (3, .int x3), (4, .int (0 : Int32)), (5, .int x5), (6, .int x6)] [] (s1 σ 14 x3.toNatClampNeg (0 : Int32)) Q)) ∧ (¬ x9 < x10 → (inR x3 64 = true → Pl PRG n d 12 500 [(0, .ref 12), (3, .int x3), (4, .int (0 : Int32)), (5, .int x5), (6, .int x6)] [] (s1 σ 14 x3.toNatClampNeg (1 : Int32)) Q)))))))))) ∧ (¬ x4 = 0 → (inR x3 64 = true → Pl PRG n d 12 500 [(0, .ref 12), (3, .int x3), (4, .int (0 : Int32)), (5, .int x5), (6, .int x6)] [] (s1 σ 14 x3.toNatClampNeg (0 : Int32)) Q)))) : Pl PRG (n + 1) d 12 423 [(0, .ref 12), (3, .int x3), (4, .int x4), (5, .int x5), (6, .int x6), (7, .int x7), (9, .int x9), (10, .int x10)] [] σ Q := by
  have hM : PRG[12]? = some M_12 := rfl
  refine Pl.brN1 (c := x4 = 0) (a := 495) (b := 433) (ls' := [(0, .ref 12), (3, .int x3), (4, .int x4), (5, .int x5), (6, .int x6), (7, .int x7), (9, .int x9), (10, .int x10)]) (st' := [.int x3, .ref 14]) (σ' := σ) hM 4 rfl (fun c => ?_) (fun c => ?_)
  · replace h := h.2 c
    refine Pl.seg (pc' := 496) (ls' := [(0, .ref 12), (3, .int x3), (4, .int x4), (5, .int x5), (6, .int x6), (7, .int x7), (9, .int x9), (10, .int x10)]) (st' := [.int (0 : Int32), .int x3, .ref 14]) (σ' := σ) hM 1 rfl ?_
    refine Pl.weak (Pl.iast hM rfl rfl (fun hi => ?_))
    replace h := h hi
    refine Pl.seg (pc' := 500) (ls' := [(4, .int (0 : Int32)), (0, .ref 12), (3, .int x3), (5, .int x5), (6, .int x6), (7, .int x7), (9, .int x9), (10, .int x10)]) (st' := []) (σ' := (s1 σ 14 x3.toNatClampNeg (0 : Int32))) hM 2 rfl ?_
    exact Pl.live (l' := [(0, .ref 12), (3, .int x3), (4, .int (0 : Int32)), (5, .int x5), (6, .int x6)]) hM lv_12 ⟨show ndL _ from (by decide : List.Nodup ([4, 0, 3, 5, 6, 7, 9, 10] : List Nat)), show ndL _ from (by decide : List.Nodup ([0, 3, 4, 5, 6] : List Nat)), by rw [lva_12_500]; exact List.forall_mem_cons.mpr ⟨rfl, List.forall_mem_cons.mpr ⟨rfl, List.forall_mem_cons.mpr ⟨rfl, List.forall_mem_cons.mpr ⟨rfl, List.forall_mem_cons.mpr ⟨rfl, fun _ h => absurd h List.not_mem_nil⟩⟩⟩⟩⟩⟩ h
  · replace h := h.1 c
    refine Pl.brN (c := x7 = (9 : Int32)) (a := 450) (b := 440) (ls' := [(0, .ref 12), (3, .int x3), (4, .int x4), (5, .int x5), (6, .int x6), (7, .int x7), (9, .int x9), (10, .int x10)]) (st' := [.int x3, .ref 14]) (σ' := σ) hM 3 rfl (fun c => ?_) (fun c => ?_)
    · replace h := h.2 c
      refine Pl.brN (c := x7 = (10 : Int32)) (a := 467) (b := 457) (ls' := [(0, .ref 12), (3, .int x3), (4, .int x4), (5, .int x5), (6, .int x6), (7, .int x7), (9, .int x9), (10, .int x10)]) (st' := [.int x3, .ref 14]) (σ' := σ) hM 3 rfl (fun c => ?_) (fun c => ?_)
      · replace h := h.2 c
        refine Pl.brN (c := x7 = (11 : Int32)) (a := 484) (b := 474) (ls' := [(0, .ref 12), (3, .int x3), (4, .int x4), (5, .int x5), (6, .int x6), (7, .int x7), (9, .int x9), (10, .int x10)]) (st' := [.int x3, .ref 14]) (σ' := σ) hM 3 rfl (fun c => ?_) (fun c => ?_)
        · replace h := h.2 c
          refine Pl.br (c := x9 < x10) (a := 495) (b := 491) (ls' := [(0, .ref 12), (3, .int x3), (4, .int x4), (5, .int x5), (6, .int x6), (7, .int x7), (9, .int x9), (10, .int x10)]) (st' := [.int x3, .ref 14]) (σ' := σ) hM 3 rfl (fun c => ?_) (fun c => ?_)
          · replace h := h.1 c
            refine Pl.seg (pc' := 496) (ls' := [(0, .ref 12), (3, .int x3), (4, .int x4), (5, .int x5), (6, .int x6), (7, .int x7), (9, .int x9), (10, .int x10)]) (st' := [.int (0 : Int32), .int x3, .ref 14]) (σ' := σ) hM 1 rfl ?_
            refine Pl.weak (Pl.iast hM rfl rfl (fun hi => ?_))
            replace h := h hi
            refine Pl.seg (pc' := 500) (ls' := [(4, .int (0 : Int32)), (0, .ref 12), (3, .int x3), (5, .int x5), (6, .int x6), (7, .int x7), (9, .int x9), (10, .int x10)]) (st' := []) (σ' := (s1 σ 14 x3.toNatClampNeg (0 : Int32))) hM 2 rfl ?_
            exact Pl.live (l' := [(0, .ref 12), (3, .int x3), (4, .int (0 : Int32)), (5, .int x5), (6, .int x6)]) hM lv_12 ⟨show ndL _ from (by decide : List.Nodup ([4, 0, 3, 5, 6, 7, 9, 10] : List Nat)), show ndL _ from (by decide : List.Nodup ([0, 3, 4, 5, 6] : List Nat)), by rw [lva_12_500]; exact List.forall_mem_cons.mpr ⟨rfl, List.forall_mem_cons.mpr ⟨rfl, List.forall_mem_cons.mpr ⟨rfl, List.forall_mem_cons.mpr ⟨rfl, List.forall_mem_cons.mpr ⟨rfl, fun _ h => absurd h List.not_mem_nil⟩⟩⟩⟩⟩⟩ h
          · replace h := h.2 c
            refine Pl.seg (pc' := 496) (ls' := [(0, .ref 12), (3, .int x3), (4, .int x4), (5, .int x5), (6, .int x6), (7, .int x7), (9, .int x9), (10, .int x10)]) (st' := [.int (1 : Int32), .int x3, .ref 14]) (σ' := σ) hM 2 rfl ?_
            refine Pl.weak (Pl.iast hM rfl rfl (fun hi => ?_))
            replace h := h hi
            refine Pl.seg (pc' := 500) (ls' := [(4, .int (0 : Int32)), (0, .ref 12), (3, .int x3), (5, .int x5), (6, .int x6), (7, .int x7), (9, .int x9), (10, .int x10)]) (st' := []) (σ' := (s1 σ 14 x3.toNatClampNeg (1 : Int32))) hM 2 rfl ?_
            exact Pl.live (l' := [(0, .ref 12), (3, .int x3), (4, .int (0 : Int32)), (5, .int x5), (6, .int x6)]) hM lv_12 ⟨show ndL _ from (by decide : List.Nodup ([4, 0, 3, 5, 6, 7, 9, 10] : List Nat)), show ndL _ from (by decide : List.Nodup ([0, 3, 4, 5, 6] : List Nat)), by rw [lva_12_500]; exact List.forall_mem_cons.mpr ⟨rfl, List.forall_mem_cons.mpr ⟨rfl, List.forall_mem_cons.mpr ⟨rfl, List.forall_mem_cons.mpr ⟨rfl, List.forall_mem_cons.mpr ⟨rfl, fun _ h => absurd h List.not_mem_nil⟩⟩⟩⟩⟩⟩ h
        · replace h := h.1 c
          refine Pl.br (c := x9 ≤ x10) (a := 495) (b := 481) (ls' := [(0, .ref 12), (3, .int x3), (4, .int x4), (5, .int x5), (6, .int x6), (7, .int x7), (9, .int x9), (10, .int x10)]) (st' := [.int x3, .ref 14]) (σ' := σ) hM 3 rfl (fun c => ?_) (fun c => ?_)
          · replace h := h.1 c
            refine Pl.seg (pc' := 496) (ls' := [(0, .ref 12), (3, .int x3), (4, .int x4), (5, .int x5), (6, .int x6), (7, .int x7), (9, .int x9), (10, .int x10)]) (st' := [.int (0 : Int32), .int x3, .ref 14]) (σ' := σ) hM 1 rfl ?_
            refine Pl.weak (Pl.iast hM rfl rfl (fun hi => ?_))
            replace h := h hi
            refine Pl.seg (pc' := 500) (ls' := [(4, .int (0 : Int32)), (0, .ref 12), (3, .int x3), (5, .int x5), (6, .int x6), (7, .int x7), (9, .int x9), (10, .int x10)]) (st' := []) (σ' := (s1 σ 14 x3.toNatClampNeg (0 : Int32))) hM 2 rfl ?_
            exact Pl.live (l' := [(0, .ref 12), (3, .int x3), (4, .int (0 : Int32)), (5, .int x5), (6, .int x6)]) hM lv_12 ⟨show ndL _ from (by decide : List.Nodup ([4, 0, 3, 5, 6, 7, 9, 10] : List Nat)), show ndL _ from (by decide : List.Nodup ([0, 3, 4, 5, 6] : List Nat)), by rw [lva_12_500]; exact List.forall_mem_cons.mpr ⟨rfl, List.forall_mem_cons.mpr ⟨rfl, List.forall_mem_cons.mpr ⟨rfl, List.forall_mem_cons.mpr ⟨rfl, List.forall_mem_cons.mpr ⟨rfl, fun _ h => absurd h List.not_mem_nil⟩⟩⟩⟩⟩⟩ h
          · replace h := h.2 c
            refine Pl.seg (pc' := 496) (ls' := [(0, .ref 12), (3, .int x3), (4, .int x4), (5, .int x5), (6, .int x6), (7, .int x7), (9, .int x9), (10, .int x10)]) (st' := [.int (1 : Int32), .int x3, .ref 14]) (σ' := σ) hM 3 rfl ?_
            refine Pl.weak (Pl.iast hM rfl rfl (fun hi => ?_))
            replace h := h hi
            refine Pl.seg (pc' := 500) (ls' := [(4, .int (0 : Int32)), (0, .ref 12), (3, .int x3), (5, .int x5), (6, .int x6), (7, .int x7), (9, .int x9), (10, .int x10)]) (st' := []) (σ' := (s1 σ 14 x3.toNatClampNeg (1 : Int32))) hM 2 rfl ?_
            exact Pl.live (l' := [(0, .ref 12), (3, .int x3), (4, .int (0 : Int32)), (5, .int x5), (6, .int x6)]) hM lv_12 ⟨show ndL _ from (by decide : List.Nodup ([4, 0, 3, 5, 6, 7, 9, 10] : List Nat)), show ndL _ from (by decide : List.Nodup ([0, 3, 4, 5, 6] : List Nat)), by rw [lva_12_500]; exact List.forall_mem_cons.mpr ⟨rfl, List.forall_mem_cons.mpr ⟨rfl, List.forall_mem_cons.mpr ⟨rfl, List.forall_mem_cons.mpr ⟨rfl, List.forall_mem_cons.mpr ⟨rfl, fun _ h => absurd h List.not_mem_nil⟩⟩⟩⟩⟩⟩ h
      · replace h := h.1 c
        refine Pl.br (c := x10 = x9) (a := 495) (b := 464) (ls' := [(0, .ref 12), (3, .int x3), (4, .int x4), (5, .int x5), (6, .int x6), (7, .int x7), (9, .int x9), (10, .int x10)]) (st' := [.int x3, .ref 14]) (σ' := σ) hM 3 rfl (fun c => ?_) (fun c => ?_)
        · replace h := h.1 c
          refine Pl.seg (pc' := 496) (ls' := [(0, .ref 12), (3, .int x3), (4, .int x4), (5, .int x5), (6, .int x6), (7, .int x7), (9, .int x9), (10, .int x10)]) (st' := [.int (0 : Int32), .int x3, .ref 14]) (σ' := σ) hM 1 rfl ?_
          refine Pl.weak (Pl.iast hM rfl rfl (fun hi => ?_))
          replace h := h hi
          refine Pl.seg (pc' := 500) (ls' := [(4, .int (0 : Int32)), (0, .ref 12), (3, .int x3), (5, .int x5), (6, .int x6), (7, .int x7), (9, .int x9), (10, .int x10)]) (st' := []) (σ' := (s1 σ 14 x3.toNatClampNeg (0 : Int32))) hM 2 rfl ?_
          exact Pl.live (l' := [(0, .ref 12), (3, .int x3), (4, .int (0 : Int32)), (5, .int x5), (6, .int x6)]) hM lv_12 ⟨show ndL _ from (by decide : List.Nodup ([4, 0, 3, 5, 6, 7, 9, 10] : List Nat)), show ndL _ from (by decide : List.Nodup ([0, 3, 4, 5, 6] : List Nat)), by rw [lva_12_500]; exact List.forall_mem_cons.mpr ⟨rfl, List.forall_mem_cons.mpr ⟨rfl, List.forall_mem_cons.mpr ⟨rfl, List.forall_mem_cons.mpr ⟨rfl, List.forall_mem_cons.mpr ⟨rfl, fun _ h => absurd h List.not_mem_nil⟩⟩⟩⟩⟩⟩ h
        · replace h := h.2 c
          refine Pl.seg (pc' := 496) (ls' := [(0, .ref 12), (3, .int x3), (4, .int x4), (5, .int x5), (6, .int x6), (7, .int x7), (9, .int x9), (10, .int x10)]) (st' := [.int (1 : Int32), .int x3, .ref 14]) (σ' := σ) hM 3 rfl ?_
          refine Pl.weak (Pl.iast hM rfl rfl (fun hi => ?_))
          replace h := h hi
          refine Pl.seg (pc' := 500) (ls' := [(4, .int (0 : Int32)), (0, .ref 12), (3, .int x3), (5, .int x5), (6, .int x6), (7, .int x7), (9, .int x9), (10, .int x10)]) (st' := []) (σ' := (s1 σ 14 x3.toNatClampNeg (1 : Int32))) hM 2 rfl ?_
          exact Pl.live (l' := [(0, .ref 12), (3, .int x3), (4, .int (0 : Int32)), (5, .int x5), (6, .int x6)]) hM lv_12 ⟨show ndL _ from (by decide : List.Nodup ([4, 0, 3, 5, 6, 7, 9, 10] : List Nat)), show ndL _ from (by decide : List.Nodup ([0, 3, 4, 5, 6] : List Nat)), by rw [lva_12_500]; exact List.forall_mem_cons.mpr ⟨rfl, List.forall_mem_cons.mpr ⟨rfl, List.forall_mem_cons.mpr ⟨rfl, List.forall_mem_cons.mpr ⟨rfl, List.forall_mem_cons.mpr ⟨rfl, fun _ h => absurd h List.not_mem_nil⟩⟩⟩⟩⟩⟩ h
    · replace h := h.1 c
      refine Pl.brN (c := x10 = x9) (a := 495) (b := 447) (ls' := [(0, .ref 12), (3, .int x3), (4, .int x4), (5, .int x5), (6, .int x6), (7, .int x7), (9, .int x9), (10, .int x10)]) (st' := [.int x3, .ref 14]) (σ' := σ) hM 3 rfl (fun c => ?_) (fun c => ?_)
      · replace h := h.2 c
        refine Pl.seg (pc' := 496) (ls' := [(0, .ref 12), (3, .int x3), (4, .int x4), (5, .int x5), (6, .int x6), (7, .int x7), (9, .int x9), (10, .int x10)]) (st' := [.int (0 : Int32), .int x3, .ref 14]) (σ' := σ) hM 1 rfl ?_
        refine Pl.weak (Pl.iast hM rfl rfl (fun hi => ?_))
        replace h := h hi
        refine Pl.seg (pc' := 500) (ls' := [(4, .int (0 : Int32)), (0, .ref 12), (3, .int x3), (5, .int x5), (6, .int x6), (7, .int x7), (9, .int x9), (10, .int x10)]) (st' := []) (σ' := (s1 σ 14 x3.toNatClampNeg (0 : Int32))) hM 2 rfl ?_
        exact Pl.live (l' := [(0, .ref 12), (3, .int x3), (4, .int (0 : Int32)), (5, .int x5), (6, .int x6)]) hM lv_12 ⟨show ndL _ from (by decide : List.Nodup ([4, 0, 3, 5, 6, 7, 9, 10] : List Nat)), show ndL _ from (by decide : List.Nodup ([0, 3, 4, 5, 6] : List Nat)), by rw [lva_12_500]; exact List.forall_mem_cons.mpr ⟨rfl, List.forall_mem_cons.mpr ⟨rfl, List.forall_mem_cons.mpr ⟨rfl, List.forall_mem_cons.mpr ⟨rfl, List.forall_mem_cons.mpr ⟨rfl, fun _ h => absurd h List.not_mem_nil⟩⟩⟩⟩⟩⟩ h
      · replace h := h.1 c
        refine Pl.seg (pc' := 496) (ls' := [(0, .ref 12), (3, .int x3), (4, .int x4), (5, .int x5), (6, .int x6), (7, .int x7), (9, .int x9), (10, .int x10)]) (st' := [.int (1 : Int32), .int x3, .ref 14]) (σ' := σ) hM 3 rfl ?_
        refine Pl.weak (Pl.iast hM rfl rfl (fun hi => ?_))
        replace h := h hi
        refine Pl.seg (pc' := 500) (ls' := [(4, .int (0 : Int32)), (0, .ref 12), (3, .int x3), (5, .int x5), (6, .int x6), (7, .int x7), (9, .int x9), (10, .int x10)]) (st' := []) (σ' := (s1 σ 14 x3.toNatClampNeg (1 : Int32))) hM 2 rfl ?_
        exact Pl.live (l' := [(0, .ref 12), (3, .int x3), (4, .int (0 : Int32)), (5, .int x5), (6, .int x6)]) hM lv_12 ⟨show ndL _ from (by decide : List.Nodup ([4, 0, 3, 5, 6, 7, 9, 10] : List Nat)), show ndL _ from (by decide : List.Nodup ([0, 3, 4, 5, 6] : List Nat)), by rw [lva_12_500]; exact List.forall_mem_cons.mpr ⟨rfl, List.forall_mem_cons.mpr ⟨rfl, List.forall_mem_cons.mpr ⟨rfl, List.forall_mem_cons.mpr ⟨rfl, List.forall_mem_cons.mpr ⟨rfl, fun _ h => absurd h List.not_mem_nil⟩⟩⟩⟩⟩⟩ h
set_option maxRecDepth 100000 in
theorem p_12_500 {n d : Nat} {Q : Option Value → Sg → Prop} (σ : Sg) (x3 x4 x5 x6 : Int32) (h : Pl PRG n d 12 35 [(0, .ref 12), (3, .int x3), (4, .int x4), (5, .int x5), (6, .int (x6 + (1 : Int32)))] [] σ Q) : Pl PRG (n + 1) d 12 500 [(0, .ref 12), (3, .int x3), (4, .int x4), (5, .int x5), (6, .int x6)] [] σ Q := by
  have hM : PRG[12]? = some M_12 := rfl
  refine Pl.sg1 (pc' := 35) (ls' := [(6, .int (x6 + (1 : Int32))), (0, .ref 12), (3, .int x3), (4, .int x4), (5, .int x5)]) (st' := []) (σ' := σ) hM 1 rfl ?_
  exact Pl.live (l' := [(0, .ref 12), (3, .int x3), (4, .int x4), (5, .int x5), (6, .int (x6 + (1 : Int32)))]) hM lv_12 ⟨show ndL _ from (by decide : List.Nodup ([6, 0, 3, 4, 5] : List Nat)), show ndL _ from (by decide : List.Nodup ([0, 3, 4, 5, 6] : List Nat)), by rw [lva_12_35]; exact List.forall_mem_cons.mpr ⟨rfl, List.forall_mem_cons.mpr ⟨rfl, List.forall_mem_cons.mpr ⟨rfl, List.forall_mem_cons.mpr ⟨rfl, List.forall_mem_cons.mpr ⟨rfl, fun _ h => absurd h List.not_mem_nil⟩⟩⟩⟩⟩⟩ h
set_option maxRecDepth 100000 in
theorem p_12_352 {n d : Nat} {Q : Option Value → Sg → Prop} (σ : Sg) (x3 x5 x6 x9 x10 : Int32) (h : ((x9 = 0 → (inR x3 64 = true → Pl PRG n d 12 500 [(0, .ref 12), (3, .int x3), (4, .int (1 : Int32)), (5, .int x5), (6, .int x6)] [] (s1 σ 14 x3.toNatClampNeg (0 : Int32)) Q)) ∧ (¬ x9 = 0 → (¬ x9 = 0 → (inR x3 64 = true → Pl PRG n d 12 500 [(0, .ref 12), (3, .int x3), (4, .int (1 : Int32)), (5, .int x5), (6, .int x6)] [] (s1 σ 14 x3.toNatClampNeg (x10 / x9)) Q))))) : Pl PRG (n + 1) d 12 352 [(0, .ref 12), (3, .int x3), (5, .int x5), (6, .int x6), (9, .int x9), (10, .int x10)] [] σ Q := by
  have hM : PRG[12]? = some M_12 := rfl
  refine Pl.brN1 (c := x9 = 0) (a := 373) (b := 369) (ls' := [(4, .int (1 : Int32)), (0, .ref 12), (3, .int x3), (5, .int x5), (6, .int x6), (9, .int x9), (10, .int x10)]) (st' := [.int x3, .ref 14]) (σ' := σ) hM 7 rfl (fun c => ?_) (fun c => ?_)
  · replace h := h.2 c
    refine Pl.seg (pc' := 377) (ls' := [(4, .int (1 : Int32)), (0, .ref 12), (3, .int x3), (5, .int x5), (6, .int x6), (9, .int x9), (10, .int x10)]) (st' := [.int x9, .int x10, .int x3, .ref 14]) (σ' := σ) hM 2 rfl ?_
    refine Pl.weak (Pl.dv hM rfl (fun hi => ?_))
    replace h := h hi
    refine Pl.weak (Pl.iast hM rfl rfl (fun hi => ?_))
    replace h := h hi
    refine Pl.seg (pc' := 500) (ls' := [(4, .int (1 : Int32)), (0, .ref 12), (3, .int x3), (5, .int x5), (6, .int x6), (9, .int x9), (10, .int x10)]) (st' := []) (σ' := (s1 σ 14 x3.toNatClampNeg (x10 / x9))) hM 1 rfl ?_
    exact Pl.live (l' := [(0, .ref 12), (3, .int x3), (4, .int (1 : Int32)), (5, .int x5), (6, .int x6)]) hM lv_12 ⟨show ndL _ from (by decide : List.Nodup ([4, 0, 3, 5, 6, 9, 10] : List Nat)), show ndL _ from (by decide : List.Nodup ([0, 3, 4, 5, 6] : List Nat)), by rw [lva_12_500]; exact List.forall_mem_cons.mpr ⟨rfl, List.forall_mem_cons.mpr ⟨rfl, List.forall_mem_cons.mpr ⟨rfl, List.forall_mem_cons.mpr ⟨rfl, List.forall_mem_cons.mpr ⟨rfl, fun _ h => absurd h List.not_mem_nil⟩⟩⟩⟩⟩⟩ h
  · replace h := h.1 c
    refine Pl.seg (pc' := 378) (ls' := [(4, .int (1 : Int32)), (0, .ref 12), (3, .int x3), (5, .int x5), (6, .int x6), (9, .int x9), (10, .int x10)]) (st' := [.int (0 : Int32), .int x3, .ref 14]) (σ' := σ) hM 2 rfl ?_
    refine Pl.weak (Pl.iast hM rfl rfl (fun hi => ?_))
    replace h := h hi
    refine Pl.seg (pc' := 500) (ls' := [(4, .int (1 : Int32)), (0, .ref 12), (3, .int x3), (5, .int x5), (6, .int x6), (9, .int x9), (10, .int x10)]) (st' := []) (σ' := (s1 σ 14 x3.toNatClampNeg (0 : Int32))) hM 1 rfl ?_
    exact Pl.live (l' := [(0, .ref 12), (3, .int x3), (4, .int (1 : Int32)), (5, .int x5), (6, .int x6)]) hM lv_12 ⟨show ndL _ from (by decide : List.Nodup ([4, 0, 3, 5, 6, 9, 10] : List Nat)), show ndL _ from (by decide : List.Nodup ([0, 3, 4, 5, 6] : List Nat)), by rw [lva_12_500]; exact List.forall_mem_cons.mpr ⟨rfl, List.forall_mem_cons.mpr ⟨rfl, List.forall_mem_cons.mpr ⟨rfl, List.forall_mem_cons.mpr ⟨rfl, List.forall_mem_cons.mpr ⟨rfl, fun _ h => absurd h List.not_mem_nil⟩⟩⟩⟩⟩⟩ h
set_option maxRecDepth 100000 in
theorem p_85_0 {n d : Nat} {Q : Option Value → Sg → Prop} (σ : Sg) (h : (((σ.1 3 10) ≤ 0 → Q (some (.int (0 : Int32))) σ) ∧ (¬ (σ.1 3 10) ≤ 0 → (¬ (σ.1 3 10) = 0 → Q (some (.int (((σ.1 3 15) * (σ.1 3 11)) / (σ.1 3 10)))) σ)))) : Pl PRG (n + 1) d 85 0 [(0, .ref 96)] [] σ Q := by
  have hM : PRG[85]? = some M_85 := rfl
  refine Pl.br1 (c := (σ.1 3 10) ≤ 0) (a := 36) (b := 10) (ls' := [(0, .ref 96)]) (st' := []) (σ' := σ) hM 3 rfl (fun c => ?_) (fun c => ?_)
  · replace h := h.1 c
    refine Pl.seg (pc' := 37) (ls' := [(0, .ref 96)]) (st' := [.int (0 : Int32)]) (σ' := σ) hM 1 rfl ?_
    refine Pl.weak (Pl.ret hM rfl rfl h)
  · replace h := h.2 c
    refine Pl.seg (pc' := 32) (ls' := [(0, .ref 96)]) (st' := [.int (σ.1 3 10), .int ((σ.1 3 15) * (σ.1 3 11))]) (σ' := σ) hM 10 rfl ?_
    refine Pl.weak (Pl.dv hM rfl (fun hi => ?_))
    replace h := h hi
    refine Pl.seg (pc' := 37) (ls' := [(0, .ref 96)]) (st' := [.int (((σ.1 3 15) * (σ.1 3 11)) / (σ.1 3 10))]) (σ' := σ) hM 1 rfl ?_
    refine Pl.weak (Pl.ret hM rfl rfl h)
def LV_86 : List (Nat × List Nat) := [(0, [0, 1, 2]), (1, [0, 1, 2]), (4, [0, 1, 2]), (5, [0, 1]), (6, [0, 1]), (7, [0, 1]), (8, [0, 1]), (11, [0, 1]), (12, [0, 1]), (15, [0, 1]), (18, [0, 1]), (19, [0, 1]), (20, [0, 1]), (23, [0, 1]), (24, [1]), (27, [1]), (28, []), (29, []), (32, []), (35, []), (36, []), (39, []), (40, [])]
set_option maxRecDepth 100000 in
theorem lv_86 : chkLv M_86 LV_86 = true := by decide +kernel
set_option maxRecDepth 100000 in
theorem lva_86_39 : lvA LV_86 39 = [] := by decide +kernel
set_option maxRecDepth 100000 in
theorem p_86_0 {n d : Nat} {Q : Option Value → Sg → Prop} (σ : Sg) (x1 x2 : Int32) (h : (∀ σ1, RCx PRG n 10 [.ref 12, .int x2, .int (-1 : Int32), .int (0 : Int32), .int (-1 : Int32)] σ none σ1 → (inR x1 6 = true → (((σ1.1 5 x1.toNatClampNeg) = 0 → (∀ w3 σ2, RCx PRG n 12 [.ref 12, .int x1, .int (0 : Int32)] σ1 (some (.int w3)) σ2 → (w3 = 0 ∨ w3 = 1) → ((w3 = 0 → Pl PRG n d 86 39 [] [] σ2 Q) ∧ (¬ w3 = 0 → Q (some (.int (1 : Int32))) σ2)))) ∧ (¬ (σ1.1 5 x1.toNatClampNeg) = 0 → Pl PRG n d 86 39 [] [] σ1 Q))))) : Pl PRG (n + 1) d 86 0 [(0, .ref 96), (1, .int x1), (2, .int x2)] [] σ Q := by
  have hM : PRG[86]? = some M_86 := rfl
  refine Pl.sg1 (pc' := 8) (ls' := [(0, .ref 96), (1, .int x1), (2, .int x2)]) (st' := [.int (-1 : Int32), .int (0 : Int32), .int (-1 : Int32), .int x2, .ref 12]) (σ' := σ) hM 5 rfl ?_
  refine Pl.weak (Pl.cV hM rfl rfl (by decide) (Mj := M_10) rfl rfl (fun σ1 hw => ?_))
  replace h := h σ1 hw
  refine Pl.seg (pc' := 19) (ls' := [(0, .ref 96), (1, .int x1), (2, .int x2)]) (st' := [.int x1, .ref 5]) (σ' := σ1) hM 4 rfl ?_
  refine Pl.weak (Pl.iald hM rfl rfl (fun hi => ?_))
  replace h := h hi
  refine Pl.brN (c := (σ1.1 5 x1.toNatClampNeg) = 0) (a := 39) (b := 23) (ls' := [(0, .ref 96), (1, .int x1), (2, .int x2)]) (st' := []) (σ' := σ1) hM 1 rfl (fun c => ?_) (fun c => ?_)
  · replace h := h.2 c
    exact Pl.live (l' := []) hM lv_86 ⟨show ndL _ from (by decide : List.Nodup ([0, 1, 2] : List Nat)), show ndL _ from (by decide : List.Nodup ([] : List Nat)), by rw [lva_86_39]; exact fun _ h => absurd h List.not_mem_nil⟩ h
  · replace h := h.1 c
    refine Pl.seg (pc' := 29) (ls' := [(0, .ref 96), (1, .int x1), (2, .int x2)]) (st' := [.int (0 : Int32), .int x1, .ref 12]) (σ' := σ1) hM 4 rfl ?_
    refine Pl.weak (Pl.cZ hM rfl rfl (by decide) (Mj := M_12) rfl rfl (fun w3 σ2 hw hz => ?_))
    replace h := h w3 σ2 hw hz
    refine Pl.br (c := w3 = 0) (a := 39) (b := 35) (ls' := [(0, .ref 96), (1, .int x1), (2, .int x2)]) (st' := []) (σ' := σ2) hM 1 rfl (fun c => ?_) (fun c => ?_)
    · replace h := h.1 c
      exact Pl.live (l' := []) hM lv_86 ⟨show ndL _ from (by decide : List.Nodup ([0, 1, 2] : List Nat)), show ndL _ from (by decide : List.Nodup ([] : List Nat)), by rw [lva_86_39]; exact fun _ h => absurd h List.not_mem_nil⟩ h
    · replace h := h.2 c
      refine Pl.seg (pc' := 40) (ls' := [(0, .ref 96), (1, .int x1), (2, .int x2)]) (st' := [.int (1 : Int32)]) (σ' := σ2) hM 2 rfl ?_
      refine Pl.weak (Pl.ret hM rfl rfl h)
set_option maxRecDepth 100000 in
theorem p_86_39 {n d : Nat} {Q : Option Value → Sg → Prop} (σ : Sg) (h : Q (some (.int (0 : Int32))) σ) : Pl PRG (n + 1) d 86 39 [] [] σ Q := by
  have hM : PRG[86]? = some M_86 := rfl
  refine Pl.sg1 (pc' := 40) (ls' := []) (st' := [.int (0 : Int32)]) (σ' := σ) hM 0 rfl ?_
  refine Pl.weak (Pl.ret hM rfl rfl h)
def LV_87 : List (Nat × List Nat) := [(0, [0, 1]), (1, [0, 1]), (2, [0, 1, 2]), (3, [0, 1, 2]), (4, [0, 1, 2, 3]), (5, [0, 1, 2, 3]), (6, [0, 1, 2, 3]), (9, [0, 1, 2, 3]), (12, [0, 1, 2, 3]), (15, [0, 1, 2, 3]), (16, [0, 1, 3]), (17, [0, 1, 3]), (18, [0, 1, 3]), (19, [0, 1, 3]), (22, [0, 1, 3]), (25, [0, 1, 3]), (26, [0, 1, 3]), (29, [0, 1, 3]), (32, [0, 1, 3]), (33, [0, 1, 3]), (34, [0, 1, 3]), (35, [0, 1, 2, 3]), (38, [0, 1, 2, 3]), (41, [2]), (42, [])]
set_option maxRecDepth 100000 in
theorem lv_87 : chkLv M_87 LV_87 = true := by decide +kernel
set_option maxRecDepth 100000 in
theorem lva_87_4 : lvA LV_87 4 = [0, 1, 2, 3] := by decide +kernel
set_option maxRecDepth 100000 in
theorem p_87_0 {n d : Nat} {Q : Option Value → Sg → Prop} (σ : Sg) (x1 : Int32) (h : Pl PRG n d 87 4 [(0, .ref 96), (1, .int x1), (2, .int (0 : Int32)), (3, .int (0 : Int32))] [] σ Q) : Pl PRG (n + 1) d 87 0 [(0, .ref 96), (1, .int x1)] [] σ Q := by
  have hM : PRG[87]? = some M_87 := rfl
  refine Pl.sg1 (pc' := 4) (ls' := [(3, .int (0 : Int32)), (2, .int (0 : Int32)), (0, .ref 96), (1, .int x1)]) (st' := []) (σ' := σ) hM 3 rfl ?_
  exact Pl.live (l' := [(0, .ref 96), (1, .int x1), (2, .int (0 : Int32)), (3, .int (0 : Int32))]) hM lv_87 ⟨show ndL _ from (by decide : List.Nodup ([3, 2, 0, 1] : List Nat)), show ndL _ from (by decide : List.Nodup ([0, 1, 2, 3] : List Nat)), by rw [lva_87_4]; exact List.forall_mem_cons.mpr ⟨rfl, List.forall_mem_cons.mpr ⟨rfl, List.forall_mem_cons.mpr ⟨rfl, List.forall_mem_cons.mpr ⟨rfl, fun _ h => absurd h List.not_mem_nil⟩⟩⟩⟩⟩ h
set_option maxRecDepth 100000 in
theorem p_87_4 {n d : Nat} {Q : Option Value → Sg → Prop} (σ : Sg) (x1 x2 x3 : Int32) (h : (((σ.1 3 10) ≤ x3 → Q (some (.int x2)) σ) ∧ (¬ (σ.1 3 10) ≤ x3 → (∀ w2 σ1, RCx PRG n 86 [.ref 96, .int x1, .int x3] σ (some (.int w2)) σ1 → (w2 = 0 ∨ w2 = 1) → ((w2 = 0 → Pl PRG n d 87 4 [(0, .ref 96), (1, .int x1), (2, .int (x2 + (0 : Int32))), (3, .int (x3 + (1 : Int32)))] [] σ1 Q) ∧ (¬ w2 = 0 → (∀ w4 σ3, RCx PRG n 85 [.ref 96] σ1 (some (.int w4)) σ3 → Pl PRG n d 87 4 [(0, .ref 96), (1, .int x1), (2, .int (x2 + w4)), (3, .int (x3 + (1 : Int32)))] [] σ3 Q))))))) : Pl PRG (n + 1) d 87 4 [(0, .ref 96), (1, .int x1), (2, .int x2), (3, .int x3)] [] σ Q := by
  have hM : PRG[87]? = some M_87 := rfl
  refine Pl.br1 (c := (σ.1 3 10) ≤ x3) (a := 41) (b := 15) (ls' := [(0, .ref 96), (1, .int x1), (2, .int x2), (3, .int x3)]) (st' := []) (σ' := σ) hM 4 rfl (fun c => ?_) (fun c => ?_)
  · replace h := h.1 c
    refine Pl.seg (pc' := 42) (ls' := [(0, .ref 96), (1, .int x1), (2, .int x2), (3, .int x3)]) (st' := [.int x2]) (σ' := σ) hM 1 rfl ?_
    refine Pl.weak (Pl.ret hM rfl rfl h)
  · replace h := h.2 c
    refine Pl.seg (pc' := 19) (ls' := [(0, .ref 96), (1, .int x1), (2, .int x2), (3, .int x3)]) (st' := [.int x3, .int x1, .ref 96, .int x2]) (σ' := σ) hM 4 rfl ?_
    refine Pl.weak (Pl.cZ hM rfl rfl (by decide) (Mj := M_86) rfl rfl (fun w2 σ1 hw hz => ?_))
    replace h := h w2 σ1 hw hz
    refine Pl.br (c := w2 = 0) (a := 32) (b := 25) (ls' := [(0, .ref 96), (1, .int x1), (2, .int x2), (3, .int x3)]) (st' := [.int x2]) (σ' := σ1) hM 1 rfl (fun c => ?_) (fun c => ?_)
    · replace h := h.1 c
      refine Pl.seg (pc' := 4) (ls' := [(3, .int (x3 + (1 : Int32))), (2, .int (x2 + (0 : Int32))), (0, .ref 96), (1, .int x1)]) (st' := []) (σ' := σ1) hM 5 rfl ?_
      exact Pl.live (l' := [(0, .ref 96), (1, .int x1), (2, .int (x2 + (0 : Int32))), (3, .int (x3 + (1 : Int32)))]) hM lv_87 ⟨show ndL _ from (by decide : List.Nodup ([3, 2, 0, 1] : List Nat)), show ndL _ from (by decide : List.Nodup ([0, 1, 2, 3] : List Nat)), by rw [lva_87_4]; exact List.forall_mem_cons.mpr ⟨rfl, List.forall_mem_cons.mpr ⟨rfl, List.forall_mem_cons.mpr ⟨rfl, List.forall_mem_cons.mpr ⟨rfl, fun _ h => absurd h List.not_mem_nil⟩⟩⟩⟩⟩ h
    · replace h := h.2 c
      refine Pl.seg (pc' := 26) (ls' := [(0, .ref 96), (1, .int x1), (2, .int x2), (3, .int x3)]) (st' := [.ref 96, .int x2]) (σ' := σ1) hM 1 rfl ?_
      refine Pl.weak (Pl.cI hM rfl rfl (by decide) (Mj := M_85) rfl rfl (fun w4 σ3 hw => ?_))
      replace h := h w4 σ3 hw
      refine Pl.seg (pc' := 4) (ls' := [(3, .int (x3 + (1 : Int32))), (2, .int (x2 + w4)), (0, .ref 96), (1, .int x1)]) (st' := []) (σ' := σ3) hM 5 rfl ?_
      exact Pl.live (l' := [(0, .ref 96), (1, .int x1), (2, .int (x2 + w4)), (3, .int (x3 + (1 : Int32)))]) hM lv_87 ⟨show ndL _ from (by decide : List.Nodup ([3, 2, 0, 1] : List Nat)), show ndL _ from (by decide : List.Nodup ([0, 1, 2, 3] : List Nat)), by rw [lva_87_4]; exact List.forall_mem_cons.mpr ⟨rfl, List.forall_mem_cons.mpr ⟨rfl, List.forall_mem_cons.mpr ⟨rfl, List.forall_mem_cons.mpr ⟨rfl, fun _ h => absurd h List.not_mem_nil⟩⟩⟩⟩⟩ h
def LV_88 : List (Nat × List Nat) := [(0, [0, 1]), (1, [0, 1]), (2, [0, 1, 2]), (3, [0, 1, 2]), (4, [0, 1, 2, 3]), (5, [0, 1, 2, 3]), (6, [0, 1, 2, 3]), (9, [0, 1, 2, 3]), (12, [0, 1, 2, 3]), (15, [0, 1, 2, 3]), (16, [0, 1, 2, 3]), (17, [0, 1, 2, 3]), (18, [0, 1, 2, 3]), (21, [0, 1, 2, 3]), (24, [0, 1, 2, 3]), (27, [0, 1, 2, 3]), (28, [0, 1, 2, 3]), (30, [0, 1, 2, 3, 4]), (32, [0, 1, 2, 3, 4]), (33, [0, 1, 2, 3, 4]), (36, [0, 1, 2, 3, 4]), (39, [0, 1, 2, 3, 4]), (42, [0, 1, 2, 3, 4]), (43, [0, 1, 2, 3, 4]), (46, [0, 1, 2, 3, 4]), (49, [0, 1, 2, 3, 4]), (51, [0, 1, 2, 3, 4]), (52, [0, 1, 2, 3, 4]), (53, [0, 1, 2, 3, 4]), (54, [0, 1, 2, 3, 4]), (55, [0, 1, 2, 3, 4]), (56, [0, 1, 2, 3, 4]), (59, [0, 1, 2, 3, 4]), (60, [0, 1, 2, 3, 4]), (63, [0, 1, 2, 3, 4]), (64, [0, 1, 2, 3, 4]), (67, [0, 1, 2, 3, 4]), (70, [0, 1, 2, 3, 4]), (72, [0, 1, 2, 3, 4]), (73, [0, 1, 2, 3, 4]), (76, [0, 1, 2, 3, 4]), (77, [0, 1, 3, 4]), (78, [0, 1, 3, 4]), (81, [0, 1, 3, 4]), (82, [0, 1, 3, 4]), (83, [0, 1, 3, 4]), (86, [0, 1, 3, 4]), (89, [0, 1, 3, 4]), (90, [0, 1, 3, 4]), (93, [0, 1, 3, 4]), (94, [0, 1, 3, 4]), (95, [0, 1, 3, 4]), (96, [0, 1, 2, 3, 4]), (99, [0, 1, 2, 3, 4]), (102, [0, 1, 2, 3]), (105, [0, 1, 2, 3]), (108, [2]), (109, [])]
set_option maxRecDepth 100000 in
theorem lv_88 : chkLv M_88 LV_88 = true := by decide +kernel
set_option maxRecDepth 100000 in
theorem lva_88_4 : lvA LV_88 4 = [0, 1, 2, 3] := by decide +kernel
set_option maxRecDepth 100000 in
theorem lva_88_30 : lvA LV_88 30 = [0, 1, 2, 3, 4] := by decide +kernel
set_option maxRecDepth 100000 in
theorem lva_88_96 : lvA LV_88 96 = [0, 1, 2, 3, 4] := by decide +kernel
set_option maxRecDepth 100000 in
theorem lva_88_102 : lvA LV_88 102 = [0, 1, 2, 3] := by decide +kernel
set_option maxRecDepth 100000 in
theorem p_88_0 {n d : Nat} {Q : Option Value → Sg → Prop} (σ : Sg) (x1 : Int32) (h : Pl PRG n d 88 4 [(0, .ref 96), (1, .int x1), (2, .int (0 : Int32)), (3, .int (0 : Int32))] [] σ Q) : Pl PRG (n + 1) d 88 0 [(0, .ref 96), (1, .int x1)] [] σ Q := by
  have hM : PRG[88]? = some M_88 := rfl
  refine Pl.sg1 (pc' := 4) (ls' := [(3, .int (0 : Int32)), (2, .int (0 : Int32)), (0, .ref 96), (1, .int x1)]) (st' := []) (σ' := σ) hM 3 rfl ?_
  exact Pl.live (l' := [(0, .ref 96), (1, .int x1), (2, .int (0 : Int32)), (3, .int (0 : Int32))]) hM lv_88 ⟨show ndL _ from (by decide : List.Nodup ([3, 2, 0, 1] : List Nat)), show ndL _ from (by decide : List.Nodup ([0, 1, 2, 3] : List Nat)), by rw [lva_88_4]; exact List.forall_mem_cons.mpr ⟨rfl, List.forall_mem_cons.mpr ⟨rfl, List.forall_mem_cons.mpr ⟨rfl, List.forall_mem_cons.mpr ⟨rfl, fun _ h => absurd h List.not_mem_nil⟩⟩⟩⟩⟩ h
set_option maxRecDepth 100000 in
theorem p_88_4 {n d : Nat} {Q : Option Value → Sg → Prop} (σ : Sg) (x1 x2 x3 : Int32) (h : (((σ.1 3 10) ≤ x3 → Q (some (.int x2)) σ) ∧ (¬ (σ.1 3 10) ≤ x3 → (∀ w2 σ1, RCx PRG n 86 [.ref 96, .int x1, .int x3] σ (some (.int w2)) σ1 → (w2 = 0 ∨ w2 = 1) → ((w2 = 0 → Pl PRG n d 88 102 [(0, .ref 96), (1, .int x1), (2, .int x2), (3, .int x3)] [] σ1 Q) ∧ (¬ w2 = 0 → Pl PRG n d 88 30 [(0, .ref 96), (1, .int x1), (2, .int x2), (3, .int x3), (4, .int (0 : Int32))] [] σ1 Q)))))) : Pl PRG (n + 1) d 88 4 [(0, .ref 96), (1, .int x1), (2, .int x2), (3, .int x3)] [] σ Q := by
  have hM : PRG[88]? = some M_88 := rfl
  refine Pl.br1 (c := (σ.1 3 10) ≤ x3) (a := 108) (b := 15) (ls' := [(0, .ref 96), (1, .int x1), (2, .int x2), (3, .int x3)]) (st' := []) (σ' := σ) hM 4 rfl (fun c => ?_) (fun c => ?_)
  · replace h := h.1 c
    refine Pl.seg (pc' := 109) (ls' := [(0, .ref 96), (1, .int x1), (2, .int x2), (3, .int x3)]) (st' := [.int x2]) (σ' := σ) hM 1 rfl ?_
    refine Pl.weak (Pl.ret hM rfl rfl h)
  · replace h := h.2 c
    refine Pl.seg (pc' := 18) (ls' := [(0, .ref 96), (1, .int x1), (2, .int x2), (3, .int x3)]) (st' := [.int x3, .int x1, .ref 96]) (σ' := σ) hM 3 rfl ?_
    refine Pl.weak (Pl.cZ hM rfl rfl (by decide) (Mj := M_86) rfl rfl (fun w2 σ1 hw hz => ?_))
    replace h := h w2 σ1 hw hz
    refine Pl.brN (c := w2 = 0) (a := 27) (b := 24) (ls' := [(0, .ref 96), (1, .int x1), (2, .int x2), (3, .int x3)]) (st' := []) (σ' := σ1) hM 1 rfl (fun c => ?_) (fun c => ?_)
    · replace h := h.2 c
      refine Pl.seg (pc' := 30) (ls' := [(4, .int (0 : Int32)), (0, .ref 96), (1, .int x1), (2, .int x2), (3, .int x3)]) (st' := []) (σ' := σ1) hM 2 rfl ?_
      exact Pl.live (l' := [(0, .ref 96), (1, .int x1), (2, .int x2), (3, .int x3), (4, .int (0 : Int32))]) hM lv_88 ⟨show ndL _ from (by decide : List.Nodup ([4, 0, 1, 2, 3] : List Nat)), show ndL _ from (by decide : List.Nodup ([0, 1, 2, 3, 4] : List Nat)), by rw [lva_88_30]; exact List.forall_mem_cons.mpr ⟨rfl, List.forall_mem_cons.mpr ⟨rfl, List.forall_mem_cons.mpr ⟨rfl, List.forall_mem_cons.mpr ⟨rfl, List.forall_mem_cons.mpr ⟨rfl, fun _ h => absurd h List.not_mem_nil⟩⟩⟩⟩⟩⟩ h
    · replace h := h.1 c
      refine Pl.seg (pc' := 102) (ls' := [(0, .ref 96), (1, .int x1), (2, .int x2), (3, .int x3)]) (st' := []) (σ' := σ1) hM 1 rfl ?_
      exact Pl.live (l' := [(0, .ref 96), (1, .int x1), (2, .int x2), (3, .int x3)]) hM lv_88 ⟨show ndL _ from (by decide : List.Nodup ([0, 1, 2, 3] : List Nat)), show ndL _ from (by decide : List.Nodup ([0, 1, 2, 3] : List Nat)), by rw [lva_88_102]; exact List.forall_mem_cons.mpr ⟨rfl, List.forall_mem_cons.mpr ⟨rfl, List.forall_mem_cons.mpr ⟨rfl, List.forall_mem_cons.mpr ⟨rfl, fun _ h => absurd h List.not_mem_nil⟩⟩⟩⟩⟩ h
set_option maxRecDepth 100000 in
theorem p_88_30 {n d : Nat} {Q : Option Value → Sg → Prop} (σ : Sg) (x1 x2 x3 x4 : Int32) (h : (((σ.1 3 15) ≤ x4 → Pl PRG n d 88 102 [(0, .ref 96), (1, .int x1), (2, .int x2), (3, .int x3)] [] σ Q) ∧ (¬ (σ.1 3 15) ≤ x4 → (inR x4 1820 = true → (((((σ.1 11 x4.toNatClampNeg) >>> (x3 &&& 31)) &&& (1 : Int32)) = 0 → Pl PRG n d 88 96 [(0, .ref 96), (1, .int x1), (2, .int x2), (3, .int x3), (4, .int x4)] [] σ Q) ∧ (¬ (((σ.1 11 x4.toNatClampNeg) >>> (x3 &&& 31)) &&& (1 : Int32)) = 0 → (inR x4 1820 = true → (∀ σ1, RCx PRG n 11 [.ref 12, .int (σ.1 11 x4.toNatClampNeg)] σ none σ1 → (∀ w3 σ2, RCx PRG n 12 [.ref 12, .int x1, .int (1 : Int32)] σ1 (some (.int w3)) σ2 → (w3 = 0 ∨ w3 = 1) → ((w3 = 0 → Pl PRG n d 88 96 [(0, .ref 96), (1, .int x1), (2, .int (x2 + (0 : Int32))), (3, .int x3), (4, .int x4)] [] σ2 Q) ∧ (¬ w3 = 0 → Pl PRG n d 88 96 [(0, .ref 96), (1, .int x1), (2, .int (x2 + (1 : Int32))), (3, .int x3), (4, .int x4)] [] σ2 Q))))))))))) : Pl PRG (n + 1) d 88 30 [(0, .ref 96), (1, .int x1), (2, .int x2), (3, .int x3), (4, .int x4)] [] σ Q := by
  have hM : PRG[88]? = some M_88 := rfl
  refine Pl.br1 (c := (σ.1 3 15) ≤ x4) (a := 102) (b := 42) (ls' := [(0, .ref 96), (1, .int x1), (2, .int x2), (3, .int x3), (4, .int x4)]) (st' := []) (σ' := σ) hM 4 rfl (fun c => ?_) (fun c => ?_)
  · replace h := h.1 c
    exact Pl.live (l' := [(0, .ref 96), (1, .int x1), (2, .int x2), (3, .int x3)]) hM lv_88 ⟨show ndL _ from (by decide : List.Nodup ([0, 1, 2, 3, 4] : List Nat)), show ndL _ from (by decide : List.Nodup ([0, 1, 2, 3] : List Nat)), by rw [lva_88_102]; exact List.forall_mem_cons.mpr ⟨rfl, List.forall_mem_cons.mpr ⟨rfl, List.forall_mem_cons.mpr ⟨rfl, List.forall_mem_cons.mpr ⟨rfl, fun _ h => absurd h List.not_mem_nil⟩⟩⟩⟩⟩ h
  · replace h := h.2 c
    refine Pl.seg (pc' := 51) (ls' := [(0, .ref 96), (1, .int x1), (2, .int x2), (3, .int x3), (4, .int x4)]) (st' := [.int x4, .ref 11]) (σ' := σ) hM 4 rfl ?_
    refine Pl.weak (Pl.iald hM rfl rfl (fun hi => ?_))
    replace h := h hi
    refine Pl.br (c := (((σ.1 11 x4.toNatClampNeg) >>> (x3 &&& 31)) &&& (1 : Int32)) = 0) (a := 96) (b := 59) (ls' := [(0, .ref 96), (1, .int x1), (2, .int x2), (3, .int x3), (4, .int x4)]) (st' := []) (σ' := σ) hM 5 rfl (fun c => ?_) (fun c => ?_)
    · replace h := h.1 c
      exact Pl.live (l' := [(0, .ref 96), (1, .int x1), (2, .int x2), (3, .int x3), (4, .int x4)]) hM lv_88 ⟨show ndL _ from (by decide : List.Nodup ([0, 1, 2, 3, 4] : List Nat)), show ndL _ from (by decide : List.Nodup ([0, 1, 2, 3, 4] : List Nat)), by rw [lva_88_96]; exact List.forall_mem_cons.mpr ⟨rfl, List.forall_mem_cons.mpr ⟨rfl, List.forall_mem_cons.mpr ⟨rfl, List.forall_mem_cons.mpr ⟨rfl, List.forall_mem_cons.mpr ⟨rfl, fun _ h => absurd h List.not_mem_nil⟩⟩⟩⟩⟩⟩ h
    · replace h := h.2 c
      refine Pl.seg (pc' := 72) (ls' := [(0, .ref 96), (1, .int x1), (2, .int x2), (3, .int x3), (4, .int x4)]) (st' := [.int x4, .ref 11, .ref 12]) (σ' := σ) hM 6 rfl ?_
      refine Pl.weak (Pl.iald hM rfl rfl (fun hi => ?_))
      replace h := h hi
      refine Pl.weak (Pl.cV hM rfl rfl (by decide) (Mj := M_11) rfl rfl (fun σ1 hw => ?_))
      replace h := h σ1 hw
      refine Pl.seg (pc' := 83) (ls' := [(0, .ref 96), (1, .int x1), (2, .int x2), (3, .int x3), (4, .int x4)]) (st' := [.int (1 : Int32), .int x1, .ref 12, .int x2]) (σ' := σ1) hM 5 rfl ?_
      refine Pl.weak (Pl.cZ hM rfl rfl (by decide) (Mj := M_12) rfl rfl (fun w3 σ2 hw hz => ?_))
      replace h := h w3 σ2 hw hz
      refine Pl.br (c := w3 = 0) (a := 93) (b := 89) (ls' := [(0, .ref 96), (1, .int x1), (2, .int x2), (3, .int x3), (4, .int x4)]) (st' := [.int x2]) (σ' := σ2) hM 1 rfl (fun c => ?_) (fun c => ?_)
      · replace h := h.1 c
        refine Pl.seg (pc' := 96) (ls' := [(2, .int (x2 + (0 : Int32))), (0, .ref 96), (1, .int x1), (3, .int x3), (4, .int x4)]) (st' := []) (σ' := σ2) hM 3 rfl ?_
        exact Pl.live (l' := [(0, .ref 96), (1, .int x1), (2, .int (x2 + (0 : Int32))), (3, .int x3), (4, .int x4)]) hM lv_88 ⟨show ndL _ from (by decide : List.Nodup ([2, 0, 1, 3, 4] : List Nat)), show ndL _ from (by decide : List.Nodup ([0, 1, 2, 3, 4] : List Nat)), by rw [lva_88_96]; exact List.forall_mem_cons.mpr ⟨rfl, List.forall_mem_cons.mpr ⟨rfl, List.forall_mem_cons.mpr ⟨rfl, List.forall_mem_cons.mpr ⟨rfl, List.forall_mem_cons.mpr ⟨rfl, fun _ h => absurd h List.not_mem_nil⟩⟩⟩⟩⟩⟩ h
      · replace h := h.2 c
        refine Pl.seg (pc' := 96) (ls' := [(2, .int (x2 + (1 : Int32))), (0, .ref 96), (1, .int x1), (3, .int x3), (4, .int x4)]) (st' := []) (σ' := σ2) hM 4 rfl ?_
        exact Pl.live (l' := [(0, .ref 96), (1, .int x1), (2, .int (x2 + (1 : Int32))), (3, .int x3), (4, .int x4)]) hM lv_88 ⟨show ndL _ from (by decide : List.Nodup ([2, 0, 1, 3, 4] : List Nat)), show ndL _ from (by decide : List.Nodup ([0, 1, 2, 3, 4] : List Nat)), by rw [lva_88_96]; exact List.forall_mem_cons.mpr ⟨rfl, List.forall_mem_cons.mpr ⟨rfl, List.forall_mem_cons.mpr ⟨rfl, List.forall_mem_cons.mpr ⟨rfl, List.forall_mem_cons.mpr ⟨rfl, fun _ h => absurd h List.not_mem_nil⟩⟩⟩⟩⟩⟩ h
set_option maxRecDepth 100000 in
theorem p_88_102 {n d : Nat} {Q : Option Value → Sg → Prop} (σ : Sg) (x1 x2 x3 : Int32) (h : Pl PRG n d 88 4 [(0, .ref 96), (1, .int x1), (2, .int x2), (3, .int (x3 + (1 : Int32)))] [] σ Q) : Pl PRG (n + 1) d 88 102 [(0, .ref 96), (1, .int x1), (2, .int x2), (3, .int x3)] [] σ Q := by
  have hM : PRG[88]? = some M_88 := rfl
  refine Pl.sg1 (pc' := 4) (ls' := [(3, .int (x3 + (1 : Int32))), (0, .ref 96), (1, .int x1), (2, .int x2)]) (st' := []) (σ' := σ) hM 1 rfl ?_
  exact Pl.live (l' := [(0, .ref 96), (1, .int x1), (2, .int x2), (3, .int (x3 + (1 : Int32)))]) hM lv_88 ⟨show ndL _ from (by decide : List.Nodup ([3, 0, 1, 2] : List Nat)), show ndL _ from (by decide : List.Nodup ([0, 1, 2, 3] : List Nat)), by rw [lva_88_4]; exact List.forall_mem_cons.mpr ⟨rfl, List.forall_mem_cons.mpr ⟨rfl, List.forall_mem_cons.mpr ⟨rfl, List.forall_mem_cons.mpr ⟨rfl, fun _ h => absurd h List.not_mem_nil⟩⟩⟩⟩⟩ h
set_option maxRecDepth 100000 in
theorem p_88_96 {n d : Nat} {Q : Option Value → Sg → Prop} (σ : Sg) (x1 x2 x3 x4 : Int32) (h : Pl PRG n d 88 30 [(0, .ref 96), (1, .int x1), (2, .int x2), (3, .int x3), (4, .int (x4 + (1 : Int32)))] [] σ Q) : Pl PRG (n + 1) d 88 96 [(0, .ref 96), (1, .int x1), (2, .int x2), (3, .int x3), (4, .int x4)] [] σ Q := by
  have hM : PRG[88]? = some M_88 := rfl
  refine Pl.sg1 (pc' := 30) (ls' := [(4, .int (x4 + (1 : Int32))), (0, .ref 96), (1, .int x1), (2, .int x2), (3, .int x3)]) (st' := []) (σ' := σ) hM 1 rfl ?_
  exact Pl.live (l' := [(0, .ref 96), (1, .int x1), (2, .int x2), (3, .int x3), (4, .int (x4 + (1 : Int32)))]) hM lv_88 ⟨show ndL _ from (by decide : List.Nodup ([4, 0, 1, 2, 3] : List Nat)), show ndL _ from (by decide : List.Nodup ([0, 1, 2, 3, 4] : List Nat)), by rw [lva_88_30]; exact List.forall_mem_cons.mpr ⟨rfl, List.forall_mem_cons.mpr ⟨rfl, List.forall_mem_cons.mpr ⟨rfl, List.forall_mem_cons.mpr ⟨rfl, List.forall_mem_cons.mpr ⟨rfl, fun _ h => absurd h List.not_mem_nil⟩⟩⟩⟩⟩⟩ h
def LV_89 : List (Nat × List Nat) := [(0, [0, 1, 2]), (1, [0, 1, 2]), (2, [0, 1, 2, 3]), (3, [0, 1, 2, 3]), (5, [0, 1, 2, 3, 4]), (7, [0, 1, 2, 3, 4]), (8, [0, 1, 2, 3, 4]), (11, [0, 1, 2, 3, 4]), (14, [0, 1, 2, 3, 4]), (17, [0, 1, 2, 3, 4]), (18, [0, 1, 2, 3, 4]), (19, [0, 1, 2, 3, 4]), (21, [0, 1, 2, 3, 4]), (24, [0, 1, 2, 3, 4]), (27, [0, 1, 2, 3, 4]), (28, [0, 1, 2, 3, 4]), (29, [0, 1, 2, 3, 4]), (31, [0, 1, 2, 3, 4]), (34, [0, 1, 2, 3, 4]), (37, [0, 1, 2, 3, 4]), (40, [0, 1, 2, 3, 4]), (41, [0, 1, 2, 3, 4]), (43, [0, 1, 2, 3, 4, 5]), (45, [0, 1, 2, 3, 4, 5]), (46, [0, 1, 2, 3, 4, 5]), (49, [0, 1, 2, 3, 4, 5]), (52, [0, 1, 2, 3, 4, 5]), (55, [0, 1, 2, 3, 4, 5]), (56, [0, 1, 2, 3, 4, 5]), (59, [0, 1, 2, 3, 4, 5]), (62, [0, 1, 2, 3, 4, 5]), (64, [0, 1, 2, 3, 4, 5]), (65, [0, 1, 2, 3, 4, 5]), (67, [0, 1, 2, 3, 4, 5]), (68, [0, 1, 2, 3, 4, 5]), (69, [0, 1, 2, 3, 4, 5]), (70, [0, 1, 2, 3, 4, 5]), (73, [0, 1, 2, 3, 4, 5]), (74, [0, 1, 2, 3, 4, 5]), (77, [0, 1, 2, 3, 4, 5]), (78, [0, 1, 2, 3, 4, 5]), (81, [0, 1, 2, 3, 4, 5]), (84, [0, 1, 2, 3, 4, 5]), (86, [0, 1, 2, 3, 4, 5]), (87, [0, 1, 2, 3, 4, 5]), (90, [0, 1, 2, 3, 4, 5]), (91, [0, 1, 2, 4, 5]), (92, [0, 1, 2, 4, 5]), (95, [0, 1, 2, 4, 5]), (96, [0, 1, 2, 4, 5]), (97, [0, 1, 2, 4, 5]), (100, [0, 1, 2, 4, 5]), (101, [0, 1, 2, 4, 5]), (104, [0, 1, 2, 4, 5]), (105, [0, 1, 2, 4, 5]), (106, [0, 1, 2, 4, 5]), (109, [0, 1, 2, 4, 5]), (112, [0, 1, 2, 4, 5]), (113, [0, 1, 2, 4, 5]), (116, [0, 1, 2, 4, 5]), (117, [0, 1, 2, 4, 5]), (118, [0, 1, 2, 4, 5]), (119, [0, 1, 2, 3, 4, 5]), (122, [0, 1, 2, 3, 4, 5]), (125, [0, 1, 2, 3, 4]), (128, [0, 1, 2, 3, 4]), (131, [3]), (132, [])]
set_option maxRecDepth 100000 in
theorem lv_89 : chkLv M_89 LV_89 = true := by decide +kernel
set_option maxRecDepth 100000 in
theorem lva_89_5 : lvA LV_89 5 = [0, 1, 2, 3, 4] := by decide +kernel
set_option maxRecDepth 100000 in
theorem lva_89_43 : lvA LV_89 43 = [0, 1, 2, 3, 4, 5] := by decide +kernel
set_option maxRecDepth 100000 in
theorem lva_89_119 : lvA LV_89 119 = [0, 1, 2, 3, 4, 5] := by decide +kernel
set_option maxRecDepth 100000 in
theorem lva_89_125 : lvA LV_89 125 = [0, 1, 2, 3, 4] := by decide +kernel
set_option maxRecDepth 100000 in
theorem p_89_0 {n d : Nat} {Q : Option Value → Sg → Prop} (σ : Sg) (x1 x2 : Int32) (h : Pl PRG n d 89 5 [(0, .ref 96), (1, .int x1), (2, .int x2), (3, .int (0 : Int32)), (4, .int (0 : Int32))] [] σ Q) : Pl PRG (n + 1) d 89 0 [(0, .ref 96), (1, .int x1), (2, .int x2)] [] σ Q := by
  have hM : PRG[89]? = some M_89 := rfl
  refine Pl.sg1 (pc' := 5) (ls' := [(4, .int (0 : Int32)), (3, .int (0 : Int32)), (0, .ref 96), (1, .int x1), (2, .int x2)]) (st' := []) (σ' := σ) hM 3 rfl ?_
  exact Pl.live (l' := [(0, .ref 96), (1, .int x1), (2, .int x2), (3, .int (0 : Int32)), (4, .int (0 : Int32))]) hM lv_89 ⟨show ndL _ from (by decide : List.Nodup ([4, 3, 0, 1, 2] : List Nat)), show ndL _ from (by decide : List.Nodup ([0, 1, 2, 3, 4] : List Nat)), by rw [lva_89_5]; exact List.forall_mem_cons.mpr ⟨rfl, List.forall_mem_cons.mpr ⟨rfl, List.forall_mem_cons.mpr ⟨rfl, List.forall_mem_cons.mpr ⟨rfl, List.forall_mem_cons.mpr ⟨rfl, fun _ h => absurd h List.not_mem_nil⟩⟩⟩⟩⟩⟩ h
set_option maxRecDepth 100000 in
theorem p_89_5 {n d : Nat} {Q : Option Value → Sg → Prop} (σ : Sg) (x1 x2 x3 x4 : Int32) (h : (((σ.1 3 10) ≤ x4 → Q (some (.int x3)) σ) ∧ (¬ (σ.1 3 10) ≤ x4 → (∀ w2 σ1, RCx PRG n 86 [.ref 96, .int x1, .int x4] σ (some (.int w2)) σ1 → (w2 = 0 ∨ w2 = 1) → ((w2 = 0 → Pl PRG n d 89 125 [(0, .ref 96), (1, .int x1), (2, .int x2), (3, .int x3), (4, .int x4)] [] σ1 Q) ∧ (¬ w2 = 0 → (∀ w4 σ3, RCx PRG n 86 [.ref 96, .int x2, .int x4] σ1 (some (.int w4)) σ3 → (w4 = 0 ∨ w4 = 1) → ((w4 = 0 → Pl PRG n d 89 125 [(0, .ref 96), (1, .int x1), (2, .int x2), (3, .int x3), (4, .int x4)] [] σ3 Q) ∧ (¬ w4 = 0 → Pl PRG n d 89 43 [(0, .ref 96), (1, .int x1), (2, .int x2), (3, .int x3), (4, .int x4), (5, .int (0 : Int32))] [] σ3 Q))))))))) : Pl PRG (n + 1) d 89 5 [(0, .ref 96), (1, .int x1), (2, .int x2), (3, .int x3), (4, .int x4)] [] σ Q := by
  have hM : PRG[89]? = some M_89 := rfl
  refine Pl.br1 (c := (σ.1 3 10) ≤ x4) (a := 131) (b := 17) (ls' := [(0, .ref 96), (1, .int x1), (2, .int x2), (3, .int x3), (4, .int x4)]) (st' := []) (σ' := σ) hM 4 rfl (fun c => ?_) (fun c => ?_)
  · replace h := h.1 c
    refine Pl.seg (pc' := 132) (ls' := [(0, .ref 96), (1, .int x1), (2, .int x2), (3, .int x3), (4, .int x4)]) (st' := [.int x3]) (σ' := σ) hM 1 rfl ?_
    refine Pl.weak (Pl.ret hM rfl rfl h)
  · replace h := h.2 c
    refine Pl.seg (pc' := 21) (ls' := [(0, .ref 96), (1, .int x1), (2, .int x2), (3, .int x3), (4, .int x4)]) (st' := [.int x4, .int x1, .ref 96]) (σ' := σ) hM 3 rfl ?_
    refine Pl.weak (Pl.cZ hM rfl rfl (by decide) (Mj := M_86) rfl rfl (fun w2 σ1 hw hz => ?_))
    replace h := h w2 σ1 hw hz
    refine Pl.br (c := w2 = 0) (a := 125) (b := 27) (ls' := [(0, .ref 96), (1, .int x1), (2, .int x2), (3, .int x3), (4, .int x4)]) (st' := []) (σ' := σ1) hM 1 rfl (fun c => ?_) (fun c => ?_)
    · replace h := h.1 c
      exact Pl.live (l' := [(0, .ref 96), (1, .int x1), (2, .int x2), (3, .int x3), (4, .int x4)]) hM lv_89 ⟨show ndL _ from (by decide : List.Nodup ([0, 1, 2, 3, 4] : List Nat)), show ndL _ from (by decide : List.Nodup ([0, 1, 2, 3, 4] : List Nat)), by rw [lva_89_125]; exact List.forall_mem_cons.mpr ⟨rfl, List.forall_mem_cons.mpr ⟨rfl, List.forall_mem_cons.mpr ⟨rfl, List.forall_mem_cons.mpr ⟨rfl, List.forall_mem_cons.mpr ⟨rfl, fun _ h => absurd h List.not_mem_nil⟩⟩⟩⟩⟩⟩ h
    · replace h := h.2 c
      refine Pl.seg (pc' := 31) (ls' := [(0, .ref 96), (1, .int x1), (2, .int x2), (3, .int x3), (4, .int x4)]) (st' := [.int x4, .int x2, .ref 96]) (σ' := σ1) hM 3 rfl ?_
      refine Pl.weak (Pl.cZ hM rfl rfl (by decide) (Mj := M_86) rfl rfl (fun w4 σ3 hw hz => ?_))
      replace h := h w4 σ3 hw hz
      refine Pl.brN (c := w4 = 0) (a := 40) (b := 37) (ls' := [(0, .ref 96), (1, .int x1), (2, .int x2), (3, .int x3), (4, .int x4)]) (st' := []) (σ' := σ3) hM 1 rfl (fun c => ?_) (fun c => ?_)
      · replace h := h.2 c
        refine Pl.seg (pc' := 43) (ls' := [(5, .int (0 : Int32)), (0, .ref 96), (1, .int x1), (2, .int x2), (3, .int x3), (4, .int x4)]) (st' := []) (σ' := σ3) hM 2 rfl ?_
        exact Pl.live (l' := [(0, .ref 96), (1, .int x1), (2, .int x2), (3, .int x3), (4, .int x4), (5, .int (0 : Int32))]) hM lv_89 ⟨show ndL _ from (by decide : List.Nodup ([5, 0, 1, 2, 3, 4] : List Nat)), show ndL _ from (by decide : List.Nodup ([0, 1, 2, 3, 4, 5] : List Nat)), by rw [lva_89_43]; exact List.forall_mem_cons.mpr ⟨rfl, List.forall_mem_cons.mpr ⟨rfl, List.forall_mem_cons.mpr ⟨rfl, List.forall_mem_cons.mpr ⟨rfl, List.forall_mem_cons.mpr ⟨rfl, List.forall_mem_cons.mpr ⟨rfl, fun _ h => absurd h List.not_mem_nil⟩⟩⟩⟩⟩⟩⟩ h
      · replace h := h.1 c
        refine Pl.seg (pc' := 125) (ls' := [(0, .ref 96), (1, .int x1), (2, .int x2), (3, .int x3), (4, .int x4)]) (st' := []) (σ' := σ3) hM 1 rfl ?_
        exact Pl.live (l' := [(0, .ref 96), (1, .int x1), (2, .int x2), (3, .int x3), (4, .int x4)]) hM lv_89 ⟨show ndL _ from (by decide : List.Nodup ([0, 1, 2, 3, 4] : List Nat)), show ndL _ from (by decide : List.Nodup ([0, 1, 2, 3, 4] : List Nat)), by rw [lva_89_125]; exact List.forall_mem_cons.mpr ⟨rfl, List.forall_mem_cons.mpr ⟨rfl, List.forall_mem_cons.mpr ⟨rfl, List.forall_mem_cons.mpr ⟨rfl, List.forall_mem_cons.mpr ⟨rfl, fun _ h => absurd h List.not_mem_nil⟩⟩⟩⟩⟩⟩ h
set_option maxRecDepth 100000 in
theorem p_89_125 {n d : Nat} {Q : Option Value → Sg → Prop} (σ : Sg) (x1 x2 x3 x4 : Int32) (h : Pl PRG n d 89 5 [(0, .ref 96), (1, .int x1), (2, .int x2), (3, .int x3), (4, .int (x4 + (1 : Int32)))] [] σ Q) : Pl PRG (n + 1) d 89 125 [(0, .ref 96), (1, .int x1), (2, .int x2), (3, .int x3), (4, .int x4)] [] σ Q := by
  have hM : PRG[89]? = some M_89 := rfl
  refine Pl.sg1 (pc' := 5) (ls' := [(4, .int (x4 + (1 : Int32))), (0, .ref 96), (1, .int x1), (2, .int x2), (3, .int x3)]) (st' := []) (σ' := σ) hM 1 rfl ?_
  exact Pl.live (l' := [(0, .ref 96), (1, .int x1), (2, .int x2), (3, .int x3), (4, .int (x4 + (1 : Int32)))]) hM lv_89 ⟨show ndL _ from (by decide : List.Nodup ([4, 0, 1, 2, 3] : List Nat)), show ndL _ from (by decide : List.Nodup ([0, 1, 2, 3, 4] : List Nat)), by rw [lva_89_5]; exact List.forall_mem_cons.mpr ⟨rfl, List.forall_mem_cons.mpr ⟨rfl, List.forall_mem_cons.mpr ⟨rfl, List.forall_mem_cons.mpr ⟨rfl, List.forall_mem_cons.mpr ⟨rfl, fun _ h => absurd h List.not_mem_nil⟩⟩⟩⟩⟩⟩ h
set_option maxRecDepth 100000 in
theorem p_89_43 {n d : Nat} {Q : Option Value → Sg → Prop} (σ : Sg) (x1 x2 x3 x4 x5 : Int32) (h : (((σ.1 3 15) ≤ x5 → Pl PRG n d 89 125 [(0, .ref 96), (1, .int x1), (2, .int x2), (3, .int x3), (4, .int x4)] [] σ Q) ∧ (¬ (σ.1 3 15) ≤ x5 → (inR x5 1820 = true → (((((σ.1 11 x5.toNatClampNeg) >>> (x4 &&& 31)) &&& (1 : Int32)) = 0 → Pl PRG n d 89 119 [(0, .ref 96), (1, .int x1), (2, .int x2), (3, .int x3), (4, .int x4), (5, .int x5)] [] σ Q) ∧ (¬ (((σ.1 11 x5.toNatClampNeg) >>> (x4 &&& 31)) &&& (1 : Int32)) = 0 → (inR x5 1820 = true → (∀ σ1, RCx PRG n 11 [.ref 12, .int (σ.1 11 x5.toNatClampNeg)] σ none σ1 → (∀ w3 σ2, RCx PRG n 12 [.ref 12, .int x1, .int (1 : Int32)] σ1 (some (.int w3)) σ2 → (w3 = 0 ∨ w3 = 1) → (∀ w5 σ4, RCx PRG n 12 [.ref 12, .int x2, .int (1 : Int32)] σ2 (some (.int w5)) σ4 → (w5 = 0 ∨ w5 = 1) → ((w3 = w5 → Pl PRG n d 89 119 [(0, .ref 96), (1, .int x1), (2, .int x2), (3, .int (x3 + (0 : Int32))), (4, .int x4), (5, .int x5)] [] σ4 Q) ∧ (¬ w3 = w5 → Pl PRG n d 89 119 [(0, .ref 96), (1, .int x1), (2, .int x2), (3, .int (x3 + (1 : Int32))), (4, .int x4), (5, .int x5)] [] σ4 Q)))))))))))) : Pl PRG (n + 1) d 89 43 [(0, .ref 96), (1, .int x1), (2, .int x2), (3, .int x3), (4, .int x4), (5, .int x5)] [] σ Q := by
  have hM : PRG[89]? = some M_89 := rfl
  refine Pl.br1 (c := (σ.1 3 15) ≤ x5) (a := 125) (b := 55) (ls' := [(0, .ref 96), (1, .int x1), (2, .int x2), (3, .int x3), (4, .int x4), (5, .int x5)]) (st' := []) (σ' := σ) hM 4 rfl (fun c => ?_) (fun c => ?_)
  · replace h := h.1 c
    exact Pl.live (l' := [(0, .ref 96), (1, .int x1), (2, .int x2), (3, .int x3), (4, .int x4)]) hM lv_89 ⟨show ndL _ from (by decide : List.Nodup ([0, 1, 2, 3, 4, 5] : List Nat)), show ndL _ from (by decide : List.Nodup ([0, 1, 2, 3, 4] : List Nat)), by rw [lva_89_125]; exact List.forall_mem_cons.mpr ⟨rfl, List.forall_mem_cons.mpr ⟨rfl, List.forall_mem_cons.mpr ⟨rfl, List.forall_mem_cons.mpr ⟨rfl, List.forall_mem_cons.mpr ⟨rfl, fun _ h => absurd h List.not_mem_nil⟩⟩⟩⟩⟩⟩ h
  · replace h := h.2 c
    refine Pl.seg (pc' := 64) (ls' := [(0, .ref 96), (1, .int x1), (2, .int x2), (3, .int x3), (4, .int x4), (5, .int x5)]) (st' := [.int x5, .ref 11]) (σ' := σ) hM 4 rfl ?_
    refine Pl.weak (Pl.iald hM rfl rfl (fun hi => ?_))
    replace h := h hi
    refine Pl.br (c := (((σ.1 11 x5.toNatClampNeg) >>> (x4 &&& 31)) &&& (1 : Int32)) = 0) (a := 119) (b := 73) (ls' := [(0, .ref 96), (1, .int x1), (2, .int x2), (3, .int x3), (4, .int x4), (5, .int x5)]) (st' := []) (σ' := σ) hM 5 rfl (fun c => ?_) (fun c => ?_)
    · replace h := h.1 c
      exact Pl.live (l' := [(0, .ref 96), (1, .int x1), (2, .int x2), (3, .int x3), (4, .int x4), (5, .int x5)]) hM lv_89 ⟨show ndL _ from (by decide : List.Nodup ([0, 1, 2, 3, 4, 5] : List Nat)), show ndL _ from (by decide : List.Nodup ([0, 1, 2, 3, 4, 5] : List Nat)), by rw [lva_89_119]; exact List.forall_mem_cons.mpr ⟨rfl, List.forall_mem_cons.mpr ⟨rfl, List.forall_mem_cons.mpr ⟨rfl, List.forall_mem_cons.mpr ⟨rfl, List.forall_mem_cons.mpr ⟨rfl, List.forall_mem_cons.mpr ⟨rfl, fun _ h => absurd h List.not_mem_nil⟩⟩⟩⟩⟩⟩⟩ h
    · replace h := h.2 c
      refine Pl.seg (pc' := 86) (ls' := [(0, .ref 96), (1, .int x1), (2, .int x2), (3, .int x3), (4, .int x4), (5, .int x5)]) (st' := [.int x5, .ref 11, .ref 12]) (σ' := σ) hM 6 rfl ?_
      refine Pl.weak (Pl.iald hM rfl rfl (fun hi => ?_))
      replace h := h hi
      refine Pl.weak (Pl.cV hM rfl rfl (by decide) (Mj := M_11) rfl rfl (fun σ1 hw => ?_))
      replace h := h σ1 hw
      refine Pl.seg (pc' := 97) (ls' := [(0, .ref 96), (1, .int x1), (2, .int x2), (3, .int x3), (4, .int x4), (5, .int x5)]) (st' := [.int (1 : Int32), .int x1, .ref 12, .int x3]) (σ' := σ1) hM 5 rfl ?_
      refine Pl.weak (Pl.cZ hM rfl rfl (by decide) (Mj := M_12) rfl rfl (fun w3 σ2 hw hz => ?_))
      replace h := h w3 σ2 hw hz
      refine Pl.seg (pc' := 106) (ls' := [(0, .ref 96), (1, .int x1), (2, .int x2), (3, .int x3), (4, .int x4), (5, .int x5)]) (st' := [.int (1 : Int32), .int x2, .ref 12, .int w3, .int x3]) (σ' := σ2) hM 4 rfl ?_
      refine Pl.weak (Pl.cZ hM rfl rfl (by decide) (Mj := M_12) rfl rfl (fun w5 σ4 hw hz => ?_))
      replace h := h w5 σ4 hw hz
      refine Pl.br (c := w3 = w5) (a := 116) (b := 112) (ls' := [(0, .ref 96), (1, .int x1), (2, .int x2), (3, .int x3), (4, .int x4), (5, .int x5)]) (st' := [.int x3]) (σ' := σ4) hM 1 rfl (fun c => ?_) (fun c => ?_)
      · replace h := h.1 c
        refine Pl.seg (pc' := 119) (ls' := [(3, .int (x3 + (0 : Int32))), (0, .ref 96), (1, .int x1), (2, .int x2), (4, .int x4), (5, .int x5)]) (st' := []) (σ' := σ4) hM 3 rfl ?_
        exact Pl.live (l' := [(0, .ref 96), (1, .int x1), (2, .int x2), (3, .int (x3 + (0 : Int32))), (4, .int x4), (5, .int x5)]) hM lv_89 ⟨show ndL _ from (by decide : List.Nodup ([3, 0, 1, 2, 4, 5] : List Nat)), show ndL _ from (by decide : List.Nodup ([0, 1, 2, 3, 4, 5] : List Nat)), by rw [lva_89_119]; exact List.forall_mem_cons.mpr ⟨rfl, List.forall_mem_cons.mpr ⟨rfl, List.forall_mem_cons.mpr ⟨rfl, List.forall_mem_cons.mpr ⟨rfl, List.forall_mem_cons.mpr ⟨rfl, List.forall_mem_cons.mpr ⟨rfl, fun _ h => absurd h List.not_mem_nil⟩⟩⟩⟩⟩⟩⟩ h
      · replace h := h.2 c
        refine Pl.seg (pc' := 119) (ls' := [(3, .int (x3 + (1 : Int32))), (0, .ref 96), (1, .int x1), (2, .int x2), (4, .int x4), (5, .int x5)]) (st' := []) (σ' := σ4) hM 4 rfl ?_
        exact Pl.live (l' := [(0, .ref 96), (1, .int x1), (2, .int x2), (3, .int (x3 + (1 : Int32))), (4, .int x4), (5, .int x5)]) hM lv_89 ⟨show ndL _ from (by decide : List.Nodup ([3, 0, 1, 2, 4, 5] : List Nat)), show ndL _ from (by decide : List.Nodup ([0, 1, 2, 3, 4, 5] : List Nat)), by rw [lva_89_119]; exact List.forall_mem_cons.mpr ⟨rfl, List.forall_mem_cons.mpr ⟨rfl, List.forall_mem_cons.mpr ⟨rfl, List.forall_mem_cons.mpr ⟨rfl, List.forall_mem_cons.mpr ⟨rfl, List.forall_mem_cons.mpr ⟨rfl, fun _ h => absurd h List.not_mem_nil⟩⟩⟩⟩⟩⟩⟩ h
set_option maxRecDepth 100000 in
theorem p_89_119 {n d : Nat} {Q : Option Value → Sg → Prop} (σ : Sg) (x1 x2 x3 x4 x5 : Int32) (h : Pl PRG n d 89 43 [(0, .ref 96), (1, .int x1), (2, .int x2), (3, .int x3), (4, .int x4), (5, .int (x5 + (1 : Int32)))] [] σ Q) : Pl PRG (n + 1) d 89 119 [(0, .ref 96), (1, .int x1), (2, .int x2), (3, .int x3), (4, .int x4), (5, .int x5)] [] σ Q := by
  have hM : PRG[89]? = some M_89 := rfl
  refine Pl.sg1 (pc' := 43) (ls' := [(5, .int (x5 + (1 : Int32))), (0, .ref 96), (1, .int x1), (2, .int x2), (3, .int x3), (4, .int x4)]) (st' := []) (σ' := σ) hM 1 rfl ?_
  exact Pl.live (l' := [(0, .ref 96), (1, .int x1), (2, .int x2), (3, .int x3), (4, .int x4), (5, .int (x5 + (1 : Int32)))]) hM lv_89 ⟨show ndL _ from (by decide : List.Nodup ([5, 0, 1, 2, 3, 4] : List Nat)), show ndL _ from (by decide : List.Nodup ([0, 1, 2, 3, 4, 5] : List Nat)), by rw [lva_89_43]; exact List.forall_mem_cons.mpr ⟨rfl, List.forall_mem_cons.mpr ⟨rfl, List.forall_mem_cons.mpr ⟨rfl, List.forall_mem_cons.mpr ⟨rfl, List.forall_mem_cons.mpr ⟨rfl, List.forall_mem_cons.mpr ⟨rfl, fun _ h => absurd h List.not_mem_nil⟩⟩⟩⟩⟩⟩⟩ h
def LV_90 : List (Nat × List Nat) := [(0, [0]), (1, [0]), (2, [0, 1]), (3, [0, 1]), (4, [0, 1, 2]), (5, [0, 1, 2]), (6, [0, 1, 2]), (9, [0, 1, 2]), (12, [0, 1, 2]), (15, [0, 1, 2]), (16, [0, 1, 2]), (17, [0, 1, 2, 3]), (18, [0, 1, 2, 3]), (20, [0, 1, 2, 3, 4]), (22, [0, 1, 2, 3, 4]), (23, [0, 1, 2, 3, 4]), (26, [0, 1, 2, 3, 4]), (29, [0, 1, 2, 3, 4]), (32, [0, 1, 2, 3, 4]), (33, [0, 1, 2, 4]), (36, [0, 1, 2, 4]), (37, [0, 1, 2, 4]), (39, [0, 1, 2, 4]), (40, [0, 1, 2, 4]), (43, [0, 1, 2, 4]), (46, [0, 1, 2, 4]), (47, [0, 1, 2, 4]), (50, [0, 1, 2, 4]), (51, [0, 1, 2, 4]), (52, [0, 1, 2, 3, 4]), (55, [0, 1, 2, 3, 4]), (58, [0, 1, 2, 3]), (59, [0, 2, 3]), (60, [0, 2]), (63, [0, 2]), (64, [0, 2]), (67, [0, 2]), (68, [0, 2]), (71, [0, 2]), (72, [0, 2]), (73, [0, 1, 2]), (76, [0, 1, 2]), (79, [1]), (80, [])]
set_option maxRecDepth 100000 in
theorem lv_90 : chkLv M_90 LV_90 = true := by decide +kernel
set_option maxRecDepth 100000 in
theorem lva_90_4 : lvA LV_90 4 = [0, 1, 2] := by decide +kernel
set_option maxRecDepth 100000 in
theorem lva_90_20 : lvA LV_90 20 = [0, 1, 2, 3, 4] := by decide +kernel
set_option maxRecDepth 100000 in
theorem lva_90_46 : lvA LV_90 46 = [0, 1, 2, 4] := by decide +kernel
set_option maxRecDepth 100000 in
theorem p_90_0 {n d : Nat} {Q : Option Value → Sg → Prop} (σ : Sg) (h : Pl PRG n d 90 4 [(0, .ref 96), (1, .int (0 : Int32)), (2, .int (0 : Int32))] [] σ Q) : Pl PRG (n + 1) d 90 0 [(0, .ref 96)] [] σ Q := by
  have hM : PRG[90]? = some M_90 := rfl
  refine Pl.sg1 (pc' := 4) (ls' := [(2, .int (0 : Int32)), (1, .int (0 : Int32)), (0, .ref 96)]) (st' := []) (σ' := σ) hM 3 rfl ?_
  exact Pl.live (l' := [(0, .ref 96), (1, .int (0 : Int32)), (2, .int (0 : Int32))]) hM lv_90 ⟨show ndL _ from (by decide : List.Nodup ([2, 1, 0] : List Nat)), show ndL _ from (by decide : List.Nodup ([0, 1, 2] : List Nat)), by rw [lva_90_4]; exact List.forall_mem_cons.mpr ⟨rfl, List.forall_mem_cons.mpr ⟨rfl, List.forall_mem_cons.mpr ⟨rfl, fun _ h => absurd h List.not_mem_nil⟩⟩⟩⟩ h
set_option maxRecDepth 100000 in
theorem p_90_4 {n d : Nat} {Q : Option Value → Sg → Prop} (σ : Sg) (x1 x2 : Int32) (h : (((σ.1 3 10) ≤ x2 → Q (some (.int x1)) σ) ∧ (¬ (σ.1 3 10) ≤ x2 → Pl PRG n d 90 20 [(0, .ref 96), (1, .int x1), (2, .int x2), (3, .int (0 : Int32)), (4, .int (0 : Int32))] [] σ Q))) : Pl PRG (n + 1) d 90 4 [(0, .ref 96), (1, .int x1), (2, .int x2)] [] σ Q := by
  have hM : PRG[90]? = some M_90 := rfl
  refine Pl.br1 (c := (σ.1 3 10) ≤ x2) (a := 79) (b := 15) (ls' := [(0, .ref 96), (1, .int x1), (2, .int x2)]) (st' := []) (σ' := σ) hM 4 rfl (fun c => ?_) (fun c => ?_)
  · replace h := h.1 c
    refine Pl.seg (pc' := 80) (ls' := [(0, .ref 96), (1, .int x1), (2, .int x2)]) (st' := [.int x1]) (σ' := σ) hM 1 rfl ?_
    refine Pl.weak (Pl.ret hM rfl rfl h)
  · replace h := h.2 c
    refine Pl.seg (pc' := 20) (ls' := [(4, .int (0 : Int32)), (3, .int (0 : Int32)), (0, .ref 96), (1, .int x1), (2, .int x2)]) (st' := []) (σ' := σ) hM 4 rfl ?_
    exact Pl.live (l' := [(0, .ref 96), (1, .int x1), (2, .int x2), (3, .int (0 : Int32)), (4, .int (0 : Int32))]) hM lv_90 ⟨show ndL _ from (by decide : List.Nodup ([4, 3, 0, 1, 2] : List Nat)), show ndL _ from (by decide : List.Nodup ([0, 1, 2, 3, 4] : List Nat)), by rw [lva_90_20]; exact List.forall_mem_cons.mpr ⟨rfl, List.forall_mem_cons.mpr ⟨rfl, List.forall_mem_cons.mpr ⟨rfl, List.forall_mem_cons.mpr ⟨rfl, List.forall_mem_cons.mpr ⟨rfl, fun _ h => absurd h List.not_mem_nil⟩⟩⟩⟩⟩⟩ h
set_option maxRecDepth 100000 in
theorem p_90_20 {n d : Nat} {Q : Option Value → Sg → Prop} (σ : Sg) (x1 x2 x3 x4 : Int32) (h : (((σ.1 3 3) ≤ x4 → ((x3 = 0 → (∀ w2 σ1, RCx PRG n 85 [.ref 96] σ (some (.int w2)) σ1 → Pl PRG n d 90 4 [(0, .ref 96), (1, .int (x1 + w2)), (2, .int (x2 + (1 : Int32)))] [] σ1 Q)) ∧ (¬ x3 = 0 → Pl PRG n d 90 4 [(0, .ref 96), (1, .int (x1 + (0 : Int32))), (2, .int (x2 + (1 : Int32)))] [] σ Q))) ∧ (¬ (σ.1 3 3) ≤ x4 → ((x3 = 0 → (∀ w4 σ3, RCx PRG n 86 [.ref 96, .int x4, .int x2] σ (some (.int w4)) σ3 → (w4 = 0 ∨ w4 = 1) → ((w4 = 0 → Pl PRG n d 90 20 [(0, .ref 96), (1, .int x1), (2, .int x2), (3, .int (0 : Int32)), (4, .int (x4 + (1 : Int32)))] [] σ3 Q) ∧ (¬ w4 = 0 → Pl PRG n d 90 46 [(0, .ref 96), (1, .int x1), (2, .int x2), (4, .int x4)] [] σ3 Q)))) ∧ (¬ x3 = 0 → Pl PRG n d 90 46 [(0, .ref 96), (1, .int x1), (2, .int x2), (4, .int x4)] [] σ Q))))) : Pl PRG (n + 1) d 90 20 [(0, .ref 96), (1, .int x1), (2, .int x2), (3, .int x3), (4, .int x4)] [] σ Q := by
  have hM : PRG[90]? = some M_90 := rfl
  refine Pl.br1 (c := (σ.1 3 3) ≤ x4) (a := 58) (b := 32) (ls' := [(0, .ref 96), (1, .int x1), (2, .int x2), (3, .int x3), (4, .int x4)]) (st' := []) (σ' := σ) hM 4 rfl (fun c => ?_) (fun c => ?_)
  · replace h := h.1 c
    refine Pl.br (c := x3 = 0) (a := 67) (b := 63) (ls' := [(0, .ref 96), (1, .int x1), (2, .int x2), (3, .int x3), (4, .int x4)]) (st' := [.int x1]) (σ' := σ) hM 3 rfl (fun c => ?_) (fun c => ?_)
    · replace h := h.1 c
      refine Pl.seg (pc' := 68) (ls' := [(0, .ref 96), (1, .int x1), (2, .int x2), (3, .int x3), (4, .int x4)]) (st' := [.ref 96, .int x1]) (σ' := σ) hM 1 rfl ?_
      refine Pl.weak (Pl.cI hM rfl rfl (by decide) (Mj := M_85) rfl rfl (fun w2 σ1 hw => ?_))
      replace h := h w2 σ1 hw
      refine Pl.seg (pc' := 4) (ls' := [(2, .int (x2 + (1 : Int32))), (1, .int (x1 + w2)), (0, .ref 96), (3, .int x3), (4, .int x4)]) (st' := []) (σ' := σ1) hM 4 rfl ?_
      exact Pl.live (l' := [(0, .ref 96), (1, .int (x1 + w2)), (2, .int (x2 + (1 : Int32)))]) hM lv_90 ⟨show ndL _ from (by decide : List.Nodup ([2, 1, 0, 3, 4] : List Nat)), show ndL _ from (by decide : List.Nodup ([0, 1, 2] : List Nat)), by rw [lva_90_4]; exact List.forall_mem_cons.mpr ⟨rfl, List.forall_mem_cons.mpr ⟨rfl, List.forall_mem_cons.mpr ⟨rfl, fun _ h => absurd h List.not_mem_nil⟩⟩⟩⟩ h
    · replace h := h.2 c
      refine Pl.seg (pc' := 4) (ls' := [(2, .int (x2 + (1 : Int32))), (1, .int (x1 + (0 : Int32))), (0, .ref 96), (3, .int x3), (4, .int x4)]) (st' := []) (σ' := σ) hM 6 rfl ?_
      exact Pl.live (l' := [(0, .ref 96), (1, .int (x1 + (0 : Int32))), (2, .int (x2 + (1 : Int32)))]) hM lv_90 ⟨show ndL _ from (by decide : List.Nodup ([2, 1, 0, 3, 4] : List Nat)), show ndL _ from (by decide : List.Nodup ([0, 1, 2] : List Nat)), by rw [lva_90_4]; exact List.forall_mem_cons.mpr ⟨rfl, List.forall_mem_cons.mpr ⟨rfl, List.forall_mem_cons.mpr ⟨rfl, fun _ h => absurd h List.not_mem_nil⟩⟩⟩⟩ h
  · replace h := h.2 c
    refine Pl.brN (c := x3 = 0) (a := 46) (b := 36) (ls' := [(0, .ref 96), (1, .int x1), (2, .int x2), (3, .int x3), (4, .int x4)]) (st' := []) (σ' := σ) hM 2 rfl (fun c => ?_) (fun c => ?_)
    · replace h := h.2 c
      exact Pl.live (l' := [(0, .ref 96), (1, .int x1), (2, .int x2), (4, .int x4)]) hM lv_90 ⟨show ndL _ from (by decide : List.Nodup ([0, 1, 2, 3, 4] : List Nat)), show ndL _ from (by decide : List.Nodup ([0, 1, 2, 4] : List Nat)), by rw [lva_90_46]; exact List.forall_mem_cons.mpr ⟨rfl, List.forall_mem_cons.mpr ⟨rfl, List.forall_mem_cons.mpr ⟨rfl, List.forall_mem_cons.mpr ⟨rfl, fun _ h => absurd h List.not_mem_nil⟩⟩⟩⟩⟩ h
    · replace h := h.1 c
      refine Pl.seg (pc' := 40) (ls' := [(0, .ref 96), (1, .int x1), (2, .int x2), (3, .int x3), (4, .int x4)]) (st' := [.int x2, .int x4, .ref 96]) (σ' := σ) hM 3 rfl ?_
      refine Pl.weak (Pl.cZ hM rfl rfl (by decide) (Mj := M_86) rfl rfl (fun w4 σ3 hw hz => ?_))
      replace h := h w4 σ3 hw hz
      refine Pl.br (c := w4 = 0) (a := 50) (b := 46) (ls' := [(0, .ref 96), (1, .int x1), (2, .int x2), (3, .int x3), (4, .int x4)]) (st' := []) (σ' := σ3) hM 1 rfl (fun c => ?_) (fun c => ?_)
      · replace h := h.1 c
        refine Pl.seg (pc' := 20) (ls' := [(4, .int (x4 + (1 : Int32))), (3, .int (0 : Int32)), (0, .ref 96), (1, .int x1), (2, .int x2)]) (st' := []) (σ' := σ3) hM 4 rfl ?_
        exact Pl.live (l' := [(0, .ref 96), (1, .int x1), (2, .int x2), (3, .int (0 : Int32)), (4, .int (x4 + (1 : Int32)))]) hM lv_90 ⟨show ndL _ from (by decide : List.Nodup ([4, 3, 0, 1, 2] : List Nat)), show ndL _ from (by decide : List.Nodup ([0, 1, 2, 3, 4] : List Nat)), by rw [lva_90_20]; exact List.forall_mem_cons.mpr ⟨rfl, List.forall_mem_cons.mpr ⟨rfl, List.forall_mem_cons.mpr ⟨rfl, List.forall_mem_cons.mpr ⟨rfl, List.forall_mem_cons.mpr ⟨rfl, fun _ h => absurd h List.not_mem_nil⟩⟩⟩⟩⟩⟩ h
      · replace h := h.2 c
        exact Pl.live (l' := [(0, .ref 96), (1, .int x1), (2, .int x2), (4, .int x4)]) hM lv_90 ⟨show ndL _ from (by decide : List.Nodup ([0, 1, 2, 3, 4] : List Nat)), show ndL _ from (by decide : List.Nodup ([0, 1, 2, 4] : List Nat)), by rw [lva_90_46]; exact List.forall_mem_cons.mpr ⟨rfl, List.forall_mem_cons.mpr ⟨rfl, List.forall_mem_cons.mpr ⟨rfl, List.forall_mem_cons.mpr ⟨rfl, fun _ h => absurd h List.not_mem_nil⟩⟩⟩⟩⟩ h
set_option maxRecDepth 100000 in
theorem p_90_46 {n d : Nat} {Q : Option Value → Sg → Prop} (σ : Sg) (x1 x2 x4 : Int32) (h : Pl PRG n d 90 20 [(0, .ref 96), (1, .int x1), (2, .int x2), (3, .int (1 : Int32)), (4, .int (x4 + (1 : Int32)))] [] σ Q) : Pl PRG (n + 1) d 90 46 [(0, .ref 96), (1, .int x1), (2, .int x2), (4, .int x4)] [] σ Q := by
  have hM : PRG[90]? = some M_90 := rfl
  refine Pl.sg1 (pc' := 20) (ls' := [(4, .int (x4 + (1 : Int32))), (3, .int (1 : Int32)), (0, .ref 96), (1, .int x1), (2, .int x2)]) (st' := []) (σ' := σ) hM 4 rfl ?_
  exact Pl.live (l' := [(0, .ref 96), (1, .int x1), (2, .int x2), (3, .int (1 : Int32)), (4, .int (x4 + (1 : Int32)))]) hM lv_90 ⟨show ndL _ from (by decide : List.Nodup ([4, 3, 0, 1, 2] : List Nat)), show ndL _ from (by decide : List.Nodup ([0, 1, 2, 3, 4] : List Nat)), by rw [lva_90_20]; exact List.forall_mem_cons.mpr ⟨rfl, List.forall_mem_cons.mpr ⟨rfl, List.forall_mem_cons.mpr ⟨rfl, List.forall_mem_cons.mpr ⟨rfl, List.forall_mem_cons.mpr ⟨rfl, fun _ h => absurd h List.not_mem_nil⟩⟩⟩⟩⟩⟩ h
set_option maxRecDepth 100000 in
theorem p_7_0 {n d : Nat} {Q : Option Value → Sg → Prop} (σ : Sg) (x1 x2 : Int32) (h : (∀ w2 σ1, RCx PRG n 6 [.ref 94, .int x1, .int x2] σ (some (.int w2)) σ1 → Q (some (.int w2)) σ1)) : Pl PRG (n + 1) d 7 0 [(0, .ref 93), (1, .int x1), (2, .int x2)] [] σ Q := by
  have hM : PRG[7]? = some M_7 := rfl
  refine Pl.sg1 (pc' := 6) (ls' := [(0, .ref 93), (1, .int x1), (2, .int x2)]) (st' := [.int x2, .int x1, .ref 94]) (σ' := σ) hM 3 rfl ?_
  refine Pl.weak (Pl.cI hM rfl rfl (by decide) (Mj := M_6) rfl rfl (fun w2 σ1 hw => ?_))
  replace h := h w2 σ1 hw
  refine Pl.weak (Pl.ret hM rfl rfl h)
set_option maxRecDepth 100000 in
theorem p_8_0 {n d : Nat} {Q : Option Value → Sg → Prop} (σ : Sg) (x1 x2 : Int32) (h : (∀ w2 σ1, RCx PRG n 6 [.ref 95, .int x1, .int x2] σ (some (.int w2)) σ1 → Q (some (.int w2)) σ1)) : Pl PRG (n + 1) d 8 0 [(0, .ref 93), (1, .int x1), (2, .int x2)] [] σ Q := by
  have hM : PRG[8]? = some M_8 := rfl
  refine Pl.sg1 (pc' := 6) (ls' := [(0, .ref 93), (1, .int x1), (2, .int x2)]) (st' := [.int x2, .int x1, .ref 95]) (σ' := σ) hM 3 rfl ?_
  refine Pl.weak (Pl.cI hM rfl rfl (by decide) (Mj := M_6) rfl rfl (fun w2 σ1 hw => ?_))
  replace h := h w2 σ1 hw
  refine Pl.weak (Pl.ret hM rfl rfl h)
def LV_6 : List (Nat × List Nat) := [(0, [0, 1, 2]), (1, [0, 1, 2]), (2, [0, 1, 2, 3]), (3, [0, 1, 2, 3]), (5, [0, 1, 2, 3, 4]), (7, [0, 1, 2, 3, 4]), (8, [0, 1, 2, 3, 4]), (11, [0, 1, 2, 3, 4]), (13, [0, 1, 2, 3, 4]), (15, [0, 1, 2, 3, 4]), (18, [0, 1, 2, 3, 4]), (19, [0, 1, 2, 4]), (20, [0, 1, 2, 4]), (22, [0, 1, 2, 4]), (24, [0, 1, 2, 4]), (25, [0, 1, 2, 4]), (26, [0, 1, 2, 4]), (27, [0, 1, 2, 4]), (28, [0, 1, 2, 4]), (29, [0, 1, 2, 4]), (30, [0, 1, 2, 3, 4]), (33, [0, 1, 2, 3, 4]), (36, [3]), (37, [])]
set_option maxRecDepth 100000 in
theorem lv_6 : chkLv M_6 LV_6 = true := by decide +kernel
set_option maxRecDepth 100000 in
theorem lva_6_5 : lvA LV_6 5 = [0, 1, 2, 3, 4] := by decide +kernel
set_option maxRecDepth 100000 in
theorem lva_6_36 : lvA LV_6 36 = [3] := by decide +kernel
set_option maxRecDepth 100000 in
theorem p_6_b94_0 {n d : Nat} {Q : Option Value → Sg → Prop} (σ : Sg) (x1 x2 : Int32) (h : Pl PRG n d 6 5 [(0, .ref 94), (1, .int x1), (2, .int x2), (3, .int (0 : Int32)), (4, .int (0 : Int32))] [] σ Q) : Pl PRG (n + 1) d 6 0 [(0, .ref 94), (1, .int x1), (2, .int x2)] [] σ Q := by
  have hM : PRG[6]? = some M_6 := rfl
  refine Pl.sg1 (pc' := 5) (ls' := [(4, .int (0 : Int32)), (3, .int (0 : Int32)), (0, .ref 94), (1, .int x1), (2, .int x2)]) (st' := []) (σ' := σ) hM 3 rfl ?_
  exact Pl.live (l' := [(0, .ref 94), (1, .int x1), (2, .int x2), (3, .int (0 : Int32)), (4, .int (0 : Int32))]) hM lv_6 ⟨show ndL _ from (by decide : List.Nodup ([4, 3, 0, 1, 2] : List Nat)), show ndL _ from (by decide : List.Nodup ([0, 1, 2, 3, 4] : List Nat)), by rw [lva_6_5]; exact List.forall_mem_cons.mpr ⟨rfl, List.forall_mem_cons.mpr ⟨rfl, List.forall_mem_cons.mpr ⟨rfl, List.forall_mem_cons.mpr ⟨rfl, List.forall_mem_cons.mpr ⟨rfl, fun _ h => absurd h List.not_mem_nil⟩⟩⟩⟩⟩⟩ h
set_option maxRecDepth 100000 in
theorem p_6_b94_5 {n d : Nat} {Q : Option Value → Sg → Prop} (σ : Sg) (x1 x2 x3 x4 : Int32) (h : ((x2 ≤ x4 → Pl PRG n d 6 36 [(3, .int x3)] [] σ Q) ∧ (¬ x2 ≤ x4 → (((8 : Int32) ≤ x4 → Pl PRG n d 6 36 [(3, .int x3)] [] σ Q) ∧ (¬ (8 : Int32) ≤ x4 → (inR ((x4 * (6 : Int32)) + x1) 48 = true → Pl PRG n d 6 5 [(0, .ref 94), (1, .int x1), (2, .int x2), (3, .int (x3 + (σ.1 94 ((x4 * (6 : Int32)) + x1).toNatClampNeg))), (4, .int (x4 + (1 : Int32)))] [] σ Q)))))) : Pl PRG (n + 1) d 6 5 [(0, .ref 94), (1, .int x1), (2, .int x2), (3, .int x3), (4, .int x4)] [] σ Q := by
  have hM : PRG[6]? = some M_6 := rfl
  refine Pl.br1 (c := x2 ≤ x4) (a := 36) (b := 11) (ls' := [(0, .ref 94), (1, .int x1), (2, .int x2), (3, .int x3), (4, .int x4)]) (st' := []) (σ' := σ) hM 2 rfl (fun c => ?_) (fun c => ?_)
  · replace h := h.1 c
    exact Pl.live (l' := [(3, .int x3)]) hM lv_6 ⟨show ndL _ from (by decide : List.Nodup ([0, 1, 2, 3, 4] : List Nat)), show ndL _ from (by decide : List.Nodup ([3] : List Nat)), by rw [lva_6_36]; exact List.forall_mem_cons.mpr ⟨rfl, fun _ h => absurd h List.not_mem_nil⟩⟩ h
  · replace h := h.2 c
    refine Pl.br (c := (8 : Int32) ≤ x4) (a := 36) (b := 18) (ls' := [(0, .ref 94), (1, .int x1), (2, .int x2), (3, .int x3), (4, .int x4)]) (st' := []) (σ' := σ) hM 3 rfl (fun c => ?_) (fun c => ?_)
    · replace h := h.1 c
      exact Pl.live (l' := [(3, .int x3)]) hM lv_6 ⟨show ndL _ from (by decide : List.Nodup ([0, 1, 2, 3, 4] : List Nat)), show ndL _ from (by decide : List.Nodup ([3] : List Nat)), by rw [lva_6_36]; exact List.forall_mem_cons.mpr ⟨rfl, fun _ h => absurd h List.not_mem_nil⟩⟩ h
    · replace h := h.2 c
      refine Pl.seg (pc' := 27) (ls' := [(0, .ref 94), (1, .int x1), (2, .int x2), (3, .int x3), (4, .int x4)]) (st' := [.int ((x4 * (6 : Int32)) + x1), .ref 94, .int x3]) (σ' := σ) hM 7 rfl ?_
      refine Pl.weak (Pl.iald hM rfl rfl (fun hi => ?_))
      replace h := h hi
      refine Pl.seg (pc' := 5) (ls' := [(4, .int (x4 + (1 : Int32))), (3, .int (x3 + (σ.1 94 ((x4 * (6 : Int32)) + x1).toNatClampNeg))), (0, .ref 94), (1, .int x1), (2, .int x2)]) (st' := []) (σ' := σ) hM 4 rfl ?_
      exact Pl.live (l' := [(0, .ref 94), (1, .int x1), (2, .int x2), (3, .int (x3 + (σ.1 94 ((x4 * (6 : Int32)) + x1).toNatClampNeg))), (4, .int (x4 + (1 : Int32)))]) hM lv_6 ⟨show ndL _ from (by decide : List.Nodup ([4, 3, 0, 1, 2] : List Nat)), show ndL _ from (by decide : List.Nodup ([0, 1, 2, 3, 4] : List Nat)), by rw [lva_6_5]; exact List.forall_mem_cons.mpr ⟨rfl, List.forall_mem_cons.mpr ⟨rfl, List.forall_mem_cons.mpr ⟨rfl, List.forall_mem_cons.mpr ⟨rfl, List.forall_mem_cons.mpr ⟨rfl, fun _ h => absurd h List.not_mem_nil⟩⟩⟩⟩⟩⟩ h
set_option maxRecDepth 100000 in
theorem p_6_b94_36 {n d : Nat} {Q : Option Value → Sg → Prop} (σ : Sg) (x3 : Int32) (h : Q (some (.int x3)) σ) : Pl PRG (n + 1) d 6 36 [(3, .int x3)] [] σ Q := by
  have hM : PRG[6]? = some M_6 := rfl
  refine Pl.sg1 (pc' := 37) (ls' := [(3, .int x3)]) (st' := [.int x3]) (σ' := σ) hM 0 rfl ?_
  refine Pl.weak (Pl.ret hM rfl rfl h)
set_option maxRecDepth 100000 in
theorem p_6_b95_0 {n d : Nat} {Q : Option Value → Sg → Prop} (σ : Sg) (x1 x2 : Int32) (h : Pl PRG n d 6 5 [(0, .ref 95), (1, .int x1), (2, .int x2), (3, .int (0 : Int32)), (4, .int (0 : Int32))] [] σ Q) : Pl PRG (n + 1) d 6 0 [(0, .ref 95), (1, .int x1), (2, .int x2)] [] σ Q := by
  have hM : PRG[6]? = some M_6 := rfl
  refine Pl.sg1 (pc' := 5) (ls' := [(4, .int (0 : Int32)), (3, .int (0 : Int32)), (0, .ref 95), (1, .int x1), (2, .int x2)]) (st' := []) (σ' := σ) hM 3 rfl ?_
  exact Pl.live (l' := [(0, .ref 95), (1, .int x1), (2, .int x2), (3, .int (0 : Int32)), (4, .int (0 : Int32))]) hM lv_6 ⟨show ndL _ from (by decide : List.Nodup ([4, 3, 0, 1, 2] : List Nat)), show ndL _ from (by decide : List.Nodup ([0, 1, 2, 3, 4] : List Nat)), by rw [lva_6_5]; exact List.forall_mem_cons.mpr ⟨rfl, List.forall_mem_cons.mpr ⟨rfl, List.forall_mem_cons.mpr ⟨rfl, List.forall_mem_cons.mpr ⟨rfl, List.forall_mem_cons.mpr ⟨rfl, fun _ h => absurd h List.not_mem_nil⟩⟩⟩⟩⟩⟩ h
set_option maxRecDepth 100000 in
theorem p_6_b95_5 {n d : Nat} {Q : Option Value → Sg → Prop} (σ : Sg) (x1 x2 x3 x4 : Int32) (h : ((x2 ≤ x4 → Pl PRG n d 6 36 [(3, .int x3)] [] σ Q) ∧ (¬ x2 ≤ x4 → (((8 : Int32) ≤ x4 → Pl PRG n d 6 36 [(3, .int x3)] [] σ Q) ∧ (¬ (8 : Int32) ≤ x4 → (inR ((x4 * (6 : Int32)) + x1) 48 = true → Pl PRG n d 6 5 [(0, .ref 95), (1, .int x1), (2, .int x2), (3, .int (x3 + (σ.1 95 ((x4 * (6 : Int32)) + x1).toNatClampNeg))), (4, .int (x4 + (1 : Int32)))] [] σ Q)))))) : Pl PRG (n + 1) d 6 5 [(0, .ref 95), (1, .int x1), (2, .int x2), (3, .int x3), (4, .int x4)] [] σ Q := by
  have hM : PRG[6]? = some M_6 := rfl
  refine Pl.br1 (c := x2 ≤ x4) (a := 36) (b := 11) (ls' := [(0, .ref 95), (1, .int x1), (2, .int x2), (3, .int x3), (4, .int x4)]) (st' := []) (σ' := σ) hM 2 rfl (fun c => ?_) (fun c => ?_)
  · replace h := h.1 c
    exact Pl.live (l' := [(3, .int x3)]) hM lv_6 ⟨show ndL _ from (by decide : List.Nodup ([0, 1, 2, 3, 4] : List Nat)), show ndL _ from (by decide : List.Nodup ([3] : List Nat)), by rw [lva_6_36]; exact List.forall_mem_cons.mpr ⟨rfl, fun _ h => absurd h List.not_mem_nil⟩⟩ h
  · replace h := h.2 c
    refine Pl.br (c := (8 : Int32) ≤ x4) (a := 36) (b := 18) (ls' := [(0, .ref 95), (1, .int x1), (2, .int x2), (3, .int x3), (4, .int x4)]) (st' := []) (σ' := σ) hM 3 rfl (fun c => ?_) (fun c => ?_)
    · replace h := h.1 c
      exact Pl.live (l' := [(3, .int x3)]) hM lv_6 ⟨show ndL _ from (by decide : List.Nodup ([0, 1, 2, 3, 4] : List Nat)), show ndL _ from (by decide : List.Nodup ([3] : List Nat)), by rw [lva_6_36]; exact List.forall_mem_cons.mpr ⟨rfl, fun _ h => absurd h List.not_mem_nil⟩⟩ h
    · replace h := h.2 c
      refine Pl.seg (pc' := 27) (ls' := [(0, .ref 95), (1, .int x1), (2, .int x2), (3, .int x3), (4, .int x4)]) (st' := [.int ((x4 * (6 : Int32)) + x1), .ref 95, .int x3]) (σ' := σ) hM 7 rfl ?_
      refine Pl.weak (Pl.iald hM rfl rfl (fun hi => ?_))
      replace h := h hi
      refine Pl.seg (pc' := 5) (ls' := [(4, .int (x4 + (1 : Int32))), (3, .int (x3 + (σ.1 95 ((x4 * (6 : Int32)) + x1).toNatClampNeg))), (0, .ref 95), (1, .int x1), (2, .int x2)]) (st' := []) (σ' := σ) hM 4 rfl ?_
      exact Pl.live (l' := [(0, .ref 95), (1, .int x1), (2, .int x2), (3, .int (x3 + (σ.1 95 ((x4 * (6 : Int32)) + x1).toNatClampNeg))), (4, .int (x4 + (1 : Int32)))]) hM lv_6 ⟨show ndL _ from (by decide : List.Nodup ([4, 3, 0, 1, 2] : List Nat)), show ndL _ from (by decide : List.Nodup ([0, 1, 2, 3, 4] : List Nat)), by rw [lva_6_5]; exact List.forall_mem_cons.mpr ⟨rfl, List.forall_mem_cons.mpr ⟨rfl, List.forall_mem_cons.mpr ⟨rfl, List.forall_mem_cons.mpr ⟨rfl, List.forall_mem_cons.mpr ⟨rfl, fun _ h => absurd h List.not_mem_nil⟩⟩⟩⟩⟩⟩ h
set_option maxRecDepth 100000 in
theorem p_6_b95_36 {n d : Nat} {Q : Option Value → Sg → Prop} (σ : Sg) (x3 : Int32) (h : Q (some (.int x3)) σ) : Pl PRG (n + 1) d 6 36 [(3, .int x3)] [] σ Q := by
  have hM : PRG[6]? = some M_6 := rfl
  refine Pl.sg1 (pc' := 37) (ls' := [(3, .int x3)]) (st' := [.int x3]) (σ' := σ) hM 0 rfl ?_
  refine Pl.weak (Pl.ret hM rfl rfl h)
def LV_144 : List (Nat × List Nat) := [(0, [0, 1, 2, 3]), (1, [0, 1, 2, 3]), (4, [0, 1, 2, 3]), (5, [0, 1, 2, 3]), (6, [0, 1, 2, 3]), (9, [0, 1, 2, 3]), (12, [0, 1, 2, 3]), (15, [0, 1, 2, 3]), (16, [0, 1, 2, 3]), (17, [0, 1, 2, 3]), (20, [0, 1, 2, 3]), (23, [0, 1, 2, 3]), (24, [0, 1, 2, 3]), (27, [0, 1, 2, 3]), (28, [0, 1, 2, 3]), (29, [0, 1, 2, 3]), (32, []), (33, []), (34, [0, 1, 2, 3]), (35, [0, 1, 3]), (36, [0, 1]), (39, [0, 1]), (40, [1]), (43, [1]), (46, [1]), (47, []), (48, []), (51, [0, 1]), (52, [1]), (55, [1]), (58, [1]), (59, []), (60, []), (61, [])]
set_option maxRecDepth 100000 in
theorem lv_144 : chkLv M_144 LV_144 = true := by decide +kernel
set_option maxRecDepth 100000 in
theorem lva_144_32 : lvA LV_144 32 = [] := by decide +kernel
set_option maxRecDepth 100000 in
theorem p_144_0 {n d : Nat} {Q : Option Value → Sg → Prop} (σ : Sg) (x1 x2 x3 : Int32) (h : ((x1 < 0 → Pl PRG n d 144 32 [] [] σ Q) ∧ (¬ x1 < 0 → (((σ.1 22 7) ≤ x1 → Pl PRG n d 144 32 [] [] σ Q) ∧ (¬ (σ.1 22 7) ≤ x1 → (∀ w2 σ1, RCx PRG n 143 [.ref 0, .int x2] σ (some (.int w2)) σ1 → (w2 = 0 ∨ w2 = 1) → ((w2 = 0 → Pl PRG n d 144 32 [] [] σ1 Q) ∧ (¬ w2 = 0 → ((x3 < 0 → Pl PRG n d 144 32 [] [] σ1 Q) ∧ (¬ x3 < 0 → ((x3 ≤ (1 : Int32) → ((x3 = 0 → (inR x1 16 = true → Q (some (.int (x2 &&& (σ1.1 31 x1.toNatClampNeg)))) σ1)) ∧ (¬ x3 = 0 → (inR x1 16 = true → Q (some (.int (x2 &&& (σ1.1 32 x1.toNatClampNeg)))) σ1)))) ∧ (¬ x3 ≤ (1 : Int32) → Pl PRG n d 144 32 [] [] σ1 Q)))))))))))) : Pl PRG (n + 1) d 144 0 [(0, .ref 0), (1, .int x1), (2, .int x2), (3, .int x3)] [] σ Q := by
  have hM : PRG[144]? = some M_144 := rfl
  refine Pl.br1 (c := x1 < 0) (a := 32) (b := 4) (ls' := [(0, .ref 0), (1, .int x1), (2, .int x2), (3, .int x3)]) (st' := []) (σ' := σ) hM 1 rfl (fun c => ?_) (fun c => ?_)
  · replace h := h.1 c
    exact Pl.live (l' := []) hM lv_144 ⟨show ndL _ from (by decide : List.Nodup ([0, 1, 2, 3] : List Nat)), show ndL _ from (by decide : List.Nodup ([] : List Nat)), by rw [lva_144_32]; exact fun _ h => absurd h List.not_mem_nil⟩ h
  · replace h := h.2 c
    refine Pl.br (c := (σ.1 22 7) ≤ x1) (a := 32) (b := 15) (ls' := [(0, .ref 0), (1, .int x1), (2, .int x2), (3, .int x3)]) (st' := []) (σ' := σ) hM 5 rfl (fun c => ?_) (fun c => ?_)
    · replace h := h.1 c
      exact Pl.live (l' := []) hM lv_144 ⟨show ndL _ from (by decide : List.Nodup ([0, 1, 2, 3] : List Nat)), show ndL _ from (by decide : List.Nodup ([] : List Nat)), by rw [lva_144_32]; exact fun _ h => absurd h List.not_mem_nil⟩ h
    · replace h := h.2 c
      refine Pl.seg (pc' := 17) (ls' := [(0, .ref 0), (1, .int x1), (2, .int x2), (3, .int x3)]) (st' := [.int x2, .ref 0]) (σ' := σ) hM 2 rfl ?_
      refine Pl.weak (Pl.cZ hM rfl rfl (by decide) (Mj := M_143) rfl rfl (fun w2 σ1 hw hz => ?_))
      replace h := h w2 σ1 hw hz
      refine Pl.br (c := w2 = 0) (a := 32) (b := 23) (ls' := [(0, .ref 0), (1, .int x1), (2, .int x2), (3, .int x3)]) (st' := []) (σ' := σ1) hM 1 rfl (fun c => ?_) (fun c => ?_)
      · replace h := h.1 c
        exact Pl.live (l' := []) hM lv_144 ⟨show ndL _ from (by decide : List.Nodup ([0, 1, 2, 3] : List Nat)), show ndL _ from (by decide : List.Nodup ([] : List Nat)), by rw [lva_144_32]; exact fun _ h => absurd h List.not_mem_nil⟩ h
      · replace h := h.2 c
        refine Pl.br (c := x3 < 0) (a := 32) (b := 27) (ls' := [(0, .ref 0), (1, .int x1), (2, .int x2), (3, .int x3)]) (st' := []) (σ' := σ1) hM 2 rfl (fun c => ?_) (fun c => ?_)
        · replace h := h.1 c
          exact Pl.live (l' := []) hM lv_144 ⟨show ndL _ from (by decide : List.Nodup ([0, 1, 2, 3] : List Nat)), show ndL _ from (by decide : List.Nodup ([] : List Nat)), by rw [lva_144_32]; exact fun _ h => absurd h List.not_mem_nil⟩ h
        · replace h := h.2 c
          refine Pl.br (c := x3 ≤ (1 : Int32)) (a := 34) (b := 32) (ls' := [(0, .ref 0), (1, .int x1), (2, .int x2), (3, .int x3)]) (st' := []) (σ' := σ1) hM 3 rfl (fun c => ?_) (fun c => ?_)
          · replace h := h.1 c
            refine Pl.brN (c := x3 = 0) (a := 51) (b := 39) (ls' := [(0, .ref 0), (1, .int x1), (2, .int x2), (3, .int x3)]) (st' := [.int x2]) (σ' := σ1) hM 3 rfl (fun c => ?_) (fun c => ?_)
            · replace h := h.2 c
              refine Pl.seg (pc' := 59) (ls' := [(0, .ref 0), (1, .int x1), (2, .int x2), (3, .int x3)]) (st' := [.int x1, .ref 32, .int x2]) (σ' := σ1) hM 4 rfl ?_
              refine Pl.weak (Pl.iald hM rfl rfl (fun hi => ?_))
              replace h := h hi
              refine Pl.seg (pc' := 61) (ls' := [(0, .ref 0), (1, .int x1), (2, .int x2), (3, .int x3)]) (st' := [.int (x2 &&& (σ1.1 32 x1.toNatClampNeg))]) (σ' := σ1) hM 1 rfl ?_
              refine Pl.weak (Pl.ret hM rfl rfl h)
            · replace h := h.1 c
              refine Pl.seg (pc' := 47) (ls' := [(0, .ref 0), (1, .int x1), (2, .int x2), (3, .int x3)]) (st' := [.int x1, .ref 31, .int x2]) (σ' := σ1) hM 4 rfl ?_
              refine Pl.weak (Pl.iald hM rfl rfl (fun hi => ?_))
              replace h := h hi
              refine Pl.seg (pc' := 61) (ls' := [(0, .ref 0), (1, .int x1), (2, .int x2), (3, .int x3)]) (st' := [.int (x2 &&& (σ1.1 31 x1.toNatClampNeg))]) (σ' := σ1) hM 2 rfl ?_
              refine Pl.weak (Pl.ret hM rfl rfl h)
          · replace h := h.2 c
            exact Pl.live (l' := []) hM lv_144 ⟨show ndL _ from (by decide : List.Nodup ([0, 1, 2, 3] : List Nat)), show ndL _ from (by decide : List.Nodup ([] : List Nat)), by rw [lva_144_32]; exact fun _ h => absurd h List.not_mem_nil⟩ h
set_option maxRecDepth 100000 in
theorem p_144_32 {n d : Nat} {Q : Option Value → Sg → Prop} (σ : Sg) (h : Q (some (.int (-1 : Int32))) σ) : Pl PRG (n + 1) d 144 32 [] [] σ Q := by
  have hM : PRG[144]? = some M_144 := rfl
  refine Pl.sg1 (pc' := 33) (ls' := []) (st' := [.int (-1 : Int32)]) (σ' := σ) hM 0 rfl ?_
  refine Pl.weak (Pl.ret hM rfl rfl h)
def LV_155 : List (Nat × List Nat) := [(0, [0, 1]), (1, [0, 1]), (2, [0, 1]), (5, [0, 1]), (8, [0, 1]), (9, [1]), (12, [1]), (15, [1]), (16, []), (17, []), (18, []), (19, []), (22, []), (23, []), (26, []), (27, [])]
set_option maxRecDepth 100000 in
theorem lv_155 : chkLv M_155 LV_155 = true := by decide +kernel
set_option maxRecDepth 100000 in
theorem lva_155_26 : lvA LV_155 26 = [] := by decide +kernel
set_option maxRecDepth 100000 in
theorem p_155_0 {n d : Nat} {Q : Option Value → Sg → Prop} (σ : Sg) (x1 : Int32) (h : (∀ w2 σ1, RCx PRG n 134 [.ref 0, .int x1] σ (some (.int w2)) σ1 → (w2 = 0 ∨ w2 = 1) → ((w2 = 0 → Pl PRG n d 155 26 [] [] σ1 Q) ∧ (¬ w2 = 0 → (∀ w4 σ3, RCx PRG n 35 [.ref 22] σ1 (some (.int w4)) σ3 → ((((w4 >>> (x1 &&& 31)) &&& (1 : Int32)) = 0 → Pl PRG n d 155 26 [] [] σ3 Q) ∧ (¬ ((w4 >>> (x1 &&& 31)) &&& (1 : Int32)) = 0 → Q (some (.int (1 : Int32))) σ3))))))) : Pl PRG (n + 1) d 155 0 [(0, .ref 0), (1, .int x1)] [] σ Q := by
  have hM : PRG[155]? = some M_155 := rfl
  refine Pl.sg1 (pc' := 2) (ls' := [(0, .ref 0), (1, .int x1)]) (st' := [.int x1, .ref 0]) (σ' := σ) hM 1 rfl ?_
  refine Pl.weak (Pl.cZ hM rfl rfl (by decide) (Mj := M_134) rfl rfl (fun w2 σ1 hw hz => ?_))
  replace h := h w2 σ1 hw hz
  refine Pl.br (c := w2 = 0) (a := 26) (b := 8) (ls' := [(0, .ref 0), (1, .int x1)]) (st' := []) (σ' := σ1) hM 1 rfl (fun c => ?_) (fun c => ?_)
  · replace h := h.1 c
    exact Pl.live (l' := []) hM lv_155 ⟨show ndL _ from (by decide : List.Nodup ([0, 1] : List Nat)), show ndL _ from (by decide : List.Nodup ([] : List Nat)), by rw [lva_155_26]; exact fun _ h => absurd h List.not_mem_nil⟩ h
  · replace h := h.2 c
    refine Pl.seg (pc' := 12) (ls' := [(0, .ref 0), (1, .int x1)]) (st' := [.ref 22]) (σ' := σ1) hM 2 rfl ?_
    refine Pl.weak (Pl.cI hM rfl rfl (by decide) (Mj := M_35) rfl rfl (fun w4 σ3 hw => ?_))
    replace h := h w4 σ3 hw
    refine Pl.br (c := ((w4 >>> (x1 &&& 31)) &&& (1 : Int32)) = 0) (a := 26) (b := 22) (ls' := [(0, .ref 0), (1, .int x1)]) (st' := []) (σ' := σ3) hM 5 rfl (fun c => ?_) (fun c => ?_)
    · replace h := h.1 c
      exact Pl.live (l' := []) hM lv_155 ⟨show ndL _ from (by decide : List.Nodup ([0, 1] : List Nat)), show ndL _ from (by decide : List.Nodup ([] : List Nat)), by rw [lva_155_26]; exact fun _ h => absurd h List.not_mem_nil⟩ h
    · replace h := h.2 c
      refine Pl.seg (pc' := 27) (ls' := [(0, .ref 0), (1, .int x1)]) (st' := [.int (1 : Int32)]) (σ' := σ3) hM 2 rfl ?_
      refine Pl.weak (Pl.ret hM rfl rfl h)
set_option maxRecDepth 100000 in
theorem p_155_26 {n d : Nat} {Q : Option Value → Sg → Prop} (σ : Sg) (h : Q (some (.int (0 : Int32))) σ) : Pl PRG (n + 1) d 155 26 [] [] σ Q := by
  have hM : PRG[155]? = some M_155 := rfl
  refine Pl.sg1 (pc' := 27) (ls' := []) (st' := [.int (0 : Int32)]) (σ' := σ) hM 0 rfl ?_
  refine Pl.weak (Pl.ret hM rfl rfl h)
def LV_162 : List (Nat × List Nat) := [(0, [0, 1]), (1, [0, 1]), (4, [0, 1]), (7, [0, 1]), (10, [0, 1]), (11, [0, 1]), (12, [0, 1]), (15, [0, 1]), (18, []), (19, []), (22, [0, 1]), (23, [1]), (26, [1]), (27, []), (30, [])]
set_option maxRecDepth 100000 in
theorem lv_162 : chkLv M_162 LV_162 = true := by decide +kernel
set_option maxRecDepth 100000 in
theorem lva_162_18 : lvA LV_162 18 = [] := by decide +kernel
set_option maxRecDepth 100000 in
theorem p_162_0 {n d : Nat} {Q : Option Value → Sg → Prop} (σ : Sg) (x1 : Int32) (h : (((σ.1 22 6) < 0 → Pl PRG n d 162 18 [] [] σ Q) ∧ (¬ (σ.1 22 6) < 0 → (∀ w2 σ1, RCx PRG n 155 [.ref 0, .int x1] σ (some (.int w2)) σ1 → (w2 = 0 ∨ w2 = 1) → ((w2 = 0 → Pl PRG n d 162 18 [] [] σ1 Q) ∧ (¬ w2 = 0 → (∀ w4 σ3, RCx PRG n 40 [.ref 22, .int x1] σ1 (some (.int w4)) σ3 → Q (some (.int w4)) σ3))))))) : Pl PRG (n + 1) d 162 0 [(0, .ref 0), (1, .int x1)] [] σ Q := by
  have hM : PRG[162]? = some M_162 := rfl
  refine Pl.br1 (c := (σ.1 22 6) < 0) (a := 18) (b := 10) (ls' := [(0, .ref 0), (1, .int x1)]) (st' := []) (σ' := σ) hM 3 rfl (fun c => ?_) (fun c => ?_)
  · replace h := h.1 c
    exact Pl.live (l' := []) hM lv_162 ⟨show ndL _ from (by decide : List.Nodup ([0, 1] : List Nat)), show ndL _ from (by decide : List.Nodup ([] : List Nat)), by rw [lva_162_18]; exact fun _ h => absurd h List.not_mem_nil⟩ h
  · replace h := h.2 c
    refine Pl.seg (pc' := 12) (ls' := [(0, .ref 0), (1, .int x1)]) (st' := [.int x1, .ref 0]) (σ' := σ) hM 2 rfl ?_
    refine Pl.weak (Pl.cZ hM rfl rfl (by decide) (Mj := M_155) rfl rfl (fun w2 σ1 hw hz => ?_))
    replace h := h w2 σ1 hw hz
    refine Pl.brN (c := w2 = 0) (a := 22) (b := 18) (ls' := [(0, .ref 0), (1, .int x1)]) (st' := []) (σ' := σ1) hM 1 rfl (fun c => ?_) (fun c => ?_)
    · replace h := h.2 c
      refine Pl.seg (pc' := 27) (ls' := [(0, .ref 0), (1, .int x1)]) (st' := [.int x1, .ref 22]) (σ' := σ1) hM 3 rfl ?_
      refine Pl.weak (Pl.cI hM rfl rfl (by decide) (Mj := M_40) rfl rfl (fun w4 σ3 hw => ?_))
      replace h := h w4 σ3 hw
      refine Pl.weak (Pl.ret hM rfl rfl h)
    · replace h := h.1 c
      exact Pl.live (l' := []) hM lv_162 ⟨show ndL _ from (by decide : List.Nodup ([0, 1] : List Nat)), show ndL _ from (by decide : List.Nodup ([] : List Nat)), by rw [lva_162_18]; exact fun _ h => absurd h List.not_mem_nil⟩ h
set_option maxRecDepth 100000 in
theorem p_162_18 {n d : Nat} {Q : Option Value → Sg → Prop} (σ : Sg) (h : Q (some (.int (-1 : Int32))) σ) : Pl PRG (n + 1) d 162 18 [] [] σ Q := by
  have hM : PRG[162]? = some M_162 := rfl
  refine Pl.sg1 (pc' := 30) (ls' := []) (st' := [.int (-1 : Int32)]) (σ' := σ) hM 1 rfl ?_
  refine Pl.weak (Pl.ret hM rfl rfl h)
def LV_168 : List (Nat × List Nat) := [(0, [0, 1]), (1, [0, 1]), (4, [0, 1]), (5, [0, 1]), (6, [0, 1]), (9, [0, 1]), (12, [0, 1]), (15, []), (16, []), (17, [0, 1]), (18, [0, 1]), (19, [0, 1, 2]), (20, [0, 1, 2]), (21, [0, 1, 2, 3]), (22, [0, 1, 2, 3]), (23, [0, 1, 2, 3]), (26, [0, 1, 2, 3]), (29, [0, 1, 2, 3]), (32, [0, 1, 2, 3]), (33, [0, 1, 2, 3]), (36, [0, 1, 2, 3]), (37, [0, 1, 2, 3]), (38, [0, 1, 2, 3]), (41, [0, 1, 2, 3]), (44, [0, 1, 2, 3]), (45, [0, 1, 3]), (46, [0, 1, 3]), (47, [0, 1, 3]), (48, [0, 1, 3]), (49, [0, 1, 3]), (50, [0, 1, 2, 3]), (53, [0, 1, 2, 3]), (56, [2]), (57, [])]
set_option maxRecDepth 100000 in
theorem lv_168 : chkLv M_168 LV_168 = true := by decide +kernel
set_option maxRecDepth 100000 in
theorem lva_168_15 : lvA LV_168 15 = [] := by decide +kernel
set_option maxRecDepth 100000 in
theorem lva_168_21 : lvA LV_168 21 = [0, 1, 2, 3] := by decide +kernel
set_option maxRecDepth 100000 in
theorem lva_168_50 : lvA LV_168 50 = [0, 1, 2, 3] := by decide +kernel
set_option maxRecDepth 100000 in
theorem p_168_0 {n d : Nat} {Q : Option Value → Sg → Prop} (σ : Sg) (x1 : Int32) (h : ((x1 < 0 → Pl PRG n d 168 15 [] [] σ Q) ∧ (¬ x1 < 0 → ((x1 ≤ (σ.1 93 2) → Pl PRG n d 168 21 [(0, .ref 0), (1, .int x1), (2, .int (0 : Int32)), (3, .int (0 : Int32))] [] σ Q) ∧ (¬ x1 ≤ (σ.1 93 2) → Pl PRG n d 168 15 [] [] σ Q))))) : Pl PRG (n + 1) d 168 0 [(0, .ref 0), (1, .int x1)] [] σ Q := by
  have hM : PRG[168]? = some M_168 := rfl
  refine Pl.br1 (c := x1 < 0) (a := 15) (b := 4) (ls' := [(0, .ref 0), (1, .int x1)]) (st' := []) (σ' := σ) hM 1 rfl (fun c => ?_) (fun c => ?_)
  · replace h := h.1 c
    exact Pl.live (l' := []) hM lv_168 ⟨show ndL _ from (by decide : List.Nodup ([0, 1] : List Nat)), show ndL _ from (by decide : List.Nodup ([] : List Nat)), by rw [lva_168_15]; exact fun _ h => absurd h List.not_mem_nil⟩ h
  · replace h := h.2 c
    refine Pl.br (c := x1 ≤ (σ.1 93 2)) (a := 17) (b := 15) (ls' := [(0, .ref 0), (1, .int x1)]) (st' := []) (σ' := σ) hM 5 rfl (fun c => ?_) (fun c => ?_)
    · replace h := h.1 c
      refine Pl.seg (pc' := 21) (ls' := [(3, .int (0 : Int32)), (2, .int (0 : Int32)), (0, .ref 0), (1, .int x1)]) (st' := []) (σ' := σ) hM 4 rfl ?_
      exact Pl.live (l' := [(0, .ref 0), (1, .int x1), (2, .int (0 : Int32)), (3, .int (0 : Int32))]) hM lv_168 ⟨show ndL _ from (by decide : List.Nodup ([3, 2, 0, 1] : List Nat)), show ndL _ from (by decide : List.Nodup ([0, 1, 2, 3] : List Nat)), by rw [lva_168_21]; exact List.forall_mem_cons.mpr ⟨rfl, List.forall_mem_cons.mpr ⟨rfl, List.forall_mem_cons.mpr ⟨rfl, List.forall_mem_cons.mpr ⟨rfl, fun _ h => absurd h List.not_mem_nil⟩⟩⟩⟩⟩ h
    · replace h := h.2 c
      exact Pl.live (l' := []) hM lv_168 ⟨show ndL _ from (by decide : List.Nodup ([0, 1] : List Nat)), show ndL _ from (by decide : List.Nodup ([] : List Nat)), by rw [lva_168_15]; exact fun _ h => absurd h List.not_mem_nil⟩ h
set_option maxRecDepth 100000 in
theorem p_168_15 {n d : Nat} {Q : Option Value → Sg → Prop} (σ : Sg) (h : Q (some (.int (-1 : Int32))) σ) : Pl PRG (n + 1) d 168 15 [] [] σ Q := by
  have hM : PRG[168]? = some M_168 := rfl
  refine Pl.sg1 (pc' := 16) (ls' := []) (st' := [.int (-1 : Int32)]) (σ' := σ) hM 0 rfl ?_
  refine Pl.weak (Pl.ret hM rfl rfl h)
set_option maxRecDepth 100000 in
theorem p_168_21 {n d : Nat} {Q : Option Value → Sg → Prop} (σ : Sg) (x1 x2 x3 : Int32) (h : (((σ.1 3 3) ≤ x3 → Q (some (.int x2)) σ) ∧ (¬ (σ.1 3 3) ≤ x3 → (∀ w2 σ1, RCx PRG n 8 [.ref 93, .int x3, .int x1] σ (some (.int w2)) σ1 → ((w2 = 0 → Pl PRG n d 168 50 [(0, .ref 0), (1, .int x1), (2, .int (x2 ||| ((1 : Int32) <<< (x3 &&& 31)))), (3, .int x3)] [] σ1 Q) ∧ (¬ w2 = 0 → Pl PRG n d 168 50 [(0, .ref 0), (1, .int x1), (2, .int x2), (3, .int x3)] [] σ1 Q)))))) : Pl PRG (n + 1) d 168 21 [(0, .ref 0), (1, .int x1), (2, .int x2), (3, .int x3)] [] σ Q := by
  have hM : PRG[168]? = some M_168 := rfl
  refine Pl.br1 (c := (σ.1 3 3) ≤ x3) (a := 56) (b := 32) (ls' := [(0, .ref 0), (1, .int x1), (2, .int x2), (3, .int x3)]) (st' := []) (σ' := σ) hM 4 rfl (fun c => ?_) (fun c => ?_)
  · replace h := h.1 c
    refine Pl.seg (pc' := 57) (ls' := [(0, .ref 0), (1, .int x1), (2, .int x2), (3, .int x3)]) (st' := [.int x2]) (σ' := σ) hM 1 rfl ?_
    refine Pl.weak (Pl.ret hM rfl rfl h)
  · replace h := h.2 c
    refine Pl.seg (pc' := 38) (ls' := [(0, .ref 0), (1, .int x1), (2, .int x2), (3, .int x3)]) (st' := [.int x1, .int x3, .ref 93]) (σ' := σ) hM 4 rfl ?_
    refine Pl.weak (Pl.cI hM rfl rfl (by decide) (Mj := M_8) rfl rfl (fun w2 σ1 hw => ?_))
    replace h := h w2 σ1 hw
    refine Pl.brN (c := w2 = 0) (a := 50) (b := 44) (ls' := [(0, .ref 0), (1, .int x1), (2, .int x2), (3, .int x3)]) (st' := []) (σ' := σ1) hM 1 rfl (fun c => ?_) (fun c => ?_)
    · replace h := h.2 c
      exact Pl.live (l' := [(0, .ref 0), (1, .int x1), (2, .int x2), (3, .int x3)]) hM lv_168 ⟨show ndL _ from (by decide : List.Nodup ([0, 1, 2, 3] : List Nat)), show ndL _ from (by decide : List.Nodup ([0, 1, 2, 3] : List Nat)), by rw [lva_168_50]; exact List.forall_mem_cons.mpr ⟨rfl, List.forall_mem_cons.mpr ⟨rfl, List.forall_mem_cons.mpr ⟨rfl, List.forall_mem_cons.mpr ⟨rfl, fun _ h => absurd h List.not_mem_nil⟩⟩⟩⟩⟩ h
    · replace h := h.1 c
      refine Pl.seg (pc' := 50) (ls' := [(2, .int (x2 ||| ((1 : Int32) <<< (x3 &&& 31)))), (0, .ref 0), (1, .int x1), (3, .int x3)]) (st' := []) (σ' := σ1) hM 6 rfl ?_
      exact Pl.live (l' := [(0, .ref 0), (1, .int x1), (2, .int (x2 ||| ((1 : Int32) <<< (x3 &&& 31)))), (3, .int x3)]) hM lv_168 ⟨show ndL _ from (by decide : List.Nodup ([2, 0, 1, 3] : List Nat)), show ndL _ from (by decide : List.Nodup ([0, 1, 2, 3] : List Nat)), by rw [lva_168_50]; exact List.forall_mem_cons.mpr ⟨rfl, List.forall_mem_cons.mpr ⟨rfl, List.forall_mem_cons.mpr ⟨rfl, List.forall_mem_cons.mpr ⟨rfl, fun _ h => absurd h List.not_mem_nil⟩⟩⟩⟩⟩ h
set_option maxRecDepth 100000 in
theorem p_168_50 {n d : Nat} {Q : Option Value → Sg → Prop} (σ : Sg) (x1 x2 x3 : Int32) (h : Pl PRG n d 168 21 [(0, .ref 0), (1, .int x1), (2, .int x2), (3, .int (x3 + (1 : Int32)))] [] σ Q) : Pl PRG (n + 1) d 168 50 [(0, .ref 0), (1, .int x1), (2, .int x2), (3, .int x3)] [] σ Q := by
  have hM : PRG[168]? = some M_168 := rfl
  refine Pl.sg1 (pc' := 21) (ls' := [(3, .int (x3 + (1 : Int32))), (0, .ref 0), (1, .int x1), (2, .int x2)]) (st' := []) (σ' := σ) hM 1 rfl ?_
  exact Pl.live (l' := [(0, .ref 0), (1, .int x1), (2, .int x2), (3, .int (x3 + (1 : Int32)))]) hM lv_168 ⟨show ndL _ from (by decide : List.Nodup ([3, 0, 1, 2] : List Nat)), show ndL _ from (by decide : List.Nodup ([0, 1, 2, 3] : List Nat)), by rw [lva_168_21]; exact List.forall_mem_cons.mpr ⟨rfl, List.forall_mem_cons.mpr ⟨rfl, List.forall_mem_cons.mpr ⟨rfl, List.forall_mem_cons.mpr ⟨rfl, fun _ h => absurd h List.not_mem_nil⟩⟩⟩⟩⟩ h
def LV_170 : List (Nat × List Nat) := [(0, [0, 1, 2, 3]), (1, [0, 1, 2, 3]), (2, [0, 1, 2, 3]), (5, [0, 1, 2, 3]), (8, [0, 1, 2, 3]), (9, [0, 1, 2, 3]), (12, [0, 1, 2, 3]), (13, [0, 1, 2, 3]), (14, [0, 1, 2, 3]), (17, [0, 1, 2, 3]), (20, [0, 1, 2, 3]), (23, [0, 1, 2, 3]), (24, [0, 1, 2, 3]), (27, [0, 1, 2, 3]), (28, [0, 1, 2, 3]), (29, [0, 1, 2, 3]), (32, []), (33, []), (34, [0, 1, 2, 3]), (35, [0, 1, 2]), (38, [0, 1, 2]), (39, [1, 2]), (42, [1, 2]), (43, [2]), (44, []), (47, []), (50, [0, 1, 2]), (51, [1, 2]), (54, [1, 2]), (55, [2]), (56, []), (59, [])]
set_option maxRecDepth 100000 in
theorem lv_170 : chkLv M_170 LV_170 = true := by decide +kernel
set_option maxRecDepth 100000 in
theorem lva_170_32 : lvA LV_170 32 = [] := by decide +kernel
set_option maxRecDepth 100000 in
theorem p_170_0 {n d : Nat} {Q : Option Value → Sg → Prop} (σ : Sg) (x1 x2 x3 : Int32) (h : (∀ w2 σ1, RCx PRG n 169 [.ref 0, .int x1] σ (some (.int w2)) σ1 → (w2 = 0 ∨ w2 = 1) → ((w2 = 0 → Pl PRG n d 170 32 [] [] σ1 Q) ∧ (¬ w2 = 0 → ((x2 < 0 → Pl PRG n d 170 32 [] [] σ1 Q) ∧ (¬ x2 < 0 → (((σ1.1 93 2) < x2 → Pl PRG n d 170 32 [] [] σ1 Q) ∧ (¬ (σ1.1 93 2) < x2 → ((x3 < 0 → Pl PRG n d 170 32 [] [] σ1 Q) ∧ (¬ x3 < 0 → ((x3 ≤ (1 : Int32) → ((x3 = 0 → (∀ w6 σ5, RCx PRG n 7 [.ref 93, .int x1, .int x2] σ1 (some (.int w6)) σ5 → Q (some (.int w6)) σ5)) ∧ (¬ x3 = 0 → (∀ w4 σ3, RCx PRG n 8 [.ref 93, .int x1, .int x2] σ1 (some (.int w4)) σ3 → Q (some (.int w4)) σ3)))) ∧ (¬ x3 ≤ (1 : Int32) → Pl PRG n d 170 32 [] [] σ1 Q)))))))))))) : Pl PRG (n + 1) d 170 0 [(0, .ref 0), (1, .int x1), (2, .int x2), (3, .int x3)] [] σ Q := by
  have hM : PRG[170]? = some M_170 := rfl
  refine Pl.sg1 (pc' := 2) (ls' := [(0, .ref 0), (1, .int x1), (2, .int x2), (3, .int x3)]) (st' := [.int x1, .ref 0]) (σ' := σ) hM 1 rfl ?_
  refine Pl.weak (Pl.cZ hM rfl rfl (by decide) (Mj := M_169) rfl rfl (fun w2 σ1 hw hz => ?_))
  replace h := h w2 σ1 hw hz
  refine Pl.br (c := w2 = 0) (a := 32) (b := 8) (ls' := [(0, .ref 0), (1, .int x1), (2, .int x2), (3, .int x3)]) (st' := []) (σ' := σ1) hM 1 rfl (fun c => ?_) (fun c => ?_)
  · replace h := h.1 c
    exact Pl.live (l' := []) hM lv_170 ⟨show ndL _ from (by decide : List.Nodup ([0, 1, 2, 3] : List Nat)), show ndL _ from (by decide : List.Nodup ([] : List Nat)), by rw [lva_170_32]; exact fun _ h => absurd h List.not_mem_nil⟩ h
  · replace h := h.2 c
    refine Pl.br (c := x2 < 0) (a := 32) (b := 12) (ls' := [(0, .ref 0), (1, .int x1), (2, .int x2), (3, .int x3)]) (st' := []) (σ' := σ1) hM 2 rfl (fun c => ?_) (fun c => ?_)
    · replace h := h.1 c
      exact Pl.live (l' := []) hM lv_170 ⟨show ndL _ from (by decide : List.Nodup ([0, 1, 2, 3] : List Nat)), show ndL _ from (by decide : List.Nodup ([] : List Nat)), by rw [lva_170_32]; exact fun _ h => absurd h List.not_mem_nil⟩ h
    · replace h := h.2 c
      refine Pl.br (c := (σ1.1 93 2) < x2) (a := 32) (b := 23) (ls' := [(0, .ref 0), (1, .int x1), (2, .int x2), (3, .int x3)]) (st' := []) (σ' := σ1) hM 5 rfl (fun c => ?_) (fun c => ?_)
      · replace h := h.1 c
        exact Pl.live (l' := []) hM lv_170 ⟨show ndL _ from (by decide : List.Nodup ([0, 1, 2, 3] : List Nat)), show ndL _ from (by decide : List.Nodup ([] : List Nat)), by rw [lva_170_32]; exact fun _ h => absurd h List.not_mem_nil⟩ h
      · replace h := h.2 c
        refine Pl.br (c := x3 < 0) (a := 32) (b := 27) (ls' := [(0, .ref 0), (1, .int x1), (2, .int x2), (3, .int x3)]) (st' := []) (σ' := σ1) hM 2 rfl (fun c => ?_) (fun c => ?_)
        · replace h := h.1 c
          exact Pl.live (l' := []) hM lv_170 ⟨show ndL _ from (by decide : List.Nodup ([0, 1, 2, 3] : List Nat)), show ndL _ from (by decide : List.Nodup ([] : List Nat)), by rw [lva_170_32]; exact fun _ h => absurd h List.not_mem_nil⟩ h
        · replace h := h.2 c
          refine Pl.br (c := x3 ≤ (1 : Int32)) (a := 34) (b := 32) (ls' := [(0, .ref 0), (1, .int x1), (2, .int x2), (3, .int x3)]) (st' := []) (σ' := σ1) hM 3 rfl (fun c => ?_) (fun c => ?_)
          · replace h := h.1 c
            refine Pl.brN (c := x3 = 0) (a := 50) (b := 38) (ls' := [(0, .ref 0), (1, .int x1), (2, .int x2), (3, .int x3)]) (st' := []) (σ' := σ1) hM 2 rfl (fun c => ?_) (fun c => ?_)
            · replace h := h.2 c
              refine Pl.seg (pc' := 56) (ls' := [(0, .ref 0), (1, .int x1), (2, .int x2), (3, .int x3)]) (st' := [.int x2, .int x1, .ref 93]) (σ' := σ1) hM 4 rfl ?_
              refine Pl.weak (Pl.cI hM rfl rfl (by decide) (Mj := M_8) rfl rfl (fun w4 σ3 hw => ?_))
              replace h := h w4 σ3 hw
              refine Pl.weak (Pl.ret hM rfl rfl h)
            · replace h := h.1 c
              refine Pl.seg (pc' := 44) (ls' := [(0, .ref 0), (1, .int x1), (2, .int x2), (3, .int x3)]) (st' := [.int x2, .int x1, .ref 93]) (σ' := σ1) hM 4 rfl ?_
              refine Pl.weak (Pl.cI hM rfl rfl (by decide) (Mj := M_7) rfl rfl (fun w6 σ5 hw => ?_))
              replace h := h w6 σ5 hw
              refine Pl.seg (pc' := 59) (ls' := [(0, .ref 0), (1, .int x1), (2, .int x2), (3, .int x3)]) (st' := [.int w6]) (σ' := σ5) hM 1 rfl ?_
              refine Pl.weak (Pl.ret hM rfl rfl h)
          · replace h := h.2 c
            exact Pl.live (l' := []) hM lv_170 ⟨show ndL _ from (by decide : List.Nodup ([0, 1, 2, 3] : List Nat)), show ndL _ from (by decide : List.Nodup ([] : List Nat)), by rw [lva_170_32]; exact fun _ h => absurd h List.not_mem_nil⟩ h
set_option maxRecDepth 100000 in
theorem p_170_32 {n d : Nat} {Q : Option Value → Sg → Prop} (σ : Sg) (h : Q (some (.int (-1 : Int32))) σ) : Pl PRG (n + 1) d 170 32 [] [] σ Q := by
  have hM : PRG[170]? = some M_170 := rfl
  refine Pl.sg1 (pc' := 33) (ls' := []) (st' := [.int (-1 : Int32)]) (σ' := σ) hM 0 rfl ?_
  refine Pl.weak (Pl.ret hM rfl rfl h)
def LV_171 : List (Nat × List Nat) := [(0, [0, 1, 2]), (1, [0, 1, 2]), (2, [0, 1, 2]), (5, [0, 1, 2]), (8, [0, 1, 2]), (9, [0, 1, 2]), (12, [0, 1, 2]), (13, [0, 1, 2]), (14, [0, 1, 2]), (17, []), (18, []), (19, [0, 1, 2]), (20, [0, 1]), (23, [0, 1]), (24, [1]), (27, [1]), (28, []), (31, []), (34, [0, 1]), (35, [1]), (38, [1]), (39, []), (42, [])]
set_option maxRecDepth 100000 in
theorem lv_171 : chkLv M_171 LV_171 = true := by decide +kernel
set_option maxRecDepth 100000 in
theorem lva_171_17 : lvA LV_171 17 = [] := by decide +kernel
set_option maxRecDepth 100000 in
theorem p_171_0 {n d : Nat} {Q : Option Value → Sg → Prop} (σ : Sg) (x1 x2 : Int32) (h : (∀ w2 σ1, RCx PRG n 169 [.ref 0, .int x1] σ (some (.int w2)) σ1 → (w2 = 0 ∨ w2 = 1) → ((w2 = 0 → Pl PRG n d 171 17 [] [] σ1 Q) ∧ (¬ w2 = 0 → ((x2 < 0 → Pl PRG n d 171 17 [] [] σ1 Q) ∧ (¬ x2 < 0 → ((x2 ≤ (1 : Int32) → ((x2 = 0 → (∀ w6 σ5, RCx PRG n 87 [.ref 96, .int x1] σ1 (some (.int w6)) σ5 → Q (some (.int w6)) σ5)) ∧ (¬ x2 = 0 → (∀ w4 σ3, RCx PRG n 88 [.ref 96, .int x1] σ1 (some (.int w4)) σ3 → Q (some (.int w4)) σ3)))) ∧ (¬ x2 ≤ (1 : Int32) → Pl PRG n d 171 17 [] [] σ1 Q)))))))) : Pl PRG (n + 1) d 171 0 [(0, .ref 0), (1, .int x1), (2, .int x2)] [] σ Q := by
  have hM : PRG[171]? = some M_171 := rfl
  refine Pl.sg1 (pc' := 2) (ls' := [(0, .ref 0), (1, .int x1), (2, .int x2)]) (st' := [.int x1, .ref 0]) (σ' := σ) hM 1 rfl ?_
  refine Pl.weak (Pl.cZ hM rfl rfl (by decide) (Mj := M_169) rfl rfl (fun w2 σ1 hw hz => ?_))
  replace h := h w2 σ1 hw hz
  refine Pl.br (c := w2 = 0) (a := 17) (b := 8) (ls' := [(0, .ref 0), (1, .int x1), (2, .int x2)]) (st' := []) (σ' := σ1) hM 1 rfl (fun c => ?_) (fun c => ?_)
  · replace h := h.1 c
    exact Pl.live (l' := []) hM lv_171 ⟨show ndL _ from (by decide : List.Nodup ([0, 1, 2] : List Nat)), show ndL _ from (by decide : List.Nodup ([] : List Nat)), by rw [lva_171_17]; exact fun _ h => absurd h List.not_mem_nil⟩ h
  · replace h := h.2 c
    refine Pl.br (c := x2 < 0) (a := 17) (b := 12) (ls' := [(0, .ref 0), (1, .int x1), (2, .int x2)]) (st' := []) (σ' := σ1) hM 2 rfl (fun c => ?_) (fun c => ?_)
    · replace h := h.1 c
      exact Pl.live (l' := []) hM lv_171 ⟨show ndL _ from (by decide : List.Nodup ([0, 1, 2] : List Nat)), show ndL _ from (by decide : List.Nodup ([] : List Nat)), by rw [lva_171_17]; exact fun _ h => absurd h List.not_mem_nil⟩ h
    · replace h := h.2 c
      refine Pl.br (c := x2 ≤ (1 : Int32)) (a := 19) (b := 17) (ls' := [(0, .ref 0), (1, .int x1), (2, .int x2)]) (st' := []) (σ' := σ1) hM 3 rfl (fun c => ?_) (fun c => ?_)
      · replace h := h.1 c
        refine Pl.brN (c := x2 = 0) (a := 34) (b := 23) (ls' := [(0, .ref 0), (1, .int x1), (2, .int x2)]) (st' := []) (σ' := σ1) hM 2 rfl (fun c => ?_) (fun c => ?_)
        · replace h := h.2 c
          refine Pl.seg (pc' := 39) (ls' := [(0, .ref 0), (1, .int x1), (2, .int x2)]) (st' := [.int x1, .ref 96]) (σ' := σ1) hM 3 rfl ?_
          refine Pl.weak (Pl.cI hM rfl rfl (by decide) (Mj := M_88) rfl rfl (fun w4 σ3 hw => ?_))
          replace h := h w4 σ3 hw
          refine Pl.weak (Pl.ret hM rfl rfl h)
        · replace h := h.1 c
          refine Pl.seg (pc' := 28) (ls' := [(0, .ref 0), (1, .int x1), (2, .int x2)]) (st' := [.int x1, .ref 96]) (σ' := σ1) hM 3 rfl ?_
          refine Pl.weak (Pl.cI hM rfl rfl (by decide) (Mj := M_87) rfl rfl (fun w6 σ5 hw => ?_))
          replace h := h w6 σ5 hw
          refine Pl.seg (pc' := 42) (ls' := [(0, .ref 0), (1, .int x1), (2, .int x2)]) (st' := [.int w6]) (σ' := σ5) hM 1 rfl ?_
          refine Pl.weak (Pl.ret hM rfl rfl h)
      · replace h := h.2 c
        exact Pl.live (l' := []) hM lv_171 ⟨show ndL _ from (by decide : List.Nodup ([0, 1, 2] : List Nat)), show ndL _ from (by decide : List.Nodup ([] : List Nat)), by rw [lva_171_17]; exact fun _ h => absurd h List.not_mem_nil⟩ h
set_option maxRecDepth 100000 in
theorem p_171_17 {n d : Nat} {Q : Option Value → Sg → Prop} (σ : Sg) (h : Q (some (.int (-1 : Int32))) σ) : Pl PRG (n + 1) d 171 17 [] [] σ Q := by
  have hM : PRG[171]? = some M_171 := rfl
  refine Pl.sg1 (pc' := 18) (ls' := []) (st' := [.int (-1 : Int32)]) (σ' := σ) hM 0 rfl ?_
  refine Pl.weak (Pl.ret hM rfl rfl h)
def LV_172 : List (Nat × List Nat) := [(0, [0, 1, 2]), (1, [0, 1, 2]), (2, [0, 1, 2]), (5, [0, 1, 2]), (8, [0, 1, 2]), (9, [0, 1, 2]), (10, [0, 1, 2]), (13, [0, 1, 2]), (16, [0, 1, 2]), (17, [0, 1, 2]), (18, [0, 1, 2]), (21, []), (22, []), (23, [0, 1, 2]), (24, [1, 2]), (27, [1, 2]), (28, [2]), (29, []), (32, [])]
set_option maxRecDepth 100000 in
theorem lv_172 : chkLv M_172 LV_172 = true := by decide +kernel
set_option maxRecDepth 100000 in
theorem lva_172_21 : lvA LV_172 21 = [] := by decide +kernel
set_option maxRecDepth 100000 in
theorem p_172_0 {n d : Nat} {Q : Option Value → Sg → Prop} (σ : Sg) (x1 x2 : Int32) (h : (∀ w2 σ1, RCx PRG n 169 [.ref 0, .int x1] σ (some (.int w2)) σ1 → (w2 = 0 ∨ w2 = 1) → ((w2 = 0 → Pl PRG n d 172 21 [] [] σ1 Q) ∧ (¬ w2 = 0 → (∀ w4 σ3, RCx PRG n 169 [.ref 0, .int x2] σ1 (some (.int w4)) σ3 → (w4 = 0 ∨ w4 = 1) → ((w4 = 0 → Pl PRG n d 172 21 [] [] σ3 Q) ∧ (¬ w4 = 0 → ((x1 = x2 → Pl PRG n d 172 21 [] [] σ3 Q) ∧ (¬ x1 = x2 → (∀ w6 σ5, RCx PRG n 89 [.ref 96, .int x1, .int x2] σ3 (some (.int w6)) σ5 → Q (some (.int w6)) σ5)))))))))) : Pl PRG (n + 1) d 172 0 [(0, .ref 0), (1, .int x1), (2, .int x2)] [] σ Q := by
  have hM : PRG[172]? = some M_172 := rfl
  refine Pl.sg1 (pc' := 2) (ls' := [(0, .ref 0), (1, .int x1), (2, .int x2)]) (st' := [.int x1, .ref 0]) (σ' := σ) hM 1 rfl ?_
  refine Pl.weak (Pl.cZ hM rfl rfl (by decide) (Mj := M_169) rfl rfl (fun w2 σ1 hw hz => ?_))
  replace h := h w2 σ1 hw hz
  refine Pl.br (c := w2 = 0) (a := 21) (b := 8) (ls' := [(0, .ref 0), (1, .int x1), (2, .int x2)]) (st' := []) (σ' := σ1) hM 1 rfl (fun c => ?_) (fun c => ?_)
  · replace h := h.1 c
    exact Pl.live (l' := []) hM lv_172 ⟨show ndL _ from (by decide : List.Nodup ([0, 1, 2] : List Nat)), show ndL _ from (by decide : List.Nodup ([] : List Nat)), by rw [lva_172_21]; exact fun _ h => absurd h List.not_mem_nil⟩ h
  · replace h := h.2 c
    refine Pl.seg (pc' := 10) (ls' := [(0, .ref 0), (1, .int x1), (2, .int x2)]) (st' := [.int x2, .ref 0]) (σ' := σ1) hM 2 rfl ?_
    refine Pl.weak (Pl.cZ hM rfl rfl (by decide) (Mj := M_169) rfl rfl (fun w4 σ3 hw hz => ?_))
    replace h := h w4 σ3 hw hz
    refine Pl.br (c := w4 = 0) (a := 21) (b := 16) (ls' := [(0, .ref 0), (1, .int x1), (2, .int x2)]) (st' := []) (σ' := σ3) hM 1 rfl (fun c => ?_) (fun c => ?_)
    · replace h := h.1 c
      exact Pl.live (l' := []) hM lv_172 ⟨show ndL _ from (by decide : List.Nodup ([0, 1, 2] : List Nat)), show ndL _ from (by decide : List.Nodup ([] : List Nat)), by rw [lva_172_21]; exact fun _ h => absurd h List.not_mem_nil⟩ h
    · replace h := h.2 c
      refine Pl.brN (c := x1 = x2) (a := 23) (b := 21) (ls' := [(0, .ref 0), (1, .int x1), (2, .int x2)]) (st' := []) (σ' := σ3) hM 3 rfl (fun c => ?_) (fun c => ?_)
      · replace h := h.2 c
        refine Pl.seg (pc' := 29) (ls' := [(0, .ref 0), (1, .int x1), (2, .int x2)]) (st' := [.int x2, .int x1, .ref 96]) (σ' := σ3) hM 4 rfl ?_
        refine Pl.weak (Pl.cI hM rfl rfl (by decide) (Mj := M_89) rfl rfl (fun w6 σ5 hw => ?_))
        replace h := h w6 σ5 hw
        refine Pl.weak (Pl.ret hM rfl rfl h)
      · replace h := h.1 c
        exact Pl.live (l' := []) hM lv_172 ⟨show ndL _ from (by decide : List.Nodup ([0, 1, 2] : List Nat)), show ndL _ from (by decide : List.Nodup ([] : List Nat)), by rw [lva_172_21]; exact fun _ h => absurd h List.not_mem_nil⟩ h
set_option maxRecDepth 100000 in
theorem p_172_21 {n d : Nat} {Q : Option Value → Sg → Prop} (σ : Sg) (h : Q (some (.int (-1 : Int32))) σ) : Pl PRG (n + 1) d 172 21 [] [] σ Q := by
  have hM : PRG[172]? = some M_172 := rfl
  refine Pl.sg1 (pc' := 22) (ls' := []) (st' := [.int (-1 : Int32)]) (σ' := σ) hM 0 rfl ?_
  refine Pl.weak (Pl.ret hM rfl rfl h)
set_option maxRecDepth 100000 in
theorem p_173_0 {n d : Nat} {Q : Option Value → Sg → Prop} (σ : Sg) (h : (∀ w2 σ1, RCx PRG n 90 [.ref 96] σ (some (.int w2)) σ1 → Q (some (.int w2)) σ1)) : Pl PRG (n + 1) d 173 0 [(0, .ref 0)] [] σ Q := by
  have hM : PRG[173]? = some M_173 := rfl
  refine Pl.sg1 (pc' := 4) (ls' := [(0, .ref 0)]) (st' := [.ref 96]) (σ' := σ) hM 1 rfl ?_
  refine Pl.weak (Pl.cI hM rfl rfl (by decide) (Mj := M_90) rfl rfl (fun w2 σ1 hw => ?_))
  replace h := h w2 σ1 hw
  refine Pl.weak (Pl.ret hM rfl rfl h)
set_option maxRecDepth 100000 in
theorem p_40_0 {n d : Nat} {Q : Option Value → Sg → Prop} (σ : Sg) (x1 : Int32) (h : (∀ w2 σ1, RCx PRG n 39 [.ref 22, .int x1] σ (some (.int w2)) σ1 → (inR ((σ1.1 22 6) &&& (3 : Int32)) 4 = true → (∀ σ3, RCx PRG n 11 [.ref 12, .int (σ1.1 24 ((σ1.1 22 6) &&& (3 : Int32)).toNatClampNeg)] σ1 none σ3 → (∀ w5 σ4, RCx PRG n 13 [.ref 12, .int w2] σ3 (some (.int w5)) σ4 → Q (some (.int w5)) σ4))))) : Pl PRG (n + 1) d 40 0 [(0, .ref 22), (1, .int x1)] [] σ Q := by
  have hM : PRG[40]? = some M_40 := rfl
  refine Pl.sg1 (pc' := 2) (ls' := [(0, .ref 22), (1, .int x1)]) (st' := [.int x1, .ref 22]) (σ' := σ) hM 1 rfl ?_
  refine Pl.weak (Pl.cI hM rfl rfl (by decide) (Mj := M_39) rfl rfl (fun w2 σ1 hw => ?_))
  replace h := h w2 σ1 hw
  refine Pl.seg (pc' := 20) (ls' := [(2, .int w2), (0, .ref 22), (1, .int x1)]) (st' := [.int ((σ1.1 22 6) &&& (3 : Int32)), .ref 24, .ref 12]) (σ' := σ1) hM 9 rfl ?_
  refine Pl.weak (Pl.iald hM rfl rfl (fun hi => ?_))
  replace h := h hi
  refine Pl.weak (Pl.cV hM rfl rfl (by decide) (Mj := M_11) rfl rfl (fun σ3 hw => ?_))
  replace h := h σ3 hw
  refine Pl.seg (pc' := 29) (ls' := [(2, .int w2), (0, .ref 22), (1, .int x1)]) (st' := [.int w2, .ref 12]) (σ' := σ3) hM 3 rfl ?_
  refine Pl.weak (Pl.cI hM rfl rfl (by decide) (Mj := M_13) rfl rfl (fun w5 σ4 hw => ?_))
  replace h := h w5 σ4 hw
  refine Pl.weak (Pl.ret hM rfl rfl h)
