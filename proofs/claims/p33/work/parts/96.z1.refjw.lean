/-! what a run that ends has done: customs and openings, the reference -/
def LV_206 : List (Nat × List Nat) := [(0, [0, 1, 2]), (1, [0, 1, 2]), (2, [0, 1, 2, 3]), (3, [0, 1, 2, 3]), (4, [0, 1, 2, 3]), (7, [0, 1, 2, 3]), (8, [0, 2, 3]), (10, [0, 2, 3, 4]), (12, [0, 2, 3, 4]), (13, [0, 2, 3, 4]), (16, [0, 2, 3, 4]), (17, [0, 2, 3, 4]), (20, [0, 2, 3, 4]), (22, [0, 2, 3, 4]), (23, [0, 2, 3, 4]), (25, [0, 2, 3, 4, 5]), (27, [0, 2, 3, 4, 5]), (28, [0, 2, 3, 4, 5]), (31, [0, 2, 3, 4, 5]), (32, [0, 2, 3, 4, 5]), (35, [0, 2, 3, 4, 5]), (36, [0, 2, 3, 4, 5]), (38, [0, 2, 3, 4]), (41, [0, 2, 3, 4]), (42, [0, 2, 3, 4]), (45, [0, 2, 3, 4]), (47, [0, 2, 3, 4]), (48, [0, 2, 3, 4]), (51, [0, 2, 3, 4]), (52, [0, 2, 3, 4]), (55, [0, 2, 3, 4]), (56, [0, 2, 3, 4]), (59, [0, 2, 3, 4]), (61, [0, 2, 3, 4]), (62, [0, 2, 3, 4]), (63, [0, 2, 3, 4]), (64, [0, 2, 3, 4]), (67, [0, 2, 3, 4]), (70, [0, 2, 3, 4, 5]), (73, [0, 2, 3, 4, 5]), (74, [0, 2, 3, 4, 5]), (77, [0, 2, 3, 4, 5]), (78, [0, 2, 3, 4, 5]), (79, [0, 2, 3, 4, 5]), (80, [0, 2, 3, 4, 5]), (81, [0, 2, 3, 4, 5]), (83, [0, 2, 3, 4, 5, 6]), (84, [0, 2, 3, 4, 5, 6]), (87, [0, 2, 3, 4, 5, 6]), (88, [0, 2, 3, 4, 5, 6]), (89, [0, 2, 3, 4, 5, 6]), (91, [0, 2, 3, 4, 5, 6, 7]), (93, [0, 2, 3, 4, 5, 6, 7]), (94, [0, 2, 3, 4, 5, 6, 7]), (97, [0, 2, 3, 4, 5, 6, 7]), (99, [0, 2, 3, 4, 5, 6, 7]), (102, [0]), (103, []), (104, []), (107, []), (108, []), (109, [0, 2, 3, 4, 5, 6, 7]), (110, [0, 2, 3, 4, 5, 6, 7]), (113, [0, 2, 3, 4, 5, 6, 7]), (114, [0, 2, 3, 4, 5, 6, 7]), (115, [0, 2, 3, 4, 5, 6, 7]), (116, [0, 2, 3, 4, 5, 6, 7]), (118, [0, 2, 3, 4, 5, 6, 7]), (119, [0, 2, 3, 4, 5, 6, 7]), (122, [0, 2, 3, 4, 6, 7]), (124, [0, 2, 3, 4, 7]), (126, [0, 2, 3, 4]), (127, [0, 2, 3, 4]), (130, [0, 2, 3, 4, 5, 6, 7]), (132, [0, 2, 3, 4, 5, 6, 7]), (133, [0, 2, 3, 4, 5, 6, 7]), (136, [0, 2, 3, 4, 6, 7]), (138, [0, 2, 3, 4, 7]), (140, [0, 2, 3, 4]), (141, [0, 2, 3, 4]), (144, [0, 2, 3, 4, 5, 6, 7]), (146, [0, 2, 3, 4, 6, 7]), (147, [0, 2, 3, 4, 6, 7]), (150, [0, 2, 3, 4, 6, 7]), (152, [0, 2, 3, 4, 7]), (154, [0, 2, 3, 4]), (155, [0, 2, 3, 4]), (158, [0, 2, 3, 4, 6, 7]), (160, [0, 2, 3, 4, 7]), (162, [0, 2, 3, 4]), (163, [0, 2, 3, 4]), (164, [0, 2, 3, 4]), (167, [0, 2, 3, 4]), (170, [0]), (171, []), (174, []), (175, []), (176, [])]
set_option maxRecDepth 100000 in
theorem lv_206 : chkLv M_206 LV_206 = true := by decide +kernel
set_option maxRecDepth 100000 in
theorem lva_206_10 : lvA LV_206 10 = [0, 2, 3, 4] := by decide +kernel
set_option maxRecDepth 100000 in
theorem lva_206_109 : lvA LV_206 109 = [0, 2, 3, 4, 5, 6, 7] := by decide +kernel
set_option maxRecDepth 100000 in
theorem lva_206_164 : lvA LV_206 164 = [0, 2, 3, 4] := by decide +kernel
set_option maxRecDepth 100000 in
theorem p_206_0 {n d : Nat} {Q : Option Value → Sg → Prop} (σ : Sg) (x1 x2 : Int32) (h : Pl PRG n d 206 10 [(0, .ref 97), (2, .int x2), (3, .int (0 : Int32)), (4, .int x1)] [] (s1 σ 97 44 (0 : Int32)) Q) : Pl PRG (n + 1) d 206 0 [(0, .ref 97), (1, .int x1), (2, .int x2)] [] σ Q := by
  have hM : PRG[206]? = some M_206 := rfl
  refine Pl.sg1 (pc' := 10) (ls' := [(4, .int x1), (3, .int (0 : Int32)), (0, .ref 97), (1, .int x1), (2, .int x2)]) (st' := []) (σ' := (s1 σ 97 44 (0 : Int32))) hM 6 rfl ?_
  exact Pl.live (l' := [(0, .ref 97), (2, .int x2), (3, .int (0 : Int32)), (4, .int x1)]) hM lv_206 ⟨show ndL _ from (by decide : List.Nodup ([4, 3, 0, 1, 2] : List Nat)), show ndL _ from (by decide : List.Nodup ([0, 2, 3, 4] : List Nat)), by rw [lva_206_10]; exact List.forall_mem_cons.mpr ⟨rfl, List.forall_mem_cons.mpr ⟨rfl, List.forall_mem_cons.mpr ⟨rfl, List.forall_mem_cons.mpr ⟨rfl, fun _ h => absurd h List.not_mem_nil⟩⟩⟩⟩⟩ h
set_option maxRecDepth 100000 in
theorem p_206_10 {n d : Nat} {Q : Option Value → Sg → Prop} (σ : Sg) (x2 x3 x4 : Int32) (h : ((x2 ≤ x4 → Q (some (.int (σ.1 124 0))) σ) ∧ (¬ x2 ≤ x4 → (inR x4 840 = true → (((2 : Int32) ≤ (σ.1 120 x4.toNatClampNeg) → (inR ((x3 + (-1 : Int32)) - (1 : Int32)) 400 = true → (inR (x3 + (-1 : Int32)) 400 = true → (((σ.1 120 x4.toNatClampNeg) = (5 : Int32) → (((σ.1 124 (x3 + (-1 : Int32)).toNatClampNeg) = 0 → Q (some (.int (0 : Int32))) (s1 σ 97 44 (1 : Int32))) ∧ (¬ (σ.1 124 (x3 + (-1 : Int32)).toNatClampNeg) = 0 → Pl PRG n d 206 109 [(0, .ref 97), (2, .int x2), (3, .int (x3 + (-1 : Int32))), (4, .int x4), (5, .int (σ.1 120 x4.toNatClampNeg)), (6, .int (σ.1 124 ((x3 + (-1 : Int32)) - (1 : Int32)).toNatClampNeg)), (7, .int (σ.1 124 (x3 + (-1 : Int32)).toNatClampNeg))] [] σ Q))) ∧ (¬ (σ.1 120 x4.toNatClampNeg) = (5 : Int32) → Pl PRG n d 206 109 [(0, .ref 97), (2, .int x2), (3, .int (x3 + (-1 : Int32))), (4, .int x4), (5, .int (σ.1 120 x4.toNatClampNeg)), (6, .int (σ.1 124 ((x3 + (-1 : Int32)) - (1 : Int32)).toNatClampNeg)), (7, .int (σ.1 124 (x3 + (-1 : Int32)).toNatClampNeg))] [] σ Q))))) ∧ (¬ (2 : Int32) ≤ (σ.1 120 x4.toNatClampNeg) → (((σ.1 120 x4.toNatClampNeg) = 0 → (inR x4 840 = true → (inR x3 400 = true → Pl PRG n d 206 164 [(0, .ref 97), (2, .int x2), (3, .int (x3 + (1 : Int32))), (4, .int x4)] [] (s1 σ 124 x3.toNatClampNeg (σ.1 121 x4.toNatClampNeg)) Q))) ∧ (¬ (σ.1 120 x4.toNatClampNeg) = 0 → (inR x4 840 = true → (inR (σ.1 121 x4.toNatClampNeg) 14 = true → (inR x3 400 = true → Pl PRG n d 206 164 [(0, .ref 97), (2, .int x2), (3, .int (x3 + (1 : Int32))), (4, .int x4)] [] (s1 σ 124 x3.toNatClampNeg (σ.1 123 (σ.1 121 x4.toNatClampNeg).toNatClampNeg)) Q))))))))))) : Pl PRG (n + 1) d 206 10 [(0, .ref 97), (2, .int x2), (3, .int x3), (4, .int x4)] [] σ Q := by
  have hM : PRG[206]? = some M_206 := rfl
  refine Pl.br1 (c := x2 ≤ x4) (a := 170) (b := 16) (ls' := [(0, .ref 97), (2, .int x2), (3, .int x3), (4, .int x4)]) (st' := []) (σ' := σ) hM 2 rfl (fun c => ?_) (fun c => ?_)
  · replace h := h.1 c
    refine Pl.seg (pc' := 176) (ls' := [(0, .ref 97), (2, .int x2), (3, .int x3), (4, .int x4)]) (st' := [.int (σ.1 124 0)]) (σ' := σ) hM 4 rfl ?_
    refine Pl.weak (Pl.ret hM rfl rfl h)
  · replace h := h.2 c
    refine Pl.seg (pc' := 22) (ls' := [(0, .ref 97), (2, .int x2), (3, .int x3), (4, .int x4)]) (st' := [.int x4, .ref 120]) (σ' := σ) hM 3 rfl ?_
    refine Pl.weak (Pl.iald hM rfl rfl (fun hi => ?_))
    replace h := h hi
    refine Pl.br (c := (2 : Int32) ≤ (σ.1 120 x4.toNatClampNeg)) (a := 70) (b := 31) (ls' := [(5, .int (σ.1 120 x4.toNatClampNeg)), (0, .ref 97), (2, .int x2), (3, .int x3), (4, .int x4)]) (st' := []) (σ' := σ) hM 4 rfl (fun c => ?_) (fun c => ?_)
    · replace h := h.1 c
      refine Pl.seg (pc' := 80) (ls' := [(3, .int (x3 + (-1 : Int32))), (5, .int (σ.1 120 x4.toNatClampNeg)), (0, .ref 97), (2, .int x2), (4, .int x4)]) (st' := [.int ((x3 + (-1 : Int32)) - (1 : Int32)), .ref 124]) (σ' := σ) hM 6 rfl ?_
      refine Pl.weak (Pl.iald hM rfl rfl (fun hi => ?_))
      replace h := h hi
      refine Pl.seg (pc' := 88) (ls' := [(6, .int (σ.1 124 ((x3 + (-1 : Int32)) - (1 : Int32)).toNatClampNeg)), (3, .int (x3 + (-1 : Int32))), (5, .int (σ.1 120 x4.toNatClampNeg)), (0, .ref 97), (2, .int x2), (4, .int x4)]) (st' := [.int (x3 + (-1 : Int32)), .ref 124]) (σ' := σ) hM 4 rfl ?_
      refine Pl.weak (Pl.iald hM rfl rfl (fun hi => ?_))
      replace h := h hi
      refine Pl.brN (c := (σ.1 120 x4.toNatClampNeg) = (5 : Int32)) (a := 109) (b := 97) (ls' := [(7, .int (σ.1 124 (x3 + (-1 : Int32)).toNatClampNeg)), (6, .int (σ.1 124 ((x3 + (-1 : Int32)) - (1 : Int32)).toNatClampNeg)), (3, .int (x3 + (-1 : Int32))), (5, .int (σ.1 120 x4.toNatClampNeg)), (0, .ref 97), (2, .int x2), (4, .int x4)]) (st' := []) (σ' := σ) hM 4 rfl (fun c => ?_) (fun c => ?_)
      · replace h := h.2 c
        exact Pl.live (l' := [(0, .ref 97), (2, .int x2), (3, .int (x3 + (-1 : Int32))), (4, .int x4), (5, .int (σ.1 120 x4.toNatClampNeg)), (6, .int (σ.1 124 ((x3 + (-1 : Int32)) - (1 : Int32)).toNatClampNeg)), (7, .int (σ.1 124 (x3 + (-1 : Int32)).toNatClampNeg))]) hM lv_206 ⟨show ndL _ from (by decide : List.Nodup ([7, 6, 3, 5, 0, 2, 4] : List Nat)), show ndL _ from (by decide : List.Nodup ([0, 2, 3, 4, 5, 6, 7] : List Nat)), by rw [lva_206_109]; exact List.forall_mem_cons.mpr ⟨rfl, List.forall_mem_cons.mpr ⟨rfl, List.forall_mem_cons.mpr ⟨rfl, List.forall_mem_cons.mpr ⟨rfl, List.forall_mem_cons.mpr ⟨rfl, List.forall_mem_cons.mpr ⟨rfl, List.forall_mem_cons.mpr ⟨rfl, fun _ h => absurd h List.not_mem_nil⟩⟩⟩⟩⟩⟩⟩⟩ h
      · replace h := h.1 c
        refine Pl.brN (c := (σ.1 124 (x3 + (-1 : Int32)).toNatClampNeg) = 0) (a := 109) (b := 102) (ls' := [(7, .int (σ.1 124 (x3 + (-1 : Int32)).toNatClampNeg)), (6, .int (σ.1 124 ((x3 + (-1 : Int32)) - (1 : Int32)).toNatClampNeg)), (3, .int (x3 + (-1 : Int32))), (5, .int (σ.1 120 x4.toNatClampNeg)), (0, .ref 97), (2, .int x2), (4, .int x4)]) (st' := []) (σ' := σ) hM 2 rfl (fun c => ?_) (fun c => ?_)
        · replace h := h.2 c
          exact Pl.live (l' := [(0, .ref 97), (2, .int x2), (3, .int (x3 + (-1 : Int32))), (4, .int x4), (5, .int (σ.1 120 x4.toNatClampNeg)), (6, .int (σ.1 124 ((x3 + (-1 : Int32)) - (1 : Int32)).toNatClampNeg)), (7, .int (σ.1 124 (x3 + (-1 : Int32)).toNatClampNeg))]) hM lv_206 ⟨show ndL _ from (by decide : List.Nodup ([7, 6, 3, 5, 0, 2, 4] : List Nat)), show ndL _ from (by decide : List.Nodup ([0, 2, 3, 4, 5, 6, 7] : List Nat)), by rw [lva_206_109]; exact List.forall_mem_cons.mpr ⟨rfl, List.forall_mem_cons.mpr ⟨rfl, List.forall_mem_cons.mpr ⟨rfl, List.forall_mem_cons.mpr ⟨rfl, List.forall_mem_cons.mpr ⟨rfl, List.forall_mem_cons.mpr ⟨rfl, List.forall_mem_cons.mpr ⟨rfl, fun _ h => absurd h List.not_mem_nil⟩⟩⟩⟩⟩⟩⟩⟩ h
        · replace h := h.1 c
          refine Pl.seg (pc' := 108) (ls' := [(7, .int (σ.1 124 (x3 + (-1 : Int32)).toNatClampNeg)), (6, .int (σ.1 124 ((x3 + (-1 : Int32)) - (1 : Int32)).toNatClampNeg)), (3, .int (x3 + (-1 : Int32))), (5, .int (σ.1 120 x4.toNatClampNeg)), (0, .ref 97), (2, .int x2), (4, .int x4)]) (st' := [.int (0 : Int32)]) (σ' := (s1 σ 97 44 (1 : Int32))) hM 4 rfl ?_
          refine Pl.weak (Pl.ret hM rfl rfl h)
    · replace h := h.2 c
      refine Pl.brN (c := (σ.1 120 x4.toNatClampNeg) = 0) (a := 51) (b := 41) (ls' := [(5, .int (σ.1 120 x4.toNatClampNeg)), (0, .ref 97), (2, .int x2), (3, .int x3), (4, .int x4)]) (st' := [.int x3, .ref 124]) (σ' := σ) hM 5 rfl (fun c => ?_) (fun c => ?_)
      · replace h := h.2 c
        refine Pl.seg (pc' := 61) (ls' := [(5, .int (σ.1 120 x4.toNatClampNeg)), (0, .ref 97), (2, .int x2), (3, .int x3), (4, .int x4)]) (st' := [.int x4, .ref 121, .ref 123, .int x3, .ref 124]) (σ' := σ) hM 5 rfl ?_
        refine Pl.weak (Pl.iald hM rfl rfl (fun hi => ?_))
        replace h := h hi
        refine Pl.weak (Pl.iald hM rfl rfl (fun hi => ?_))
        replace h := h hi
        refine Pl.weak (Pl.iast hM rfl rfl (fun hi => ?_))
        replace h := h hi
        refine Pl.seg (pc' := 164) (ls' := [(3, .int (x3 + (1 : Int32))), (5, .int (σ.1 120 x4.toNatClampNeg)), (0, .ref 97), (2, .int x2), (4, .int x4)]) (st' := []) (σ' := (s1 σ 124 x3.toNatClampNeg (σ.1 123 (σ.1 121 x4.toNatClampNeg).toNatClampNeg))) hM 2 rfl ?_
        exact Pl.live (l' := [(0, .ref 97), (2, .int x2), (3, .int (x3 + (1 : Int32))), (4, .int x4)]) hM lv_206 ⟨show ndL _ from (by decide : List.Nodup ([3, 5, 0, 2, 4] : List Nat)), show ndL _ from (by decide : List.Nodup ([0, 2, 3, 4] : List Nat)), by rw [lva_206_164]; exact List.forall_mem_cons.mpr ⟨rfl, List.forall_mem_cons.mpr ⟨rfl, List.forall_mem_cons.mpr ⟨rfl, List.forall_mem_cons.mpr ⟨rfl, fun _ h => absurd h List.not_mem_nil⟩⟩⟩⟩⟩ h
      · replace h := h.1 c
        refine Pl.seg (pc' := 47) (ls' := [(5, .int (σ.1 120 x4.toNatClampNeg)), (0, .ref 97), (2, .int x2), (3, .int x3), (4, .int x4)]) (st' := [.int x4, .ref 121, .int x3, .ref 124]) (σ' := σ) hM 3 rfl ?_
        refine Pl.weak (Pl.iald hM rfl rfl (fun hi => ?_))
        replace h := h hi
        refine Pl.seg (pc' := 63) (ls' := [(5, .int (σ.1 120 x4.toNatClampNeg)), (0, .ref 97), (2, .int x2), (3, .int x3), (4, .int x4)]) (st' := [.int (σ.1 121 x4.toNatClampNeg), .int x3, .ref 124]) (σ' := σ) hM 1 rfl ?_
        refine Pl.weak (Pl.iast hM rfl rfl (fun hi => ?_))
        replace h := h hi
        refine Pl.seg (pc' := 164) (ls' := [(3, .int (x3 + (1 : Int32))), (5, .int (σ.1 120 x4.toNatClampNeg)), (0, .ref 97), (2, .int x2), (4, .int x4)]) (st' := []) (σ' := (s1 σ 124 x3.toNatClampNeg (σ.1 121 x4.toNatClampNeg))) hM 2 rfl ?_
        exact Pl.live (l' := [(0, .ref 97), (2, .int x2), (3, .int (x3 + (1 : Int32))), (4, .int x4)]) hM lv_206 ⟨show ndL _ from (by decide : List.Nodup ([3, 5, 0, 2, 4] : List Nat)), show ndL _ from (by decide : List.Nodup ([0, 2, 3, 4] : List Nat)), by rw [lva_206_164]; exact List.forall_mem_cons.mpr ⟨rfl, List.forall_mem_cons.mpr ⟨rfl, List.forall_mem_cons.mpr ⟨rfl, List.forall_mem_cons.mpr ⟨rfl, fun _ h => absurd h List.not_mem_nil⟩⟩⟩⟩⟩ h
set_option maxRecDepth 100000 in
theorem p_206_109 {n d : Nat} {Q : Option Value → Sg → Prop} (σ : Sg) (x2 x3 x4 x5 x6 x7 : Int32) (h : ((x5 = (2 : Int32) → (inR (x3 - (1 : Int32)) 400 = true → Pl PRG n d 206 164 [(0, .ref 97), (2, .int x2), (3, .int x3), (4, .int x4)] [] (s1 σ 124 (x3 - (1 : Int32)).toNatClampNeg (x6 + x7)) Q)) ∧ (¬ x5 = (2 : Int32) → ((x5 = (3 : Int32) → (inR (x3 - (1 : Int32)) 400 = true → Pl PRG n d 206 164 [(0, .ref 97), (2, .int x2), (3, .int x3), (4, .int x4)] [] (s1 σ 124 (x3 - (1 : Int32)).toNatClampNeg (x6 - x7)) Q)) ∧ (¬ x5 = (3 : Int32) → ((x5 = (4 : Int32) → (inR (x3 - (1 : Int32)) 400 = true → Pl PRG n d 206 164 [(0, .ref 97), (2, .int x2), (3, .int x3), (4, .int x4)] [] (s1 σ 124 (x3 - (1 : Int32)).toNatClampNeg (x6 * x7)) Q)) ∧ (¬ x5 = (4 : Int32) → (¬ x7 = 0 → (inR (x3 - (1 : Int32)) 400 = true → Pl PRG n d 206 164 [(0, .ref 97), (2, .int x2), (3, .int x3), (4, .int x4)] [] (s1 σ 124 (x3 - (1 : Int32)).toNatClampNeg (x6 / x7)) Q))))))))) : Pl PRG (n + 1) d 206 109 [(0, .ref 97), (2, .int x2), (3, .int x3), (4, .int x4), (5, .int x5), (6, .int x6), (7, .int x7)] [] σ Q := by
  have hM : PRG[206]? = some M_206 := rfl
  refine Pl.brN1 (c := x5 = (2 : Int32)) (a := 130) (b := 122) (ls' := [(0, .ref 97), (2, .int x2), (3, .int x3), (4, .int x4), (5, .int x5), (6, .int x6), (7, .int x7)]) (st' := [.int (x3 - (1 : Int32)), .ref 124]) (σ' := σ) hM 7 rfl (fun c => ?_) (fun c => ?_)
  · replace h := h.2 c
    refine Pl.brN (c := x5 = (3 : Int32)) (a := 144) (b := 136) (ls' := [(0, .ref 97), (2, .int x2), (3, .int x3), (4, .int x4), (5, .int x5), (6, .int x6), (7, .int x7)]) (st' := [.int (x3 - (1 : Int32)), .ref 124]) (σ' := σ) hM 3 rfl (fun c => ?_) (fun c => ?_)
    · replace h := h.2 c
      refine Pl.brN (c := x5 = (4 : Int32)) (a := 158) (b := 150) (ls' := [(0, .ref 97), (2, .int x2), (3, .int x3), (4, .int x4), (5, .int x5), (6, .int x6), (7, .int x7)]) (st' := [.int (x3 - (1 : Int32)), .ref 124]) (σ' := σ) hM 3 rfl (fun c => ?_) (fun c => ?_)
      · replace h := h.2 c
        refine Pl.seg (pc' := 162) (ls' := [(0, .ref 97), (2, .int x2), (3, .int x3), (4, .int x4), (5, .int x5), (6, .int x6), (7, .int x7)]) (st' := [.int x7, .int x6, .int (x3 - (1 : Int32)), .ref 124]) (σ' := σ) hM 2 rfl ?_
        refine Pl.weak (Pl.dv hM rfl (fun hi => ?_))
        replace h := h hi
        refine Pl.weak (Pl.iast hM rfl rfl (fun hi => ?_))
        replace h := h hi
        exact Pl.live (l' := [(0, .ref 97), (2, .int x2), (3, .int x3), (4, .int x4)]) hM lv_206 ⟨show ndL _ from (by decide : List.Nodup ([0, 2, 3, 4, 5, 6, 7] : List Nat)), show ndL _ from (by decide : List.Nodup ([0, 2, 3, 4] : List Nat)), by rw [lva_206_164]; exact List.forall_mem_cons.mpr ⟨rfl, List.forall_mem_cons.mpr ⟨rfl, List.forall_mem_cons.mpr ⟨rfl, List.forall_mem_cons.mpr ⟨rfl, fun _ h => absurd h List.not_mem_nil⟩⟩⟩⟩⟩ h
      · replace h := h.1 c
        refine Pl.seg (pc' := 163) (ls' := [(0, .ref 97), (2, .int x2), (3, .int x3), (4, .int x4), (5, .int x5), (6, .int x6), (7, .int x7)]) (st' := [.int (x6 * x7), .int (x3 - (1 : Int32)), .ref 124]) (σ' := σ) hM 4 rfl ?_
        refine Pl.weak (Pl.iast hM rfl rfl (fun hi => ?_))
        replace h := h hi
        exact Pl.live (l' := [(0, .ref 97), (2, .int x2), (3, .int x3), (4, .int x4)]) hM lv_206 ⟨show ndL _ from (by decide : List.Nodup ([0, 2, 3, 4, 5, 6, 7] : List Nat)), show ndL _ from (by decide : List.Nodup ([0, 2, 3, 4] : List Nat)), by rw [lva_206_164]; exact List.forall_mem_cons.mpr ⟨rfl, List.forall_mem_cons.mpr ⟨rfl, List.forall_mem_cons.mpr ⟨rfl, List.forall_mem_cons.mpr ⟨rfl, fun _ h => absurd h List.not_mem_nil⟩⟩⟩⟩⟩ h
    · replace h := h.1 c
      refine Pl.seg (pc' := 163) (ls' := [(0, .ref 97), (2, .int x2), (3, .int x3), (4, .int x4), (5, .int x5), (6, .int x6), (7, .int x7)]) (st' := [.int (x6 - x7), .int (x3 - (1 : Int32)), .ref 124]) (σ' := σ) hM 4 rfl ?_
      refine Pl.weak (Pl.iast hM rfl rfl (fun hi => ?_))
      replace h := h hi
      exact Pl.live (l' := [(0, .ref 97), (2, .int x2), (3, .int x3), (4, .int x4)]) hM lv_206 ⟨show ndL _ from (by decide : List.Nodup ([0, 2, 3, 4, 5, 6, 7] : List Nat)), show ndL _ from (by decide : List.Nodup ([0, 2, 3, 4] : List Nat)), by rw [lva_206_164]; exact List.forall_mem_cons.mpr ⟨rfl, List.forall_mem_cons.mpr ⟨rfl, List.forall_mem_cons.mpr ⟨rfl, List.forall_mem_cons.mpr ⟨rfl, fun _ h => absurd h List.not_mem_nil⟩⟩⟩⟩⟩ h
  · replace h := h.1 c
    refine Pl.seg (pc' := 163) (ls' := [(0, .ref 97), (2, .int x2), (3, .int x3), (4, .int x4), (5, .int x5), (6, .int x6), (7, .int x7)]) (st' := [.int (x6 + x7), .int (x3 - (1 : Int32)), .ref 124]) (σ' := σ) hM 4 rfl ?_
    refine Pl.weak (Pl.iast hM rfl rfl (fun hi => ?_))
    replace h := h hi
    exact Pl.live (l' := [(0, .ref 97), (2, .int x2), (3, .int x3), (4, .int x4)]) hM lv_206 ⟨show ndL _ from (by decide : List.Nodup ([0, 2, 3, 4, 5, 6, 7] : List Nat)), show ndL _ from (by decide : List.Nodup ([0, 2, 3, 4] : List Nat)), by rw [lva_206_164]; exact List.forall_mem_cons.mpr ⟨rfl, List.forall_mem_cons.mpr ⟨rfl, List.forall_mem_cons.mpr ⟨rfl, List.forall_mem_cons.mpr ⟨rfl, fun _ h => absurd h List.not_mem_nil⟩⟩⟩⟩⟩ h
set_option maxRecDepth 100000 in
theorem p_206_164 {n d : Nat} {Q : Option Value → Sg → Prop} (σ : Sg) (x2 x3 x4 : Int32) (h : Pl PRG n d 206 10 [(0, .ref 97), (2, .int x2), (3, .int x3), (4, .int (x4 + (1 : Int32)))] [] σ Q) : Pl PRG (n + 1) d 206 164 [(0, .ref 97), (2, .int x2), (3, .int x3), (4, .int x4)] [] σ Q := by
  have hM : PRG[206]? = some M_206 := rfl
  refine Pl.sg1 (pc' := 10) (ls' := [(4, .int (x4 + (1 : Int32))), (0, .ref 97), (2, .int x2), (3, .int x3)]) (st' := []) (σ' := σ) hM 1 rfl ?_
  exact Pl.live (l' := [(0, .ref 97), (2, .int x2), (3, .int x3), (4, .int (x4 + (1 : Int32)))]) hM lv_206 ⟨show ndL _ from (by decide : List.Nodup ([4, 0, 2, 3] : List Nat)), show ndL _ from (by decide : List.Nodup ([0, 2, 3, 4] : List Nat)), by rw [lva_206_10]; exact List.forall_mem_cons.mpr ⟨rfl, List.forall_mem_cons.mpr ⟨rfl, List.forall_mem_cons.mpr ⟨rfl, List.forall_mem_cons.mpr ⟨rfl, fun _ h => absurd h List.not_mem_nil⟩⟩⟩⟩⟩ h
def LV_207 : List (Nat × List Nat) := [(0, [0, 1]), (1, [0, 1]), (2, [0, 1]), (5, [0, 1]), (6, [0, 1]), (7, [0, 1]), (8, [0, 1]), (11, [0, 1]), (12, [0, 1]), (13, [0, 1]), (16, [0, 1]), (17, [0, 1, 2]), (18, [0, 1, 2]), (21, [0, 1, 2]), (22, [0, 1, 2, 3]), (23, [0, 1, 2, 3]), (24, [0, 1, 2, 3]), (27, [0, 1, 2, 3]), (28, [0, 1, 2, 3]), (29, [0, 1, 2, 3]), (30, [0, 1, 2, 3]), (33, [0, 1, 2, 3]), (34, [0, 1, 2, 3]), (35, [0, 1, 2, 3]), (38, [0, 1, 2, 3]), (40, [0, 1, 2, 3, 4]), (41, [0, 1, 2, 4]), (44, [0, 1, 2, 4]), (45, [0, 1, 2, 4]), (48, [0, 1, 2, 4]), (51, [0, 1, 2, 4]), (52, [0, 1, 2, 4]), (55, [0, 1, 2, 4]), (56, [0, 1, 2, 4]), (57, [0, 1, 2, 3, 4]), (58, [0, 1, 2, 3, 4]), (61, [0, 1, 2, 3, 4]), (62, [0, 1, 2, 3, 4]), (63, [0, 1, 2, 3, 4]), (66, [0, 1, 2, 3, 4]), (67, [0, 1, 3, 4]), (69, [0, 1, 3]), (72, [0, 1, 3]), (73, [0, 1, 3]), (76, [0, 1, 3]), (77, [0, 1, 3]), (80, [0, 1, 2, 3, 4]), (81, [0, 1, 2, 3, 4]), (84, [0, 1, 2, 3, 4]), (85, [0, 1, 2, 3, 4]), (86, [0, 1, 2, 3, 4]), (87, [0, 1, 2, 3, 4]), (90, [0, 1, 2, 3, 4]), (91, [0, 1, 3, 4]), (93, [0, 1, 3]), (96, [0, 1, 3]), (97, [0, 1, 3]), (100, [0, 1, 3]), (101, [0, 1, 3]), (104, [0, 1, 2, 3, 4]), (105, [0, 1, 2, 3, 4]), (108, [0, 1, 2, 3, 4]), (109, [0, 1, 2, 3, 4]), (110, [0, 1, 2, 3, 4]), (111, [0, 1, 2, 3, 4]), (114, [0, 1, 2, 3, 4]), (115, [0, 1, 3, 4]), (117, [0, 1, 3]), (120, [0, 1, 3]), (121, [0, 1, 3]), (124, [0, 1, 3]), (125, [0, 1, 3]), (128, [0, 1, 2, 3, 4]), (129, [0, 1, 3, 4]), (131, [0, 1, 3]), (134, [0, 1, 3]), (135, [0, 1, 3]), (138, [0, 1, 3]), (139, [0, 1, 3]), (141, [0, 1, 3, 5]), (143, [0, 1, 3]), (146, [0, 1, 3]), (147, [0, 1]), (150, [0, 1]), (151, [0, 1]), (154, [0, 1]), (155, [0, 1]), (156, [1]), (159, [1]), (160, []), (161, []), (164, []), (165, []), (168, []), (169, [])]
set_option maxRecDepth 100000 in
theorem lv_207 : chkLv M_207 LV_207 = true := by decide +kernel
set_option maxRecDepth 100000 in
theorem lva_207_51 : lvA LV_207 51 = [0, 1, 2, 4] := by decide +kernel
set_option maxRecDepth 100000 in
theorem lva_207_154 : lvA LV_207 154 = [0, 1] := by decide +kernel
set_option maxRecDepth 100000 in
theorem p_207_0 {n d : Nat} {Q : Option Value → Sg → Prop} (σ : Sg) (x1 : Int32) (h : (inR x1 300 = true → (inR x1 300 = true → (∀ w2 σ1, RCx PRG n 206 [.ref 97, .int (σ.1 117 x1.toNatClampNeg), .int (σ.1 118 x1.toNatClampNeg)] σ (some (.int w2)) σ1 → (inR x1 300 = true → (inR x1 300 = true → (∀ w4 σ3, RCx PRG n 206 [.ref 97, .int (σ1.1 118 x1.toNatClampNeg), .int (σ1.1 119 x1.toNatClampNeg)] σ1 (some (.int w4)) σ3 → (((σ1.1 97 44) = 0 → (((σ3.1 97 44) = 0 → (inR x1 300 = true → (((σ3.1 114 x1.toNatClampNeg) = 0 → ((w2 = w4 → (inR x1 300 = true → (((1 : Int32) = (σ3.1 115 x1.toNatClampNeg) → Q (some (.int (0 : Int32))) σ3) ∧ (¬ (1 : Int32) = (σ3.1 115 x1.toNatClampNeg) → Q (some (.int (1 : Int32))) σ3)))) ∧ (¬ w2 = w4 → Pl PRG n d 207 154 [(0, .ref 97), (1, .int x1)] [] σ3 Q))) ∧ (¬ (σ3.1 114 x1.toNatClampNeg) = 0 → (inR x1 300 = true → (((σ3.1 114 x1.toNatClampNeg) = (1 : Int32) → ((w2 = w4 → Pl PRG n d 207 154 [(0, .ref 97), (1, .int x1)] [] σ3 Q) ∧ (¬ w2 = w4 → (inR x1 300 = true → (((1 : Int32) = (σ3.1 115 x1.toNatClampNeg) → Q (some (.int (0 : Int32))) σ3) ∧ (¬ (1 : Int32) = (σ3.1 115 x1.toNatClampNeg) → Q (some (.int (1 : Int32))) σ3)))))) ∧ (¬ (σ3.1 114 x1.toNatClampNeg) = (1 : Int32) → (inR x1 300 = true → (((σ3.1 114 x1.toNatClampNeg) = (2 : Int32) → ((w4 ≤ w2 → Pl PRG n d 207 154 [(0, .ref 97), (1, .int x1)] [] σ3 Q) ∧ (¬ w4 ≤ w2 → (inR x1 300 = true → (((1 : Int32) = (σ3.1 115 x1.toNatClampNeg) → Q (some (.int (0 : Int32))) σ3) ∧ (¬ (1 : Int32) = (σ3.1 115 x1.toNatClampNeg) → Q (some (.int (1 : Int32))) σ3)))))) ∧ (¬ (σ3.1 114 x1.toNatClampNeg) = (2 : Int32) → ((w4 < w2 → Pl PRG n d 207 154 [(0, .ref 97), (1, .int x1)] [] σ3 Q) ∧ (¬ w4 < w2 → (inR x1 300 = true → (((1 : Int32) = (σ3.1 115 x1.toNatClampNeg) → Q (some (.int (0 : Int32))) σ3) ∧ (¬ (1 : Int32) = (σ3.1 115 x1.toNatClampNeg) → Q (some (.int (1 : Int32))) σ3))))))))))))))) ∧ (¬ (σ3.1 97 44) = 0 → Pl PRG n d 207 51 [(0, .ref 97), (1, .int x1), (2, .int w2), (4, .int w4)] [] σ3 Q))) ∧ (¬ (σ1.1 97 44) = 0 → Pl PRG n d 207 51 [(0, .ref 97), (1, .int x1), (2, .int w2), (4, .int w4)] [] σ3 Q))))))))) : Pl PRG (n + 1) d 207 0 [(0, .ref 97), (1, .int x1)] [] σ Q := by
  have hM : PRG[207]? = some M_207 := rfl
  refine Pl.sg1 (pc' := 6) (ls' := [(0, .ref 97), (1, .int x1)]) (st' := [.int x1, .ref 117, .ref 97]) (σ' := σ) hM 3 rfl ?_
  refine Pl.weak (Pl.iald hM rfl rfl (fun hi => ?_))
  replace h := h hi
  refine Pl.seg (pc' := 12) (ls' := [(0, .ref 97), (1, .int x1)]) (st' := [.int x1, .ref 118, .int (σ.1 117 x1.toNatClampNeg), .ref 97]) (σ' := σ) hM 3 rfl ?_
  refine Pl.weak (Pl.iald hM rfl rfl (fun hi => ?_))
  replace h := h hi
  refine Pl.weak (Pl.cI hM rfl rfl (by decide) (Mj := M_206) rfl rfl (fun w2 σ1 hw => ?_))
  replace h := h w2 σ1 hw
  refine Pl.seg (pc' := 28) (ls' := [(3, .int (σ1.1 97 44)), (2, .int w2), (0, .ref 97), (1, .int x1)]) (st' := [.int x1, .ref 118, .ref 97]) (σ' := σ1) hM 8 rfl ?_
  refine Pl.weak (Pl.iald hM rfl rfl (fun hi => ?_))
  replace h := h hi
  refine Pl.seg (pc' := 34) (ls' := [(3, .int (σ1.1 97 44)), (2, .int w2), (0, .ref 97), (1, .int x1)]) (st' := [.int x1, .ref 119, .int (σ1.1 118 x1.toNatClampNeg), .ref 97]) (σ' := σ1) hM 3 rfl ?_
  refine Pl.weak (Pl.iald hM rfl rfl (fun hi => ?_))
  replace h := h hi
  refine Pl.weak (Pl.cI hM rfl rfl (by decide) (Mj := M_206) rfl rfl (fun w4 σ3 hw => ?_))
  replace h := h w4 σ3 hw
  refine Pl.brN (c := (σ1.1 97 44) = 0) (a := 51) (b := 44) (ls' := [(4, .int w4), (3, .int (σ1.1 97 44)), (2, .int w2), (0, .ref 97), (1, .int x1)]) (st' := []) (σ' := σ3) hM 3 rfl (fun c => ?_) (fun c => ?_)
  · replace h := h.2 c
    exact Pl.live (l' := [(0, .ref 97), (1, .int x1), (2, .int w2), (4, .int w4)]) hM lv_207 ⟨show ndL _ from (by decide : List.Nodup ([4, 3, 2, 0, 1] : List Nat)), show ndL _ from (by decide : List.Nodup ([0, 1, 2, 4] : List Nat)), by rw [lva_207_51]; exact List.forall_mem_cons.mpr ⟨rfl, List.forall_mem_cons.mpr ⟨rfl, List.forall_mem_cons.mpr ⟨rfl, List.forall_mem_cons.mpr ⟨rfl, fun _ h => absurd h List.not_mem_nil⟩⟩⟩⟩⟩ h
  · replace h := h.1 c
    refine Pl.br (c := (σ3.1 97 44) = 0) (a := 55) (b := 51) (ls' := [(4, .int w4), (3, .int (σ1.1 97 44)), (2, .int w2), (0, .ref 97), (1, .int x1)]) (st' := []) (σ' := σ3) hM 3 rfl (fun c => ?_) (fun c => ?_)
    · replace h := h.1 c
      refine Pl.seg (pc' := 62) (ls' := [(3, .int (0 : Int32)), (4, .int w4), (2, .int w2), (0, .ref 97), (1, .int x1)]) (st' := [.int x1, .ref 114]) (σ' := σ3) hM 5 rfl ?_
      refine Pl.weak (Pl.iald hM rfl rfl (fun hi => ?_))
      replace h := h hi
      refine Pl.brN (c := (σ3.1 114 x1.toNatClampNeg) = 0) (a := 80) (b := 66) (ls' := [(3, .int (0 : Int32)), (4, .int w4), (2, .int w2), (0, .ref 97), (1, .int x1)]) (st' := []) (σ' := σ3) hM 1 rfl (fun c => ?_) (fun c => ?_)
      · replace h := h.2 c
        refine Pl.seg (pc' := 85) (ls' := [(3, .int (0 : Int32)), (4, .int w4), (2, .int w2), (0, .ref 97), (1, .int x1)]) (st' := [.int x1, .ref 114]) (σ' := σ3) hM 3 rfl ?_
        refine Pl.weak (Pl.iald hM rfl rfl (fun hi => ?_))
        replace h := h hi
        refine Pl.brN (c := (σ3.1 114 x1.toNatClampNeg) = (1 : Int32)) (a := 104) (b := 90) (ls' := [(3, .int (0 : Int32)), (4, .int w4), (2, .int w2), (0, .ref 97), (1, .int x1)]) (st' := []) (σ' := σ3) hM 2 rfl (fun c => ?_) (fun c => ?_)
        · replace h := h.2 c
          refine Pl.seg (pc' := 109) (ls' := [(3, .int (0 : Int32)), (4, .int w4), (2, .int w2), (0, .ref 97), (1, .int x1)]) (st' := [.int x1, .ref 114]) (σ' := σ3) hM 3 rfl ?_
          refine Pl.weak (Pl.iald hM rfl rfl (fun hi => ?_))
          replace h := h hi
          refine Pl.brN (c := (σ3.1 114 x1.toNatClampNeg) = (2 : Int32)) (a := 128) (b := 114) (ls' := [(3, .int (0 : Int32)), (4, .int w4), (2, .int w2), (0, .ref 97), (1, .int x1)]) (st' := []) (σ' := σ3) hM 2 rfl (fun c => ?_) (fun c => ?_)
          · replace h := h.2 c
            refine Pl.br (c := w4 < w2) (a := 138) (b := 134) (ls' := [(3, .int (0 : Int32)), (4, .int w4), (2, .int w2), (0, .ref 97), (1, .int x1)]) (st' := []) (σ' := σ3) hM 3 rfl (fun c => ?_) (fun c => ?_)
            · replace h := h.1 c
              refine Pl.seg (pc' := 154) (ls' := [(5, .int (0 : Int32)), (3, .int (0 : Int32)), (4, .int w4), (2, .int w2), (0, .ref 97), (1, .int x1)]) (st' := []) (σ' := σ3) hM 4 rfl ?_
              exact Pl.live (l' := [(0, .ref 97), (1, .int x1)]) hM lv_207 ⟨show ndL _ from (by decide : List.Nodup ([5, 3, 4, 2, 0, 1] : List Nat)), show ndL _ from (by decide : List.Nodup ([0, 1] : List Nat)), by rw [lva_207_154]; exact List.forall_mem_cons.mpr ⟨rfl, List.forall_mem_cons.mpr ⟨rfl, fun _ h => absurd h List.not_mem_nil⟩⟩⟩ h
            · replace h := h.2 c
              refine Pl.seg (pc' := 160) (ls' := [(5, .int (1 : Int32)), (3, .int (0 : Int32)), (4, .int w4), (2, .int w2), (0, .ref 97), (1, .int x1)]) (st' := [.int x1, .ref 115, .int (1 : Int32)]) (σ' := σ3) hM 12 rfl ?_
              refine Pl.weak (Pl.bald3 hM rfl rfl (fun hi => ?_))
              replace h := h hi
              refine Pl.br (c := (1 : Int32) = (σ3.1 115 x1.toNatClampNeg)) (a := 168) (b := 164) (ls' := [(5, .int (1 : Int32)), (3, .int (0 : Int32)), (4, .int w4), (2, .int w2), (0, .ref 97), (1, .int x1)]) (st' := []) (σ' := σ3) hM 1 rfl (fun c => ?_) (fun c => ?_)
              · replace h := h.1 c
                refine Pl.seg (pc' := 169) (ls' := [(5, .int (1 : Int32)), (3, .int (0 : Int32)), (4, .int w4), (2, .int w2), (0, .ref 97), (1, .int x1)]) (st' := [.int (0 : Int32)]) (σ' := σ3) hM 1 rfl ?_
                refine Pl.weak (Pl.ret hM rfl rfl h)
              · replace h := h.2 c
                refine Pl.seg (pc' := 169) (ls' := [(5, .int (1 : Int32)), (3, .int (0 : Int32)), (4, .int w4), (2, .int w2), (0, .ref 97), (1, .int x1)]) (st' := [.int (1 : Int32)]) (σ' := σ3) hM 2 rfl ?_
                refine Pl.weak (Pl.ret hM rfl rfl h)
          · replace h := h.1 c
            refine Pl.br (c := w4 ≤ w2) (a := 124) (b := 120) (ls' := [(3, .int (0 : Int32)), (4, .int w4), (2, .int w2), (0, .ref 97), (1, .int x1)]) (st' := []) (σ' := σ3) hM 3 rfl (fun c => ?_) (fun c => ?_)
            · replace h := h.1 c
              refine Pl.seg (pc' := 154) (ls' := [(5, .int (0 : Int32)), (3, .int (0 : Int32)), (4, .int w4), (2, .int w2), (0, .ref 97), (1, .int x1)]) (st' := []) (σ' := σ3) hM 5 rfl ?_
              exact Pl.live (l' := [(0, .ref 97), (1, .int x1)]) hM lv_207 ⟨show ndL _ from (by decide : List.Nodup ([5, 3, 4, 2, 0, 1] : List Nat)), show ndL _ from (by decide : List.Nodup ([0, 1] : List Nat)), by rw [lva_207_154]; exact List.forall_mem_cons.mpr ⟨rfl, List.forall_mem_cons.mpr ⟨rfl, fun _ h => absurd h List.not_mem_nil⟩⟩⟩ h
            · replace h := h.2 c
              refine Pl.seg (pc' := 160) (ls' := [(5, .int (1 : Int32)), (3, .int (0 : Int32)), (4, .int w4), (2, .int w2), (0, .ref 97), (1, .int x1)]) (st' := [.int x1, .ref 115, .int (1 : Int32)]) (σ' := σ3) hM 12 rfl ?_
              refine Pl.weak (Pl.bald3 hM rfl rfl (fun hi => ?_))
              replace h := h hi
              refine Pl.br (c := (1 : Int32) = (σ3.1 115 x1.toNatClampNeg)) (a := 168) (b := 164) (ls' := [(5, .int (1 : Int32)), (3, .int (0 : Int32)), (4, .int w4), (2, .int w2), (0, .ref 97), (1, .int x1)]) (st' := []) (σ' := σ3) hM 1 rfl (fun c => ?_) (fun c => ?_)
              · replace h := h.1 c
                refine Pl.seg (pc' := 169) (ls' := [(5, .int (1 : Int32)), (3, .int (0 : Int32)), (4, .int w4), (2, .int w2), (0, .ref 97), (1, .int x1)]) (st' := [.int (0 : Int32)]) (σ' := σ3) hM 1 rfl ?_
                refine Pl.weak (Pl.ret hM rfl rfl h)
              · replace h := h.2 c
                refine Pl.seg (pc' := 169) (ls' := [(5, .int (1 : Int32)), (3, .int (0 : Int32)), (4, .int w4), (2, .int w2), (0, .ref 97), (1, .int x1)]) (st' := [.int (1 : Int32)]) (σ' := σ3) hM 2 rfl ?_
                refine Pl.weak (Pl.ret hM rfl rfl h)
        · replace h := h.1 c
          refine Pl.br (c := w2 = w4) (a := 100) (b := 96) (ls' := [(3, .int (0 : Int32)), (4, .int w4), (2, .int w2), (0, .ref 97), (1, .int x1)]) (st' := []) (σ' := σ3) hM 3 rfl (fun c => ?_) (fun c => ?_)
          · replace h := h.1 c
            refine Pl.seg (pc' := 154) (ls' := [(5, .int (0 : Int32)), (3, .int (0 : Int32)), (4, .int w4), (2, .int w2), (0, .ref 97), (1, .int x1)]) (st' := []) (σ' := σ3) hM 5 rfl ?_
            exact Pl.live (l' := [(0, .ref 97), (1, .int x1)]) hM lv_207 ⟨show ndL _ from (by decide : List.Nodup ([5, 3, 4, 2, 0, 1] : List Nat)), show ndL _ from (by decide : List.Nodup ([0, 1] : List Nat)), by rw [lva_207_154]; exact List.forall_mem_cons.mpr ⟨rfl, List.forall_mem_cons.mpr ⟨rfl, fun _ h => absurd h List.not_mem_nil⟩⟩⟩ h
          · replace h := h.2 c
            refine Pl.seg (pc' := 160) (ls' := [(5, .int (1 : Int32)), (3, .int (0 : Int32)), (4, .int w4), (2, .int w2), (0, .ref 97), (1, .int x1)]) (st' := [.int x1, .ref 115, .int (1 : Int32)]) (σ' := σ3) hM 12 rfl ?_
            refine Pl.weak (Pl.bald3 hM rfl rfl (fun hi => ?_))
            replace h := h hi
            refine Pl.br (c := (1 : Int32) = (σ3.1 115 x1.toNatClampNeg)) (a := 168) (b := 164) (ls' := [(5, .int (1 : Int32)), (3, .int (0 : Int32)), (4, .int w4), (2, .int w2), (0, .ref 97), (1, .int x1)]) (st' := []) (σ' := σ3) hM 1 rfl (fun c => ?_) (fun c => ?_)
            · replace h := h.1 c
              refine Pl.seg (pc' := 169) (ls' := [(5, .int (1 : Int32)), (3, .int (0 : Int32)), (4, .int w4), (2, .int w2), (0, .ref 97), (1, .int x1)]) (st' := [.int (0 : Int32)]) (σ' := σ3) hM 1 rfl ?_
              refine Pl.weak (Pl.ret hM rfl rfl h)
            · replace h := h.2 c
              refine Pl.seg (pc' := 169) (ls' := [(5, .int (1 : Int32)), (3, .int (0 : Int32)), (4, .int w4), (2, .int w2), (0, .ref 97), (1, .int x1)]) (st' := [.int (1 : Int32)]) (σ' := σ3) hM 2 rfl ?_
              refine Pl.weak (Pl.ret hM rfl rfl h)
      · replace h := h.1 c
        refine Pl.brN (c := w2 = w4) (a := 76) (b := 72) (ls' := [(3, .int (0 : Int32)), (4, .int w4), (2, .int w2), (0, .ref 97), (1, .int x1)]) (st' := []) (σ' := σ3) hM 3 rfl (fun c => ?_) (fun c => ?_)
        · replace h := h.2 c
          refine Pl.seg (pc' := 154) (ls' := [(5, .int (0 : Int32)), (3, .int (0 : Int32)), (4, .int w4), (2, .int w2), (0, .ref 97), (1, .int x1)]) (st' := []) (σ' := σ3) hM 5 rfl ?_
          exact Pl.live (l' := [(0, .ref 97), (1, .int x1)]) hM lv_207 ⟨show ndL _ from (by decide : List.Nodup ([5, 3, 4, 2, 0, 1] : List Nat)), show ndL _ from (by decide : List.Nodup ([0, 1] : List Nat)), by rw [lva_207_154]; exact List.forall_mem_cons.mpr ⟨rfl, List.forall_mem_cons.mpr ⟨rfl, fun _ h => absurd h List.not_mem_nil⟩⟩⟩ h
        · replace h := h.1 c
          refine Pl.seg (pc' := 160) (ls' := [(5, .int (1 : Int32)), (3, .int (0 : Int32)), (4, .int w4), (2, .int w2), (0, .ref 97), (1, .int x1)]) (st' := [.int x1, .ref 115, .int (1 : Int32)]) (σ' := σ3) hM 12 rfl ?_
          refine Pl.weak (Pl.bald3 hM rfl rfl (fun hi => ?_))
          replace h := h hi
          refine Pl.br (c := (1 : Int32) = (σ3.1 115 x1.toNatClampNeg)) (a := 168) (b := 164) (ls' := [(5, .int (1 : Int32)), (3, .int (0 : Int32)), (4, .int w4), (2, .int w2), (0, .ref 97), (1, .int x1)]) (st' := []) (σ' := σ3) hM 1 rfl (fun c => ?_) (fun c => ?_)
          · replace h := h.1 c
            refine Pl.seg (pc' := 169) (ls' := [(5, .int (1 : Int32)), (3, .int (0 : Int32)), (4, .int w4), (2, .int w2), (0, .ref 97), (1, .int x1)]) (st' := [.int (0 : Int32)]) (σ' := σ3) hM 1 rfl ?_
            refine Pl.weak (Pl.ret hM rfl rfl h)
          · replace h := h.2 c
            refine Pl.seg (pc' := 169) (ls' := [(5, .int (1 : Int32)), (3, .int (0 : Int32)), (4, .int w4), (2, .int w2), (0, .ref 97), (1, .int x1)]) (st' := [.int (1 : Int32)]) (σ' := σ3) hM 2 rfl ?_
            refine Pl.weak (Pl.ret hM rfl rfl h)
    · replace h := h.2 c
      exact Pl.live (l' := [(0, .ref 97), (1, .int x1), (2, .int w2), (4, .int w4)]) hM lv_207 ⟨show ndL _ from (by decide : List.Nodup ([4, 3, 2, 0, 1] : List Nat)), show ndL _ from (by decide : List.Nodup ([0, 1, 2, 4] : List Nat)), by rw [lva_207_51]; exact List.forall_mem_cons.mpr ⟨rfl, List.forall_mem_cons.mpr ⟨rfl, List.forall_mem_cons.mpr ⟨rfl, List.forall_mem_cons.mpr ⟨rfl, fun _ h => absurd h List.not_mem_nil⟩⟩⟩⟩⟩ h
set_option maxRecDepth 100000 in
theorem p_207_51 {n d : Nat} {Q : Option Value → Sg → Prop} (σ : Sg) (x1 x2 x4 : Int32) (h : (inR x1 300 = true → (((σ.1 114 x1.toNatClampNeg) = 0 → ((x2 = x4 → Pl PRG n d 207 154 [(0, .ref 97), (1, .int x1)] [] σ Q) ∧ (¬ x2 = x4 → Pl PRG n d 207 154 [(0, .ref 97), (1, .int x1)] [] σ Q))) ∧ (¬ (σ.1 114 x1.toNatClampNeg) = 0 → (inR x1 300 = true → (((σ.1 114 x1.toNatClampNeg) = (1 : Int32) → ((x2 = x4 → Pl PRG n d 207 154 [(0, .ref 97), (1, .int x1)] [] σ Q) ∧ (¬ x2 = x4 → Pl PRG n d 207 154 [(0, .ref 97), (1, .int x1)] [] σ Q))) ∧ (¬ (σ.1 114 x1.toNatClampNeg) = (1 : Int32) → (inR x1 300 = true → (((σ.1 114 x1.toNatClampNeg) = (2 : Int32) → ((x4 ≤ x2 → Pl PRG n d 207 154 [(0, .ref 97), (1, .int x1)] [] σ Q) ∧ (¬ x4 ≤ x2 → Pl PRG n d 207 154 [(0, .ref 97), (1, .int x1)] [] σ Q))) ∧ (¬ (σ.1 114 x1.toNatClampNeg) = (2 : Int32) → ((x4 < x2 → Pl PRG n d 207 154 [(0, .ref 97), (1, .int x1)] [] σ Q) ∧ (¬ x4 < x2 → Pl PRG n d 207 154 [(0, .ref 97), (1, .int x1)] [] σ Q)))))))))))) : Pl PRG (n + 1) d 207 51 [(0, .ref 97), (1, .int x1), (2, .int x2), (4, .int x4)] [] σ Q := by
  have hM : PRG[207]? = some M_207 := rfl
  refine Pl.sg1 (pc' := 62) (ls' := [(3, .int (1 : Int32)), (0, .ref 97), (1, .int x1), (2, .int x2), (4, .int x4)]) (st' := [.int x1, .ref 114]) (σ' := σ) hM 5 rfl ?_
  refine Pl.weak (Pl.iald hM rfl rfl (fun hi => ?_))
  replace h := h hi
  refine Pl.brN (c := (σ.1 114 x1.toNatClampNeg) = 0) (a := 80) (b := 66) (ls' := [(3, .int (1 : Int32)), (0, .ref 97), (1, .int x1), (2, .int x2), (4, .int x4)]) (st' := []) (σ' := σ) hM 1 rfl (fun c => ?_) (fun c => ?_)
  · replace h := h.2 c
    refine Pl.seg (pc' := 85) (ls' := [(3, .int (1 : Int32)), (0, .ref 97), (1, .int x1), (2, .int x2), (4, .int x4)]) (st' := [.int x1, .ref 114]) (σ' := σ) hM 3 rfl ?_
    refine Pl.weak (Pl.iald hM rfl rfl (fun hi => ?_))
    replace h := h hi
    refine Pl.brN (c := (σ.1 114 x1.toNatClampNeg) = (1 : Int32)) (a := 104) (b := 90) (ls' := [(3, .int (1 : Int32)), (0, .ref 97), (1, .int x1), (2, .int x2), (4, .int x4)]) (st' := []) (σ' := σ) hM 2 rfl (fun c => ?_) (fun c => ?_)
    · replace h := h.2 c
      refine Pl.seg (pc' := 109) (ls' := [(3, .int (1 : Int32)), (0, .ref 97), (1, .int x1), (2, .int x2), (4, .int x4)]) (st' := [.int x1, .ref 114]) (σ' := σ) hM 3 rfl ?_
      refine Pl.weak (Pl.iald hM rfl rfl (fun hi => ?_))
      replace h := h hi
      refine Pl.brN (c := (σ.1 114 x1.toNatClampNeg) = (2 : Int32)) (a := 128) (b := 114) (ls' := [(3, .int (1 : Int32)), (0, .ref 97), (1, .int x1), (2, .int x2), (4, .int x4)]) (st' := []) (σ' := σ) hM 2 rfl (fun c => ?_) (fun c => ?_)
      · replace h := h.2 c
        refine Pl.br (c := x4 < x2) (a := 138) (b := 134) (ls' := [(3, .int (1 : Int32)), (0, .ref 97), (1, .int x1), (2, .int x2), (4, .int x4)]) (st' := []) (σ' := σ) hM 3 rfl (fun c => ?_) (fun c => ?_)
        · replace h := h.1 c
          refine Pl.seg (pc' := 154) (ls' := [(5, .int (0 : Int32)), (3, .int (1 : Int32)), (0, .ref 97), (1, .int x1), (2, .int x2), (4, .int x4)]) (st' := []) (σ' := σ) hM 4 rfl ?_
          exact Pl.live (l' := [(0, .ref 97), (1, .int x1)]) hM lv_207 ⟨show ndL _ from (by decide : List.Nodup ([5, 3, 0, 1, 2, 4] : List Nat)), show ndL _ from (by decide : List.Nodup ([0, 1] : List Nat)), by rw [lva_207_154]; exact List.forall_mem_cons.mpr ⟨rfl, List.forall_mem_cons.mpr ⟨rfl, fun _ h => absurd h List.not_mem_nil⟩⟩⟩ h
        · replace h := h.2 c
          refine Pl.seg (pc' := 154) (ls' := [(5, .int (1 : Int32)), (3, .int (1 : Int32)), (0, .ref 97), (1, .int x1), (2, .int x2), (4, .int x4)]) (st' := []) (σ' := σ) hM 7 rfl ?_
          exact Pl.live (l' := [(0, .ref 97), (1, .int x1)]) hM lv_207 ⟨show ndL _ from (by decide : List.Nodup ([5, 3, 0, 1, 2, 4] : List Nat)), show ndL _ from (by decide : List.Nodup ([0, 1] : List Nat)), by rw [lva_207_154]; exact List.forall_mem_cons.mpr ⟨rfl, List.forall_mem_cons.mpr ⟨rfl, fun _ h => absurd h List.not_mem_nil⟩⟩⟩ h
      · replace h := h.1 c
        refine Pl.br (c := x4 ≤ x2) (a := 124) (b := 120) (ls' := [(3, .int (1 : Int32)), (0, .ref 97), (1, .int x1), (2, .int x2), (4, .int x4)]) (st' := []) (σ' := σ) hM 3 rfl (fun c => ?_) (fun c => ?_)
        · replace h := h.1 c
          refine Pl.seg (pc' := 154) (ls' := [(5, .int (0 : Int32)), (3, .int (1 : Int32)), (0, .ref 97), (1, .int x1), (2, .int x2), (4, .int x4)]) (st' := []) (σ' := σ) hM 5 rfl ?_
          exact Pl.live (l' := [(0, .ref 97), (1, .int x1)]) hM lv_207 ⟨show ndL _ from (by decide : List.Nodup ([5, 3, 0, 1, 2, 4] : List Nat)), show ndL _ from (by decide : List.Nodup ([0, 1] : List Nat)), by rw [lva_207_154]; exact List.forall_mem_cons.mpr ⟨rfl, List.forall_mem_cons.mpr ⟨rfl, fun _ h => absurd h List.not_mem_nil⟩⟩⟩ h
        · replace h := h.2 c
          refine Pl.seg (pc' := 154) (ls' := [(5, .int (1 : Int32)), (3, .int (1 : Int32)), (0, .ref 97), (1, .int x1), (2, .int x2), (4, .int x4)]) (st' := []) (σ' := σ) hM 7 rfl ?_
          exact Pl.live (l' := [(0, .ref 97), (1, .int x1)]) hM lv_207 ⟨show ndL _ from (by decide : List.Nodup ([5, 3, 0, 1, 2, 4] : List Nat)), show ndL _ from (by decide : List.Nodup ([0, 1] : List Nat)), by rw [lva_207_154]; exact List.forall_mem_cons.mpr ⟨rfl, List.forall_mem_cons.mpr ⟨rfl, fun _ h => absurd h List.not_mem_nil⟩⟩⟩ h
    · replace h := h.1 c
      refine Pl.br (c := x2 = x4) (a := 100) (b := 96) (ls' := [(3, .int (1 : Int32)), (0, .ref 97), (1, .int x1), (2, .int x2), (4, .int x4)]) (st' := []) (σ' := σ) hM 3 rfl (fun c => ?_) (fun c => ?_)
      · replace h := h.1 c
        refine Pl.seg (pc' := 154) (ls' := [(5, .int (0 : Int32)), (3, .int (1 : Int32)), (0, .ref 97), (1, .int x1), (2, .int x2), (4, .int x4)]) (st' := []) (σ' := σ) hM 5 rfl ?_
        exact Pl.live (l' := [(0, .ref 97), (1, .int x1)]) hM lv_207 ⟨show ndL _ from (by decide : List.Nodup ([5, 3, 0, 1, 2, 4] : List Nat)), show ndL _ from (by decide : List.Nodup ([0, 1] : List Nat)), by rw [lva_207_154]; exact List.forall_mem_cons.mpr ⟨rfl, List.forall_mem_cons.mpr ⟨rfl, fun _ h => absurd h List.not_mem_nil⟩⟩⟩ h
      · replace h := h.2 c
        refine Pl.seg (pc' := 154) (ls' := [(5, .int (1 : Int32)), (3, .int (1 : Int32)), (0, .ref 97), (1, .int x1), (2, .int x2), (4, .int x4)]) (st' := []) (σ' := σ) hM 7 rfl ?_
        exact Pl.live (l' := [(0, .ref 97), (1, .int x1)]) hM lv_207 ⟨show ndL _ from (by decide : List.Nodup ([5, 3, 0, 1, 2, 4] : List Nat)), show ndL _ from (by decide : List.Nodup ([0, 1] : List Nat)), by rw [lva_207_154]; exact List.forall_mem_cons.mpr ⟨rfl, List.forall_mem_cons.mpr ⟨rfl, fun _ h => absurd h List.not_mem_nil⟩⟩⟩ h
  · replace h := h.1 c
    refine Pl.brN (c := x2 = x4) (a := 76) (b := 72) (ls' := [(3, .int (1 : Int32)), (0, .ref 97), (1, .int x1), (2, .int x2), (4, .int x4)]) (st' := []) (σ' := σ) hM 3 rfl (fun c => ?_) (fun c => ?_)
    · replace h := h.2 c
      refine Pl.seg (pc' := 154) (ls' := [(5, .int (0 : Int32)), (3, .int (1 : Int32)), (0, .ref 97), (1, .int x1), (2, .int x2), (4, .int x4)]) (st' := []) (σ' := σ) hM 5 rfl ?_
      exact Pl.live (l' := [(0, .ref 97), (1, .int x1)]) hM lv_207 ⟨show ndL _ from (by decide : List.Nodup ([5, 3, 0, 1, 2, 4] : List Nat)), show ndL _ from (by decide : List.Nodup ([0, 1] : List Nat)), by rw [lva_207_154]; exact List.forall_mem_cons.mpr ⟨rfl, List.forall_mem_cons.mpr ⟨rfl, fun _ h => absurd h List.not_mem_nil⟩⟩⟩ h
    · replace h := h.1 c
      refine Pl.seg (pc' := 154) (ls' := [(5, .int (1 : Int32)), (3, .int (1 : Int32)), (0, .ref 97), (1, .int x1), (2, .int x2), (4, .int x4)]) (st' := []) (σ' := σ) hM 7 rfl ?_
      exact Pl.live (l' := [(0, .ref 97), (1, .int x1)]) hM lv_207 ⟨show ndL _ from (by decide : List.Nodup ([5, 3, 0, 1, 2, 4] : List Nat)), show ndL _ from (by decide : List.Nodup ([0, 1] : List Nat)), by rw [lva_207_154]; exact List.forall_mem_cons.mpr ⟨rfl, List.forall_mem_cons.mpr ⟨rfl, fun _ h => absurd h List.not_mem_nil⟩⟩⟩ h
set_option maxRecDepth 100000 in
theorem p_207_154 {n d : Nat} {Q : Option Value → Sg → Prop} (σ : Sg) (x1 : Int32) (h : (inR x1 300 = true → (((0 : Int32) = (σ.1 115 x1.toNatClampNeg) → Q (some (.int (0 : Int32))) σ) ∧ (¬ (0 : Int32) = (σ.1 115 x1.toNatClampNeg) → Q (some (.int (1 : Int32))) σ)))) : Pl PRG (n + 1) d 207 154 [(0, .ref 97), (1, .int x1)] [] σ Q := by
  have hM : PRG[207]? = some M_207 := rfl
  refine Pl.sg1 (pc' := 160) (ls' := [(0, .ref 97), (1, .int x1)]) (st' := [.int x1, .ref 115, .int (0 : Int32)]) (σ' := σ) hM 3 rfl ?_
  refine Pl.weak (Pl.bald3 hM rfl rfl (fun hi => ?_))
  replace h := h hi
  refine Pl.br (c := (0 : Int32) = (σ.1 115 x1.toNatClampNeg)) (a := 168) (b := 164) (ls' := [(0, .ref 97), (1, .int x1)]) (st' := []) (σ' := σ) hM 1 rfl (fun c => ?_) (fun c => ?_)
  · replace h := h.1 c
    refine Pl.seg (pc' := 169) (ls' := [(0, .ref 97), (1, .int x1)]) (st' := [.int (0 : Int32)]) (σ' := σ) hM 1 rfl ?_
    refine Pl.weak (Pl.ret hM rfl rfl h)
  · replace h := h.2 c
    refine Pl.seg (pc' := 169) (ls' := [(0, .ref 97), (1, .int x1)]) (st' := [.int (1 : Int32)]) (σ' := σ) hM 2 rfl ?_
    refine Pl.weak (Pl.ret hM rfl rfl h)
def LV_208 : List (Nat × List Nat) := [(0, [0, 1]), (1, [0, 1]), (2, [0, 1, 2]), (3, [0, 1, 2]), (6, [0, 1, 2]), (7, [0, 1, 2]), (8, [0, 1, 2]), (9, [0, 1, 2, 3]), (10, [0, 1, 2, 3]), (11, [0, 1, 2, 3]), (14, [0, 1, 2, 3]), (15, [0, 1, 2, 3]), (16, [0, 1, 2, 3]), (19, [0, 1, 2, 3]), (20, [0, 1, 2, 3]), (23, [0, 1, 2, 3]), (24, [0, 1, 2, 3]), (25, [0, 1, 2, 3]), (28, [0, 1, 2, 3]), (29, [0, 1, 2, 3]), (32, []), (33, []), (34, [0, 1, 2, 3]), (35, [0, 1, 2, 3]), (38, [0, 1, 2, 3]), (39, [0, 1, 2, 3]), (40, [0, 1, 2, 3]), (43, [0, 1, 3]), (44, [0, 1, 3]), (45, [0, 1, 2, 3]), (46, [0, 1, 3]), (49, [0, 1, 3]), (50, [0, 1, 3]), (51, [0, 1, 3]), (54, [0, 1, 3]), (57, [0, 1, 3]), (58, [0, 1, 3]), (61, [0, 1, 3]), (62, [0, 1, 3]), (63, [0, 1, 2, 3]), (66, [0, 1, 2, 3]), (69, [2]), (70, [])]
set_option maxRecDepth 100000 in
theorem lv_208 : chkLv M_208 LV_208 = true := by decide +kernel
set_option maxRecDepth 100000 in
theorem lva_208_9 : lvA LV_208 9 = [0, 1, 2, 3] := by decide +kernel
set_option maxRecDepth 100000 in
theorem lva_208_34 : lvA LV_208 34 = [0, 1, 2, 3] := by decide +kernel
set_option maxRecDepth 100000 in
theorem lva_208_45 : lvA LV_208 45 = [0, 1, 2, 3] := by decide +kernel
set_option maxRecDepth 100000 in
theorem lva_208_61 : lvA LV_208 61 = [0, 1, 3] := by decide +kernel
set_option maxRecDepth 100000 in
theorem p_208_0 {n d : Nat} {Q : Option Value → Sg → Prop} (σ : Sg) (x1 : Int32) (h : (inR x1 24 = true → Pl PRG n d 208 9 [(0, .ref 97), (1, .int x1), (2, .int (0 : Int32)), (3, .int (σ.1 112 x1.toNatClampNeg))] [] σ Q)) : Pl PRG (n + 1) d 208 0 [(0, .ref 97), (1, .int x1)] [] σ Q := by
  have hM : PRG[208]? = some M_208 := rfl
  refine Pl.sg1 (pc' := 7) (ls' := [(2, .int (0 : Int32)), (0, .ref 97), (1, .int x1)]) (st' := [.int x1, .ref 112]) (σ' := σ) hM 4 rfl ?_
  refine Pl.weak (Pl.iald hM rfl rfl (fun hi => ?_))
  replace h := h hi
  refine Pl.seg (pc' := 9) (ls' := [(3, .int (σ.1 112 x1.toNatClampNeg)), (2, .int (0 : Int32)), (0, .ref 97), (1, .int x1)]) (st' := []) (σ' := σ) hM 1 rfl ?_
  exact Pl.live (l' := [(0, .ref 97), (1, .int x1), (2, .int (0 : Int32)), (3, .int (σ.1 112 x1.toNatClampNeg))]) hM lv_208 ⟨show ndL _ from (by decide : List.Nodup ([3, 2, 0, 1] : List Nat)), show ndL _ from (by decide : List.Nodup ([0, 1, 2, 3] : List Nat)), by rw [lva_208_9]; exact List.forall_mem_cons.mpr ⟨rfl, List.forall_mem_cons.mpr ⟨rfl, List.forall_mem_cons.mpr ⟨rfl, List.forall_mem_cons.mpr ⟨rfl, fun _ h => absurd h List.not_mem_nil⟩⟩⟩⟩⟩ h
set_option maxRecDepth 100000 in
theorem p_208_9 {n d : Nat} {Q : Option Value → Sg → Prop} (σ : Sg) (x1 x2 x3 : Int32) (h : (inR x1 24 = true → (((σ.1 113 x1.toNatClampNeg) ≤ x3 → ((x2 = 0 ∨ x2 = 1) → Q (some (.int x2)) σ)) ∧ (¬ (σ.1 113 x1.toNatClampNeg) ≤ x3 → (inR x3 300 = true → (((σ.1 116 x3.toNatClampNeg) = 0 → Pl PRG n d 208 34 [(0, .ref 97), (1, .int x1), (2, .int x2), (3, .int x3)] [] σ Q) ∧ (¬ (σ.1 116 x3.toNatClampNeg) = 0 → ((x2 = 0 → Pl PRG n d 208 34 [(0, .ref 97), (1, .int x1), (2, .int x2), (3, .int x3)] [] σ Q) ∧ (¬ x2 = 0 → Q (some (.int (1 : Int32))) σ))))))))) : Pl PRG (n + 1) d 208 9 [(0, .ref 97), (1, .int x1), (2, .int x2), (3, .int x3)] [] σ Q := by
  have hM : PRG[208]? = some M_208 := rfl
  refine Pl.sg1 (pc' := 15) (ls' := [(0, .ref 97), (1, .int x1), (2, .int x2), (3, .int x3)]) (st' := [.int x1, .ref 113, .int x3]) (σ' := σ) hM 3 rfl ?_
  refine Pl.weak (Pl.iald hM rfl rfl (fun hi => ?_))
  replace h := h hi
  refine Pl.br (c := (σ.1 113 x1.toNatClampNeg) ≤ x3) (a := 69) (b := 19) (ls' := [(0, .ref 97), (1, .int x1), (2, .int x2), (3, .int x3)]) (st' := []) (σ' := σ) hM 1 rfl (fun c => ?_) (fun c => ?_)
  · replace h := h.1 c
    refine Pl.seg (pc' := 70) (ls' := [(0, .ref 97), (1, .int x1), (2, .int x2), (3, .int x3)]) (st' := [.int x2]) (σ' := σ) hM 1 rfl ?_
    refine Pl.weak (Pl.retZ hM rfl rfl h)
  · replace h := h.2 c
    refine Pl.seg (pc' := 24) (ls' := [(0, .ref 97), (1, .int x1), (2, .int x2), (3, .int x3)]) (st' := [.int x3, .ref 116]) (σ' := σ) hM 3 rfl ?_
    refine Pl.weak (Pl.bald3 hM rfl rfl (fun hi => ?_))
    replace h := h hi
    refine Pl.br (c := (σ.1 116 x3.toNatClampNeg) = 0) (a := 34) (b := 28) (ls' := [(0, .ref 97), (1, .int x1), (2, .int x2), (3, .int x3)]) (st' := []) (σ' := σ) hM 1 rfl (fun c => ?_) (fun c => ?_)
    · replace h := h.1 c
      exact Pl.live (l' := [(0, .ref 97), (1, .int x1), (2, .int x2), (3, .int x3)]) hM lv_208 ⟨show ndL _ from (by decide : List.Nodup ([0, 1, 2, 3] : List Nat)), show ndL _ from (by decide : List.Nodup ([0, 1, 2, 3] : List Nat)), by rw [lva_208_34]; exact List.forall_mem_cons.mpr ⟨rfl, List.forall_mem_cons.mpr ⟨rfl, List.forall_mem_cons.mpr ⟨rfl, List.forall_mem_cons.mpr ⟨rfl, fun _ h => absurd h List.not_mem_nil⟩⟩⟩⟩⟩ h
    · replace h := h.2 c
      refine Pl.br (c := x2 = 0) (a := 34) (b := 32) (ls' := [(0, .ref 97), (1, .int x1), (2, .int x2), (3, .int x3)]) (st' := []) (σ' := σ) hM 2 rfl (fun c => ?_) (fun c => ?_)
      · replace h := h.1 c
        exact Pl.live (l' := [(0, .ref 97), (1, .int x1), (2, .int x2), (3, .int x3)]) hM lv_208 ⟨show ndL _ from (by decide : List.Nodup ([0, 1, 2, 3] : List Nat)), show ndL _ from (by decide : List.Nodup ([0, 1, 2, 3] : List Nat)), by rw [lva_208_34]; exact List.forall_mem_cons.mpr ⟨rfl, List.forall_mem_cons.mpr ⟨rfl, List.forall_mem_cons.mpr ⟨rfl, List.forall_mem_cons.mpr ⟨rfl, fun _ h => absurd h List.not_mem_nil⟩⟩⟩⟩⟩ h
      · replace h := h.2 c
        refine Pl.seg (pc' := 33) (ls' := [(0, .ref 97), (1, .int x1), (2, .int x2), (3, .int x3)]) (st' := [.int (1 : Int32)]) (σ' := σ) hM 1 rfl ?_
        refine Pl.weak (Pl.ret hM rfl rfl h)
set_option maxRecDepth 100000 in
theorem p_208_34 {n d : Nat} {Q : Option Value → Sg → Prop} (σ : Sg) (x1 x2 x3 : Int32) (h : (inR x3 300 = true → (((σ.1 116 x3.toNatClampNeg) = 0 → Pl PRG n d 208 45 [(0, .ref 97), (1, .int x1), (2, .int x2), (3, .int x3)] [] σ Q) ∧ (¬ (σ.1 116 x3.toNatClampNeg) = 0 → Pl PRG n d 208 45 [(0, .ref 97), (1, .int x1), (2, .int (1 : Int32)), (3, .int x3)] [] σ Q)))) : Pl PRG (n + 1) d 208 34 [(0, .ref 97), (1, .int x1), (2, .int x2), (3, .int x3)] [] σ Q := by
  have hM : PRG[208]? = some M_208 := rfl
  refine Pl.sg1 (pc' := 39) (ls' := [(0, .ref 97), (1, .int x1), (2, .int x2), (3, .int x3)]) (st' := [.int x3, .ref 116]) (σ' := σ) hM 2 rfl ?_
  refine Pl.weak (Pl.bald3 hM rfl rfl (fun hi => ?_))
  replace h := h hi
  refine Pl.br (c := (σ.1 116 x3.toNatClampNeg) = 0) (a := 45) (b := 43) (ls' := [(0, .ref 97), (1, .int x1), (2, .int x2), (3, .int x3)]) (st' := []) (σ' := σ) hM 1 rfl (fun c => ?_) (fun c => ?_)
  · replace h := h.1 c
    exact Pl.live (l' := [(0, .ref 97), (1, .int x1), (2, .int x2), (3, .int x3)]) hM lv_208 ⟨show ndL _ from (by decide : List.Nodup ([0, 1, 2, 3] : List Nat)), show ndL _ from (by decide : List.Nodup ([0, 1, 2, 3] : List Nat)), by rw [lva_208_45]; exact List.forall_mem_cons.mpr ⟨rfl, List.forall_mem_cons.mpr ⟨rfl, List.forall_mem_cons.mpr ⟨rfl, List.forall_mem_cons.mpr ⟨rfl, fun _ h => absurd h List.not_mem_nil⟩⟩⟩⟩⟩ h
  · replace h := h.2 c
    refine Pl.seg (pc' := 45) (ls' := [(2, .int (1 : Int32)), (0, .ref 97), (1, .int x1), (3, .int x3)]) (st' := []) (σ' := σ) hM 2 rfl ?_
    exact Pl.live (l' := [(0, .ref 97), (1, .int x1), (2, .int (1 : Int32)), (3, .int x3)]) hM lv_208 ⟨show ndL _ from (by decide : List.Nodup ([2, 0, 1, 3] : List Nat)), show ndL _ from (by decide : List.Nodup ([0, 1, 2, 3] : List Nat)), by rw [lva_208_45]; exact List.forall_mem_cons.mpr ⟨rfl, List.forall_mem_cons.mpr ⟨rfl, List.forall_mem_cons.mpr ⟨rfl, List.forall_mem_cons.mpr ⟨rfl, fun _ h => absurd h List.not_mem_nil⟩⟩⟩⟩⟩ h
set_option maxRecDepth 100000 in
theorem p_208_45 {n d : Nat} {Q : Option Value → Sg → Prop} (σ : Sg) (x1 x2 x3 : Int32) (h : ((x2 = 0 → Pl PRG n d 208 61 [(0, .ref 97), (1, .int x1), (3, .int x3)] [] σ Q) ∧ (¬ x2 = 0 → (∀ w2 σ1, RCx PRG n 207 [.ref 97, .int x3] σ (some (.int w2)) σ1 → (w2 = 0 ∨ w2 = 1) → ((w2 = 0 → Pl PRG n d 208 61 [(0, .ref 97), (1, .int x1), (3, .int x3)] [] σ1 Q) ∧ (¬ w2 = 0 → Pl PRG n d 208 9 [(0, .ref 97), (1, .int x1), (2, .int (1 : Int32)), (3, .int (x3 + (1 : Int32)))] [] σ1 Q)))))) : Pl PRG (n + 1) d 208 45 [(0, .ref 97), (1, .int x1), (2, .int x2), (3, .int x3)] [] σ Q := by
  have hM : PRG[208]? = some M_208 := rfl
  refine Pl.br1 (c := x2 = 0) (a := 61) (b := 49) (ls' := [(0, .ref 97), (1, .int x1), (2, .int x2), (3, .int x3)]) (st' := []) (σ' := σ) hM 1 rfl (fun c => ?_) (fun c => ?_)
  · replace h := h.1 c
    exact Pl.live (l' := [(0, .ref 97), (1, .int x1), (3, .int x3)]) hM lv_208 ⟨show ndL _ from (by decide : List.Nodup ([0, 1, 2, 3] : List Nat)), show ndL _ from (by decide : List.Nodup ([0, 1, 3] : List Nat)), by rw [lva_208_61]; exact List.forall_mem_cons.mpr ⟨rfl, List.forall_mem_cons.mpr ⟨rfl, List.forall_mem_cons.mpr ⟨rfl, fun _ h => absurd h List.not_mem_nil⟩⟩⟩⟩ h
  · replace h := h.2 c
    refine Pl.seg (pc' := 51) (ls' := [(0, .ref 97), (1, .int x1), (2, .int x2), (3, .int x3)]) (st' := [.int x3, .ref 97]) (σ' := σ) hM 2 rfl ?_
    refine Pl.weak (Pl.cZ hM rfl rfl (by decide) (Mj := M_207) rfl rfl (fun w2 σ1 hw hz => ?_))
    replace h := h w2 σ1 hw hz
    refine Pl.br (c := w2 = 0) (a := 61) (b := 57) (ls' := [(0, .ref 97), (1, .int x1), (2, .int x2), (3, .int x3)]) (st' := []) (σ' := σ1) hM 1 rfl (fun c => ?_) (fun c => ?_)
    · replace h := h.1 c
      exact Pl.live (l' := [(0, .ref 97), (1, .int x1), (3, .int x3)]) hM lv_208 ⟨show ndL _ from (by decide : List.Nodup ([0, 1, 2, 3] : List Nat)), show ndL _ from (by decide : List.Nodup ([0, 1, 3] : List Nat)), by rw [lva_208_61]; exact List.forall_mem_cons.mpr ⟨rfl, List.forall_mem_cons.mpr ⟨rfl, List.forall_mem_cons.mpr ⟨rfl, fun _ h => absurd h List.not_mem_nil⟩⟩⟩⟩ h
    · replace h := h.2 c
      refine Pl.seg (pc' := 9) (ls' := [(3, .int (x3 + (1 : Int32))), (2, .int (1 : Int32)), (0, .ref 97), (1, .int x1)]) (st' := []) (σ' := σ1) hM 5 rfl ?_
      exact Pl.live (l' := [(0, .ref 97), (1, .int x1), (2, .int (1 : Int32)), (3, .int (x3 + (1 : Int32)))]) hM lv_208 ⟨show ndL _ from (by decide : List.Nodup ([3, 2, 0, 1] : List Nat)), show ndL _ from (by decide : List.Nodup ([0, 1, 2, 3] : List Nat)), by rw [lva_208_9]; exact List.forall_mem_cons.mpr ⟨rfl, List.forall_mem_cons.mpr ⟨rfl, List.forall_mem_cons.mpr ⟨rfl, List.forall_mem_cons.mpr ⟨rfl, fun _ h => absurd h List.not_mem_nil⟩⟩⟩⟩⟩ h
set_option maxRecDepth 100000 in
theorem p_208_61 {n d : Nat} {Q : Option Value → Sg → Prop} (σ : Sg) (x1 x3 : Int32) (h : Pl PRG n d 208 9 [(0, .ref 97), (1, .int x1), (2, .int (0 : Int32)), (3, .int (x3 + (1 : Int32)))] [] σ Q) : Pl PRG (n + 1) d 208 61 [(0, .ref 97), (1, .int x1), (3, .int x3)] [] σ Q := by
  have hM : PRG[208]? = some M_208 := rfl
  refine Pl.sg1 (pc' := 9) (ls' := [(3, .int (x3 + (1 : Int32))), (2, .int (0 : Int32)), (0, .ref 97), (1, .int x1)]) (st' := []) (σ' := σ) hM 3 rfl ?_
  exact Pl.live (l' := [(0, .ref 97), (1, .int x1), (2, .int (0 : Int32)), (3, .int (x3 + (1 : Int32)))]) hM lv_208 ⟨show ndL _ from (by decide : List.Nodup ([3, 2, 0, 1] : List Nat)), show ndL _ from (by decide : List.Nodup ([0, 1, 2, 3] : List Nat)), by rw [lva_208_9]; exact List.forall_mem_cons.mpr ⟨rfl, List.forall_mem_cons.mpr ⟨rfl, List.forall_mem_cons.mpr ⟨rfl, List.forall_mem_cons.mpr ⟨rfl, fun _ h => absurd h List.not_mem_nil⟩⟩⟩⟩⟩ h
def LV_248 : List (Nat × List Nat) := [(0, [0, 1, 2, 3, 4]), (1, [0, 1, 2, 3, 4]), (3, [0, 1, 2, 3, 4, 5]), (5, [0, 1, 2, 3, 4, 5]), (7, [0, 1, 2, 3, 4, 5]), (10, [0, 1, 2, 3, 4, 5]), (11, [0, 1, 2, 3, 4, 5]), (14, [0, 1, 2, 3, 4, 5]), (16, [0, 1, 2, 3, 4, 5]), (17, [0, 1, 2, 3, 4, 5]), (18, [0, 1, 2, 3, 4, 5]), (21, [0, 1, 2, 3, 4, 5]), (24, [0, 1, 2, 3, 4]), (25, [0, 1, 2, 3, 4]), (28, [0, 1, 2, 3, 4]), (29, [0, 1, 2, 3, 4]), (30, [0, 1, 2, 3, 4]), (31, [0, 1, 2, 3, 4]), (34, [0, 1, 2, 3, 4]), (35, [0, 1, 2, 3, 4]), (36, [0, 1, 2, 3, 4]), (39, [0, 1, 2, 3, 4]), (40, [0, 1, 2, 3, 4]), (41, [0, 1, 2, 3, 4]), (42, [0, 2, 3, 4]), (45, [0, 2, 3, 4]), (46, [0, 2, 3, 4]), (47, [0, 2, 3, 4]), (50, [0, 2, 3, 4]), (51, [0, 2, 3, 4]), (52, [0, 3, 4]), (53, [0, 3, 4]), (54, [0, 3, 4]), (57, [0, 3, 4]), (58, [0, 3, 4]), (59, [0, 4]), (60, [0, 4]), (61, [4]), (64, [4]), (65, [4]), (67, []), (68, [])]
set_option maxRecDepth 100000 in
theorem lv_248 : chkLv M_248 LV_248 = true := by decide +kernel
set_option maxRecDepth 100000 in
theorem lva_248_3 : lvA LV_248 3 = [0, 1, 2, 3, 4, 5] := by decide +kernel
set_option maxRecDepth 100000 in
theorem p_248_0 {n d : Nat} {Q : Option Value → Sg → Prop} (σ : Sg) (x1 x2 x3 x4 : Int32) (h : Pl PRG n d 248 3 [(0, .ref 97), (1, .int x1), (2, .int x2), (3, .int x3), (4, .int x4), (5, .int (0 : Int32))] [] σ Q) : Pl PRG (n + 1) d 248 0 [(0, .ref 97), (1, .int x1), (2, .int x2), (3, .int x3), (4, .int x4)] [] σ Q := by
  have hM : PRG[248]? = some M_248 := rfl
  refine Pl.sg1 (pc' := 3) (ls' := [(5, .int (0 : Int32)), (0, .ref 97), (1, .int x1), (2, .int x2), (3, .int x3), (4, .int x4)]) (st' := []) (σ' := σ) hM 1 rfl ?_
  exact Pl.live (l' := [(0, .ref 97), (1, .int x1), (2, .int x2), (3, .int x3), (4, .int x4), (5, .int (0 : Int32))]) hM lv_248 ⟨show ndL _ from (by decide : List.Nodup ([5, 0, 1, 2, 3, 4] : List Nat)), show ndL _ from (by decide : List.Nodup ([0, 1, 2, 3, 4, 5] : List Nat)), by rw [lva_248_3]; exact List.forall_mem_cons.mpr ⟨rfl, List.forall_mem_cons.mpr ⟨rfl, List.forall_mem_cons.mpr ⟨rfl, List.forall_mem_cons.mpr ⟨rfl, List.forall_mem_cons.mpr ⟨rfl, List.forall_mem_cons.mpr ⟨rfl, fun _ h => absurd h List.not_mem_nil⟩⟩⟩⟩⟩⟩⟩ h
set_option maxRecDepth 100000 in
theorem p_248_3 {n d : Nat} {Q : Option Value → Sg → Prop} (σ : Sg) (x1 x2 x3 x4 x5 : Int32) (h : (((14 : Int32) ≤ x5 → (∀ w2 σ1, RCx PRG n 212 [.ref 97, .int x1] σ (some (.int w2)) σ1 → (∀ w4 σ3, RCx PRG n 213 [.ref 97, .int x1] (s1 σ1 123 0 w2) (some (.int w4)) σ3 → Q none (s1 (s1 (s1 (s1 σ3 123 1 w4) 123 2 x2) 123 3 x3) 123 4 x4)))) ∧ (¬ (14 : Int32) ≤ x5 → (inR x5 14 = true → Pl PRG n d 248 3 [(0, .ref 97), (1, .int x1), (2, .int x2), (3, .int x3), (4, .int x4), (5, .int (x5 + (1 : Int32)))] [] (s1 σ 123 x5.toNatClampNeg (0 : Int32)) Q)))) : Pl PRG (n + 1) d 248 3 [(0, .ref 97), (1, .int x1), (2, .int x2), (3, .int x3), (4, .int x4), (5, .int x5)] [] σ Q := by
  have hM : PRG[248]? = some M_248 := rfl
  refine Pl.br1 (c := (14 : Int32) ≤ x5) (a := 24) (b := 10) (ls' := [(0, .ref 97), (1, .int x1), (2, .int x2), (3, .int x3), (4, .int x4), (5, .int x5)]) (st' := []) (σ' := σ) hM 2 rfl (fun c => ?_) (fun c => ?_)
  · replace h := h.1 c
    refine Pl.seg (pc' := 31) (ls' := [(0, .ref 97), (1, .int x1), (2, .int x2), (3, .int x3), (4, .int x4), (5, .int x5)]) (st' := [.int x1, .ref 97, .int (0 : Int32), .ref 123]) (σ' := σ) hM 5 rfl ?_
    refine Pl.weak (Pl.cI hM rfl rfl (by decide) (Mj := M_212) rfl rfl (fun w2 σ1 hw => ?_))
    replace h := h w2 σ1 hw
    refine Pl.seg (pc' := 42) (ls' := [(0, .ref 97), (1, .int x1), (2, .int x2), (3, .int x3), (4, .int x4), (5, .int x5)]) (st' := [.int x1, .ref 97, .int (1 : Int32), .ref 123]) (σ' := (s1 σ1 123 0 w2)) hM 6 rfl ?_
    refine Pl.weak (Pl.cI hM rfl rfl (by decide) (Mj := M_213) rfl rfl (fun w4 σ3 hw => ?_))
    replace h := h w4 σ3 hw
    refine Pl.seg (pc' := 68) (ls' := [(0, .ref 97), (1, .int x1), (2, .int x2), (3, .int x3), (4, .int x4), (5, .int x5)]) (st' := []) (σ' := (s1 (s1 (s1 (s1 σ3 123 1 w4) 123 2 x2) 123 3 x3) 123 4 x4)) hM 16 rfl ?_
    refine Pl.weak (Pl.ret hM rfl rfl h)
  · replace h := h.2 c
    refine Pl.seg (pc' := 17) (ls' := [(0, .ref 97), (1, .int x1), (2, .int x2), (3, .int x3), (4, .int x4), (5, .int x5)]) (st' := [.int (0 : Int32), .int x5, .ref 123]) (σ' := σ) hM 4 rfl ?_
    refine Pl.weak (Pl.iast hM rfl rfl (fun hi => ?_))
    replace h := h hi
    refine Pl.seg (pc' := 3) (ls' := [(5, .int (x5 + (1 : Int32))), (0, .ref 97), (1, .int x1), (2, .int x2), (3, .int x3), (4, .int x4)]) (st' := []) (σ' := (s1 σ 123 x5.toNatClampNeg (0 : Int32))) hM 2 rfl ?_
    exact Pl.live (l' := [(0, .ref 97), (1, .int x1), (2, .int x2), (3, .int x3), (4, .int x4), (5, .int (x5 + (1 : Int32)))]) hM lv_248 ⟨show ndL _ from (by decide : List.Nodup ([5, 0, 1, 2, 3, 4] : List Nat)), show ndL _ from (by decide : List.Nodup ([0, 1, 2, 3, 4, 5] : List Nat)), by rw [lva_248_3]; exact List.forall_mem_cons.mpr ⟨rfl, List.forall_mem_cons.mpr ⟨rfl, List.forall_mem_cons.mpr ⟨rfl, List.forall_mem_cons.mpr ⟨rfl, List.forall_mem_cons.mpr ⟨rfl, List.forall_mem_cons.mpr ⟨rfl, fun _ h => absurd h List.not_mem_nil⟩⟩⟩⟩⟩⟩⟩ h
def LV_249 : List (Nat × List Nat) := [(0, [0, 1, 2]), (1, [0, 1, 2]), (2, [0, 1, 2]), (3, [0, 1, 2]), (4, [0, 2]), (7, [0, 2]), (10, [0, 2]), (11, [0, 2]), (12, [0, 2, 3]), (13, [0, 2, 3]), (16, [0, 2, 3]), (17, [0, 2, 3]), (18, [0, 2, 3]), (21, [0, 2, 3]), (22, [0, 2, 3]), (23, [0, 2, 3]), (26, [0, 2, 3]), (28, [0, 2, 3]), (29, [0, 2, 3]), (30, [0, 2, 3]), (31, [0, 2, 3]), (34, [0, 2, 3]), (36, [0, 2, 3]), (37, [0, 2, 3]), (38, [0, 2, 3]), (39, [0, 2, 3]), (42, [0, 2, 3]), (43, [0, 2, 3]), (44, [0, 2, 3]), (46, [0, 2, 3, 4]), (48, [0, 2, 3, 4]), (51, [0, 2, 3, 4]), (52, [0, 2, 3, 4]), (54, [0, 2, 3, 4]), (55, [0, 2, 3, 4]), (56, [0, 2, 3, 4]), (57, [0, 2, 3, 4]), (58, [0, 2, 3, 4]), (61, [0, 2, 3, 4]), (62, [0, 2, 3, 4]), (65, [0, 2, 3, 4]), (67, [0, 2, 3, 4]), (68, [0, 2, 3, 4]), (70, [0, 2, 3, 4]), (73, [0, 2, 3, 4]), (74, [0, 2, 3, 4]), (77, [0, 2, 3, 4]), (80, [0, 2, 3]), (81, [0, 2, 3]), (83, [0, 2, 3, 4]), (85, [0, 2, 3, 4]), (86, [0, 2, 3, 4]), (89, [0, 2, 3, 4]), (92, [0, 2, 3, 4]), (93, [0, 2, 3, 4]), (95, [0, 2, 3, 4]), (96, [0, 2, 3, 4]), (97, [0, 2, 3, 4]), (98, [0, 2, 3, 4]), (99, [0, 2, 3, 4]), (102, [0, 2, 3, 4]), (103, [0, 2, 3, 4]), (106, [0, 2, 3, 4]), (108, [0, 2, 3, 4]), (109, [0, 2, 3, 4]), (111, [0, 2, 3, 4]), (114, [0, 2, 3, 4]), (115, [0, 2, 3, 4]), (118, [0, 2, 3, 4]), (121, [0, 2]), (122, [0, 2]), (124, [0, 2, 4]), (125, [0, 2, 4]), (127, [0, 2, 4, 5]), (129, [0, 2, 4, 5]), (130, [0, 2, 4, 5]), (133, [0, 2, 4, 5]), (134, [0, 2, 4, 5]), (137, [0, 2, 4, 5]), (138, [0, 2, 4, 5]), (141, [0, 2, 4, 5]), (142, [0, 2, 4, 5]), (143, [0, 2, 4, 5]), (145, [0, 2, 4, 5]), (148, [0, 2, 4, 5]), (149, [0, 2, 4, 5]), (152, [0, 2, 4, 5]), (155, [0, 2, 4, 5]), (158, [0, 2, 4, 5]), (161, [0, 2, 4]), (162, [0, 2, 4]), (165, [0, 2, 4]), (167, [0, 2, 4]), (169, [0, 2]), (170, [0, 2]), (171, [0, 2]), (174, [0, 2]), (176, [0, 2]), (177, [0, 2]), (178, [0, 2]), (179, [0, 2]), (182, [0, 2]), (185, [0, 2]), (186, [0, 2]), (189, [0, 2]), (190, [0, 2]), (191, [0, 2]), (193, [0, 2, 5]), (195, [0, 2, 5]), (196, [0, 2, 5]), (199, [0, 2, 5]), (200, [0, 2, 5]), (203, [0, 2, 5]), (205, [0, 2, 5]), (207, [0, 2, 5]), (208, [0, 2, 5]), (209, [0, 2, 5]), (210, [0, 2, 5]), (212, [0, 2, 5]), (215, [0, 2, 5]), (216, [0, 2, 5]), (219, [0, 2, 5]), (220, [0, 2, 5]), (223, [0, 2, 5]), (226, [])]
set_option maxRecDepth 100000 in
theorem lv_249 : chkLv M_249 LV_249 = true := by decide +kernel
set_option maxRecDepth 100000 in
theorem lva_249_46 : lvA LV_249 46 = [0, 2, 3, 4] := by decide +kernel
set_option maxRecDepth 100000 in
theorem lva_249_74 : lvA LV_249 74 = [0, 2, 3, 4] := by decide +kernel
set_option maxRecDepth 100000 in
theorem lva_249_83 : lvA LV_249 83 = [0, 2, 3, 4] := by decide +kernel
set_option maxRecDepth 100000 in
theorem lva_249_115 : lvA LV_249 115 = [0, 2, 3, 4] := by decide +kernel
set_option maxRecDepth 100000 in
theorem lva_249_127 : lvA LV_249 127 = [0, 2, 4, 5] := by decide +kernel
set_option maxRecDepth 100000 in
theorem lva_249_155 : lvA LV_249 155 = [0, 2, 4, 5] := by decide +kernel
set_option maxRecDepth 100000 in
theorem lva_249_193 : lvA LV_249 193 = [0, 2, 5] := by decide +kernel
set_option maxRecDepth 100000 in
theorem p_249_0 {n d : Nat} {Q : Option Value → Sg → Prop} (σ : Sg) (x1 x2 : Int32) (h : (∀ w2 σ1, RCx PRG n 212 [.ref 97, .int x1] σ (some (.int w2)) σ1 → (∀ w4 σ3, RCx PRG n 215 [.ref 97, .int w2] σ1 (some (.int w4)) σ3 → (∀ w6 σ5, RCx PRG n 209 [.int (x2 &&& w4)] σ3 (some (.int w6)) σ5 → (∀ w8 σ7, RCx PRG n 210 [.ref 97] (s1 (s1 (s1 σ5 123 5 w6) 123 6 (0 : Int32)) 123 7 (0 : Int32)) (some (.int w8)) σ7 → Pl PRG n d 249 46 [(0, .ref 97), (2, .int x2), (3, .int (x2 &&& w4)), (4, .int (w8 - (1 : Int32)))] [] σ7 Q))))) : Pl PRG (n + 1) d 249 0 [(0, .ref 97), (1, .int x1), (2, .int x2)] [] σ Q := by
  have hM : PRG[249]? = some M_249 := rfl
  refine Pl.sg1 (pc' := 4) (ls' := [(0, .ref 97), (1, .int x1), (2, .int x2)]) (st' := [.int x1, .ref 97, .ref 97, .int x2]) (σ' := σ) hM 3 rfl ?_
  refine Pl.weak (Pl.cI hM rfl rfl (by decide) (Mj := M_212) rfl rfl (fun w2 σ1 hw => ?_))
  replace h := h w2 σ1 hw
  refine Pl.weak (Pl.cI hM rfl rfl (by decide) (Mj := M_215) rfl rfl (fun w4 σ3 hw => ?_))
  replace h := h w4 σ3 hw
  refine Pl.seg (pc' := 18) (ls' := [(3, .int (x2 &&& w4)), (0, .ref 97), (1, .int x1), (2, .int x2)]) (st' := [.int (x2 &&& w4), .int (5 : Int32), .ref 123]) (σ' := σ3) hM 6 rfl ?_
  refine Pl.weak (Pl.cI hM rfl rfl (by decide) (Mj := M_209) rfl rfl (fun w6 σ5 hw => ?_))
  replace h := h w6 σ5 hw
  refine Pl.seg (pc' := 39) (ls' := [(3, .int (x2 &&& w4)), (0, .ref 97), (1, .int x1), (2, .int x2)]) (st' := [.ref 97]) (σ' := (s1 (s1 (s1 σ5 123 5 w6) 123 6 (0 : Int32)) 123 7 (0 : Int32))) hM 12 rfl ?_
  refine Pl.weak (Pl.cI hM rfl rfl (by decide) (Mj := M_210) rfl rfl (fun w8 σ7 hw => ?_))
  replace h := h w8 σ7 hw
  refine Pl.seg (pc' := 46) (ls' := [(4, .int (w8 - (1 : Int32))), (3, .int (x2 &&& w4)), (0, .ref 97), (1, .int x1), (2, .int x2)]) (st' := []) (σ' := σ7) hM 3 rfl ?_
  exact Pl.live (l' := [(0, .ref 97), (2, .int x2), (3, .int (x2 &&& w4)), (4, .int (w8 - (1 : Int32)))]) hM lv_249 ⟨show ndL _ from (by decide : List.Nodup ([4, 3, 0, 1, 2] : List Nat)), show ndL _ from (by decide : List.Nodup ([0, 2, 3, 4] : List Nat)), by rw [lva_249_46]; exact List.forall_mem_cons.mpr ⟨rfl, List.forall_mem_cons.mpr ⟨rfl, List.forall_mem_cons.mpr ⟨rfl, List.forall_mem_cons.mpr ⟨rfl, fun _ h => absurd h List.not_mem_nil⟩⟩⟩⟩⟩ h
set_option maxRecDepth 100000 in
theorem p_249_46 {n d : Nat} {Q : Option Value → Sg → Prop} (σ : Sg) (x2 x3 x4 : Int32) (h : ((x4 < 0 → Pl PRG n d 249 83 [(0, .ref 97), (2, .int x2), (3, .int x3), (4, .int (0 : Int32))] [] σ Q) ∧ (¬ x4 < 0 → ((((x3 >>> (x4 &&& 31)) &&& (1 : Int32)) = (1 : Int32) → (∀ w2 σ1, RCx PRG n 213 [.ref 97, .int x4] σ (some (.int w2)) σ1 → Pl PRG n d 249 74 [(0, .ref 97), (2, .int x2), (3, .int x3), (4, .int x4)] [] (s1 σ1 123 7 w2) Q)) ∧ (¬ ((x3 >>> (x4 &&& 31)) &&& (1 : Int32)) = (1 : Int32) → Pl PRG n d 249 74 [(0, .ref 97), (2, .int x2), (3, .int x3), (4, .int x4)] [] σ Q))))) : Pl PRG (n + 1) d 249 46 [(0, .ref 97), (2, .int x2), (3, .int x3), (4, .int x4)] [] σ Q := by
  have hM : PRG[249]? = some M_249 := rfl
  refine Pl.br1 (c := x4 < 0) (a := 80) (b := 51) (ls' := [(0, .ref 97), (2, .int x2), (3, .int x3), (4, .int x4)]) (st' := []) (σ' := σ) hM 1 rfl (fun c => ?_) (fun c => ?_)
  · replace h := h.1 c
    refine Pl.seg (pc' := 83) (ls' := [(4, .int (0 : Int32)), (0, .ref 97), (2, .int x2), (3, .int x3)]) (st' := []) (σ' := σ) hM 2 rfl ?_
    exact Pl.live (l' := [(0, .ref 97), (2, .int x2), (3, .int x3), (4, .int (0 : Int32))]) hM lv_249 ⟨show ndL _ from (by decide : List.Nodup ([4, 0, 2, 3] : List Nat)), show ndL _ from (by decide : List.Nodup ([0, 2, 3, 4] : List Nat)), by rw [lva_249_83]; exact List.forall_mem_cons.mpr ⟨rfl, List.forall_mem_cons.mpr ⟨rfl, List.forall_mem_cons.mpr ⟨rfl, List.forall_mem_cons.mpr ⟨rfl, fun _ h => absurd h List.not_mem_nil⟩⟩⟩⟩⟩ h
  · replace h := h.2 c
    refine Pl.brN (c := ((x3 >>> (x4 &&& 31)) &&& (1 : Int32)) = (1 : Int32)) (a := 74) (b := 61) (ls' := [(0, .ref 97), (2, .int x2), (3, .int x3), (4, .int x4)]) (st' := []) (σ' := σ) hM 7 rfl (fun c => ?_) (fun c => ?_)
    · replace h := h.2 c
      exact Pl.live (l' := [(0, .ref 97), (2, .int x2), (3, .int x3), (4, .int x4)]) hM lv_249 ⟨show ndL _ from (by decide : List.Nodup ([0, 2, 3, 4] : List Nat)), show ndL _ from (by decide : List.Nodup ([0, 2, 3, 4] : List Nat)), by rw [lva_249_74]; exact List.forall_mem_cons.mpr ⟨rfl, List.forall_mem_cons.mpr ⟨rfl, List.forall_mem_cons.mpr ⟨rfl, List.forall_mem_cons.mpr ⟨rfl, fun _ h => absurd h List.not_mem_nil⟩⟩⟩⟩⟩ h
    · replace h := h.1 c
      refine Pl.seg (pc' := 70) (ls' := [(0, .ref 97), (2, .int x2), (3, .int x3), (4, .int x4)]) (st' := [.int x4, .ref 97, .int (7 : Int32), .ref 123]) (σ' := σ) hM 5 rfl ?_
      refine Pl.weak (Pl.cI hM rfl rfl (by decide) (Mj := M_213) rfl rfl (fun w2 σ1 hw => ?_))
      replace h := h w2 σ1 hw
      refine Pl.seg (pc' := 74) (ls' := [(0, .ref 97), (2, .int x2), (3, .int x3), (4, .int x4)]) (st' := []) (σ' := (s1 σ1 123 7 w2)) hM 1 rfl ?_
      exact Pl.live (l' := [(0, .ref 97), (2, .int x2), (3, .int x3), (4, .int x4)]) hM lv_249 ⟨show ndL _ from (by decide : List.Nodup ([0, 2, 3, 4] : List Nat)), show ndL _ from (by decide : List.Nodup ([0, 2, 3, 4] : List Nat)), by rw [lva_249_74]; exact List.forall_mem_cons.mpr ⟨rfl, List.forall_mem_cons.mpr ⟨rfl, List.forall_mem_cons.mpr ⟨rfl, List.forall_mem_cons.mpr ⟨rfl, fun _ h => absurd h List.not_mem_nil⟩⟩⟩⟩⟩ h
set_option maxRecDepth 100000 in
theorem p_249_83 {n d : Nat} {Q : Option Value → Sg → Prop} (σ : Sg) (x2 x3 x4 : Int32) (h : (∀ w2 σ1, RCx PRG n 210 [.ref 97] σ (some (.int w2)) σ1 → ((w2 ≤ x4 → Pl PRG n d 249 127 [(0, .ref 97), (2, .int x2), (4, .int (0 : Int32)), (5, .int (0 : Int32))] [] σ1 Q) ∧ (¬ w2 ≤ x4 → ((((x3 >>> (x4 &&& 31)) &&& (1 : Int32)) = (1 : Int32) → (∀ w4 σ3, RCx PRG n 213 [.ref 97, .int x4] σ1 (some (.int w4)) σ3 → Pl PRG n d 249 115 [(0, .ref 97), (2, .int x2), (3, .int x3), (4, .int x4)] [] (s1 σ3 123 6 w4) Q)) ∧ (¬ ((x3 >>> (x4 &&& 31)) &&& (1 : Int32)) = (1 : Int32) → Pl PRG n d 249 115 [(0, .ref 97), (2, .int x2), (3, .int x3), (4, .int x4)] [] σ1 Q)))))) : Pl PRG (n + 1) d 249 83 [(0, .ref 97), (2, .int x2), (3, .int x3), (4, .int x4)] [] σ Q := by
  have hM : PRG[249]? = some M_249 := rfl
  refine Pl.sg1 (pc' := 86) (ls' := [(0, .ref 97), (2, .int x2), (3, .int x3), (4, .int x4)]) (st' := [.ref 97, .int x4]) (σ' := σ) hM 1 rfl ?_
  refine Pl.weak (Pl.cI hM rfl rfl (by decide) (Mj := M_210) rfl rfl (fun w2 σ1 hw => ?_))
  replace h := h w2 σ1 hw
  refine Pl.br (c := w2 ≤ x4) (a := 121) (b := 92) (ls' := [(0, .ref 97), (2, .int x2), (3, .int x3), (4, .int x4)]) (st' := []) (σ' := σ1) hM 1 rfl (fun c => ?_) (fun c => ?_)
  · replace h := h.1 c
    refine Pl.seg (pc' := 127) (ls' := [(5, .int (0 : Int32)), (4, .int (0 : Int32)), (0, .ref 97), (2, .int x2), (3, .int x3)]) (st' := []) (σ' := σ1) hM 4 rfl ?_
    exact Pl.live (l' := [(0, .ref 97), (2, .int x2), (4, .int (0 : Int32)), (5, .int (0 : Int32))]) hM lv_249 ⟨show ndL _ from (by decide : List.Nodup ([5, 4, 0, 2, 3] : List Nat)), show ndL _ from (by decide : List.Nodup ([0, 2, 4, 5] : List Nat)), by rw [lva_249_127]; exact List.forall_mem_cons.mpr ⟨rfl, List.forall_mem_cons.mpr ⟨rfl, List.forall_mem_cons.mpr ⟨rfl, List.forall_mem_cons.mpr ⟨rfl, fun _ h => absurd h List.not_mem_nil⟩⟩⟩⟩⟩ h
  · replace h := h.2 c
    refine Pl.brN (c := ((x3 >>> (x4 &&& 31)) &&& (1 : Int32)) = (1 : Int32)) (a := 115) (b := 102) (ls' := [(0, .ref 97), (2, .int x2), (3, .int x3), (4, .int x4)]) (st' := []) (σ' := σ1) hM 7 rfl (fun c => ?_) (fun c => ?_)
    · replace h := h.2 c
      exact Pl.live (l' := [(0, .ref 97), (2, .int x2), (3, .int x3), (4, .int x4)]) hM lv_249 ⟨show ndL _ from (by decide : List.Nodup ([0, 2, 3, 4] : List Nat)), show ndL _ from (by decide : List.Nodup ([0, 2, 3, 4] : List Nat)), by rw [lva_249_115]; exact List.forall_mem_cons.mpr ⟨rfl, List.forall_mem_cons.mpr ⟨rfl, List.forall_mem_cons.mpr ⟨rfl, List.forall_mem_cons.mpr ⟨rfl, fun _ h => absurd h List.not_mem_nil⟩⟩⟩⟩⟩ h
    · replace h := h.1 c
      refine Pl.seg (pc' := 111) (ls' := [(0, .ref 97), (2, .int x2), (3, .int x3), (4, .int x4)]) (st' := [.int x4, .ref 97, .int (6 : Int32), .ref 123]) (σ' := σ1) hM 5 rfl ?_
      refine Pl.weak (Pl.cI hM rfl rfl (by decide) (Mj := M_213) rfl rfl (fun w4 σ3 hw => ?_))
      replace h := h w4 σ3 hw
      refine Pl.seg (pc' := 115) (ls' := [(0, .ref 97), (2, .int x2), (3, .int x3), (4, .int x4)]) (st' := []) (σ' := (s1 σ3 123 6 w4)) hM 1 rfl ?_
      exact Pl.live (l' := [(0, .ref 97), (2, .int x2), (3, .int x3), (4, .int x4)]) hM lv_249 ⟨show ndL _ from (by decide : List.Nodup ([0, 2, 3, 4] : List Nat)), show ndL _ from (by decide : List.Nodup ([0, 2, 3, 4] : List Nat)), by rw [lva_249_115]; exact List.forall_mem_cons.mpr ⟨rfl, List.forall_mem_cons.mpr ⟨rfl, List.forall_mem_cons.mpr ⟨rfl, List.forall_mem_cons.mpr ⟨rfl, fun _ h => absurd h List.not_mem_nil⟩⟩⟩⟩⟩ h
set_option maxRecDepth 100000 in
theorem p_249_74 {n d : Nat} {Q : Option Value → Sg → Prop} (σ : Sg) (x2 x3 x4 : Int32) (h : Pl PRG n d 249 46 [(0, .ref 97), (2, .int x2), (3, .int x3), (4, .int (x4 + (-1 : Int32)))] [] σ Q) : Pl PRG (n + 1) d 249 74 [(0, .ref 97), (2, .int x2), (3, .int x3), (4, .int x4)] [] σ Q := by
  have hM : PRG[249]? = some M_249 := rfl
  refine Pl.sg1 (pc' := 46) (ls' := [(4, .int (x4 + (-1 : Int32))), (0, .ref 97), (2, .int x2), (3, .int x3)]) (st' := []) (σ' := σ) hM 1 rfl ?_
  exact Pl.live (l' := [(0, .ref 97), (2, .int x2), (3, .int x3), (4, .int (x4 + (-1 : Int32)))]) hM lv_249 ⟨show ndL _ from (by decide : List.Nodup ([4, 0, 2, 3] : List Nat)), show ndL _ from (by decide : List.Nodup ([0, 2, 3, 4] : List Nat)), by rw [lva_249_46]; exact List.forall_mem_cons.mpr ⟨rfl, List.forall_mem_cons.mpr ⟨rfl, List.forall_mem_cons.mpr ⟨rfl, List.forall_mem_cons.mpr ⟨rfl, fun _ h => absurd h List.not_mem_nil⟩⟩⟩⟩⟩ h
set_option maxRecDepth 100000 in
theorem p_249_127 {n d : Nat} {Q : Option Value → Sg → Prop} (σ : Sg) (x2 x4 x5 : Int32) (h : (inR (σ.1 97 18) 2 = true → (((σ.1 106 (σ.1 97 18).toNatClampNeg) ≤ x5 → (∀ w2 σ1, RCx PRG n 214 [.ref 97] (s1 σ 123 8 x4) (some (.int w2)) σ1 → (∀ w4 σ3, RCx PRG n 215 [.ref 97, .int w2] σ1 (some (.int w4)) σ3 → (∀ w6 σ5, RCx PRG n 209 [.int (x2 &&& w4)] σ3 (some (.int w6)) σ5 → Pl PRG n d 249 193 [(0, .ref 97), (2, .int x2), (5, .int (0 : Int32))] [] (s1 σ5 123 9 w6) Q)))) ∧ (¬ (σ.1 106 (σ.1 97 18).toNatClampNeg) ≤ x5 → (∀ w8 σ7, RCx PRG n 215 [.ref 97, .int x5] σ (some (.int w8)) σ7 → (((x2 &&& w8) = 0 → Pl PRG n d 249 155 [(0, .ref 97), (2, .int x2), (4, .int (x4 + (1 : Int32))), (5, .int x5)] [] σ7 Q) ∧ (¬ (x2 &&& w8) = 0 → Pl PRG n d 249 155 [(0, .ref 97), (2, .int x2), (4, .int x4), (5, .int x5)] [] σ7 Q))))))) : Pl PRG (n + 1) d 249 127 [(0, .ref 97), (2, .int x2), (4, .int x4), (5, .int x5)] [] σ Q := by
  have hM : PRG[249]? = some M_249 := rfl
  refine Pl.sg1 (pc' := 137) (ls' := [(0, .ref 97), (2, .int x2), (4, .int x4), (5, .int x5)]) (st' := [.int (σ.1 97 18), .ref 106, .int x5]) (σ' := σ) hM 4 rfl ?_
  refine Pl.weak (Pl.iald hM rfl rfl (fun hi => ?_))
  replace h := h hi
  refine Pl.br (c := (σ.1 106 (σ.1 97 18).toNatClampNeg) ≤ x5) (a := 161) (b := 141) (ls' := [(0, .ref 97), (2, .int x2), (4, .int x4), (5, .int x5)]) (st' := []) (σ' := σ) hM 1 rfl (fun c => ?_) (fun c => ?_)
  · replace h := h.1 c
    refine Pl.seg (pc' := 179) (ls' := [(0, .ref 97), (2, .int x2), (4, .int x4), (5, .int x5)]) (st' := [.ref 97, .ref 97, .int x2, .int (9 : Int32), .ref 123]) (σ' := (s1 σ 123 8 x4)) hM 11 rfl ?_
    refine Pl.weak (Pl.cI hM rfl rfl (by decide) (Mj := M_214) rfl rfl (fun w2 σ1 hw => ?_))
    replace h := h w2 σ1 hw
    refine Pl.weak (Pl.cI hM rfl rfl (by decide) (Mj := M_215) rfl rfl (fun w4 σ3 hw => ?_))
    replace h := h w4 σ3 hw
    refine Pl.seg (pc' := 186) (ls' := [(0, .ref 97), (2, .int x2), (4, .int x4), (5, .int x5)]) (st' := [.int (x2 &&& w4), .int (9 : Int32), .ref 123]) (σ' := σ3) hM 1 rfl ?_
    refine Pl.weak (Pl.cI hM rfl rfl (by decide) (Mj := M_209) rfl rfl (fun w6 σ5 hw => ?_))
    replace h := h w6 σ5 hw
    refine Pl.seg (pc' := 193) (ls' := [(5, .int (0 : Int32)), (0, .ref 97), (2, .int x2), (4, .int x4)]) (st' := []) (σ' := (s1 σ5 123 9 w6)) hM 3 rfl ?_
    exact Pl.live (l' := [(0, .ref 97), (2, .int x2), (5, .int (0 : Int32))]) hM lv_249 ⟨show ndL _ from (by decide : List.Nodup ([5, 0, 2, 4] : List Nat)), show ndL _ from (by decide : List.Nodup ([0, 2, 5] : List Nat)), by rw [lva_249_193]; exact List.forall_mem_cons.mpr ⟨rfl, List.forall_mem_cons.mpr ⟨rfl, List.forall_mem_cons.mpr ⟨rfl, fun _ h => absurd h List.not_mem_nil⟩⟩⟩⟩ h
  · replace h := h.2 c
    refine Pl.seg (pc' := 145) (ls' := [(0, .ref 97), (2, .int x2), (4, .int x4), (5, .int x5)]) (st' := [.int x5, .ref 97, .int x2]) (σ' := σ) hM 3 rfl ?_
    refine Pl.weak (Pl.cI hM rfl rfl (by decide) (Mj := M_215) rfl rfl (fun w8 σ7 hw => ?_))
    replace h := h w8 σ7 hw
    refine Pl.brN (c := (x2 &&& w8) = 0) (a := 155) (b := 152) (ls' := [(0, .ref 97), (2, .int x2), (4, .int x4), (5, .int x5)]) (st' := []) (σ' := σ7) hM 2 rfl (fun c => ?_) (fun c => ?_)
    · replace h := h.2 c
      exact Pl.live (l' := [(0, .ref 97), (2, .int x2), (4, .int x4), (5, .int x5)]) hM lv_249 ⟨show ndL _ from (by decide : List.Nodup ([0, 2, 4, 5] : List Nat)), show ndL _ from (by decide : List.Nodup ([0, 2, 4, 5] : List Nat)), by rw [lva_249_155]; exact List.forall_mem_cons.mpr ⟨rfl, List.forall_mem_cons.mpr ⟨rfl, List.forall_mem_cons.mpr ⟨rfl, List.forall_mem_cons.mpr ⟨rfl, fun _ h => absurd h List.not_mem_nil⟩⟩⟩⟩⟩ h
    · replace h := h.1 c
      refine Pl.seg (pc' := 155) (ls' := [(4, .int (x4 + (1 : Int32))), (0, .ref 97), (2, .int x2), (5, .int x5)]) (st' := []) (σ' := σ7) hM 1 rfl ?_
      exact Pl.live (l' := [(0, .ref 97), (2, .int x2), (4, .int (x4 + (1 : Int32))), (5, .int x5)]) hM lv_249 ⟨show ndL _ from (by decide : List.Nodup ([4, 0, 2, 5] : List Nat)), show ndL _ from (by decide : List.Nodup ([0, 2, 4, 5] : List Nat)), by rw [lva_249_155]; exact List.forall_mem_cons.mpr ⟨rfl, List.forall_mem_cons.mpr ⟨rfl, List.forall_mem_cons.mpr ⟨rfl, List.forall_mem_cons.mpr ⟨rfl, fun _ h => absurd h List.not_mem_nil⟩⟩⟩⟩⟩ h
set_option maxRecDepth 100000 in
theorem p_249_115 {n d : Nat} {Q : Option Value → Sg → Prop} (σ : Sg) (x2 x3 x4 : Int32) (h : Pl PRG n d 249 83 [(0, .ref 97), (2, .int x2), (3, .int x3), (4, .int (x4 + (1 : Int32)))] [] σ Q) : Pl PRG (n + 1) d 249 115 [(0, .ref 97), (2, .int x2), (3, .int x3), (4, .int x4)] [] σ Q := by
  have hM : PRG[249]? = some M_249 := rfl
  refine Pl.sg1 (pc' := 83) (ls' := [(4, .int (x4 + (1 : Int32))), (0, .ref 97), (2, .int x2), (3, .int x3)]) (st' := []) (σ' := σ) hM 1 rfl ?_
  exact Pl.live (l' := [(0, .ref 97), (2, .int x2), (3, .int x3), (4, .int (x4 + (1 : Int32)))]) hM lv_249 ⟨show ndL _ from (by decide : List.Nodup ([4, 0, 2, 3] : List Nat)), show ndL _ from (by decide : List.Nodup ([0, 2, 3, 4] : List Nat)), by rw [lva_249_83]; exact List.forall_mem_cons.mpr ⟨rfl, List.forall_mem_cons.mpr ⟨rfl, List.forall_mem_cons.mpr ⟨rfl, List.forall_mem_cons.mpr ⟨rfl, fun _ h => absurd h List.not_mem_nil⟩⟩⟩⟩⟩ h
set_option maxRecDepth 100000 in
theorem p_249_193 {n d : Nat} {Q : Option Value → Sg → Prop} (σ : Sg) (x2 x5 : Int32) (h : (((4 : Int32) ≤ x5 → Q none σ) ∧ (¬ (4 : Int32) ≤ x5 → (∀ w2 σ1, RCx PRG n 215 [.ref 97, .int x5] σ (some (.int w2)) σ1 → (∀ w4 σ3, RCx PRG n 209 [.int (x2 &&& w2)] σ1 (some (.int w4)) σ3 → (inR ((10 : Int32) + x5) 14 = true → Pl PRG n d 249 193 [(0, .ref 97), (2, .int x2), (5, .int (x5 + (1 : Int32)))] [] (s1 σ3 123 ((10 : Int32) + x5).toNatClampNeg w4) Q)))))) : Pl PRG (n + 1) d 249 193 [(0, .ref 97), (2, .int x2), (5, .int x5)] [] σ Q := by
  have hM : PRG[249]? = some M_249 := rfl
  refine Pl.br1 (c := (4 : Int32) ≤ x5) (a := 226) (b := 199) (ls' := [(0, .ref 97), (2, .int x2), (5, .int x5)]) (st' := []) (σ' := σ) hM 2 rfl (fun c => ?_) (fun c => ?_)
  · replace h := h.1 c
    refine Pl.weak (Pl.ret hM rfl rfl h)
  · replace h := h.2 c
    refine Pl.seg (pc' := 212) (ls' := [(0, .ref 97), (2, .int x2), (5, .int x5)]) (st' := [.int x5, .ref 97, .int x2, .int ((10 : Int32) + x5), .ref 123]) (σ' := σ) hM 8 rfl ?_
    refine Pl.weak (Pl.cI hM rfl rfl (by decide) (Mj := M_215) rfl rfl (fun w2 σ1 hw => ?_))
    replace h := h w2 σ1 hw
    refine Pl.seg (pc' := 216) (ls' := [(0, .ref 97), (2, .int x2), (5, .int x5)]) (st' := [.int (x2 &&& w2), .int ((10 : Int32) + x5), .ref 123]) (σ' := σ1) hM 1 rfl ?_
    refine Pl.weak (Pl.cI hM rfl rfl (by decide) (Mj := M_209) rfl rfl (fun w4 σ3 hw => ?_))
    replace h := h w4 σ3 hw
    refine Pl.weak (Pl.iast hM rfl rfl (fun hi => ?_))
    replace h := h hi
    refine Pl.seg (pc' := 193) (ls' := [(5, .int (x5 + (1 : Int32))), (0, .ref 97), (2, .int x2)]) (st' := []) (σ' := (s1 σ3 123 ((10 : Int32) + x5).toNatClampNeg w4)) hM 2 rfl ?_
    exact Pl.live (l' := [(0, .ref 97), (2, .int x2), (5, .int (x5 + (1 : Int32)))]) hM lv_249 ⟨show ndL _ from (by decide : List.Nodup ([5, 0, 2] : List Nat)), show ndL _ from (by decide : List.Nodup ([0, 2, 5] : List Nat)), by rw [lva_249_193]; exact List.forall_mem_cons.mpr ⟨rfl, List.forall_mem_cons.mpr ⟨rfl, List.forall_mem_cons.mpr ⟨rfl, fun _ h => absurd h List.not_mem_nil⟩⟩⟩⟩ h
set_option maxRecDepth 100000 in
theorem p_249_155 {n d : Nat} {Q : Option Value → Sg → Prop} (σ : Sg) (x2 x4 x5 : Int32) (h : Pl PRG n d 249 127 [(0, .ref 97), (2, .int x2), (4, .int x4), (5, .int (x5 + (1 : Int32)))] [] σ Q) : Pl PRG (n + 1) d 249 155 [(0, .ref 97), (2, .int x2), (4, .int x4), (5, .int x5)] [] σ Q := by
  have hM : PRG[249]? = some M_249 := rfl
  refine Pl.sg1 (pc' := 127) (ls' := [(5, .int (x5 + (1 : Int32))), (0, .ref 97), (2, .int x2), (4, .int x4)]) (st' := []) (σ' := σ) hM 1 rfl ?_
  exact Pl.live (l' := [(0, .ref 97), (2, .int x2), (4, .int x4), (5, .int (x5 + (1 : Int32)))]) hM lv_249 ⟨show ndL _ from (by decide : List.Nodup ([5, 0, 2, 4] : List Nat)), show ndL _ from (by decide : List.Nodup ([0, 2, 4, 5] : List Nat)), by rw [lva_249_127]; exact List.forall_mem_cons.mpr ⟨rfl, List.forall_mem_cons.mpr ⟨rfl, List.forall_mem_cons.mpr ⟨rfl, List.forall_mem_cons.mpr ⟨rfl, fun _ h => absurd h List.not_mem_nil⟩⟩⟩⟩⟩ h
def LV_250 : List (Nat × List Nat) := [(0, [0, 1, 2, 3]), (2, [0, 1, 2, 3]), (3, [0, 1, 2, 3]), (6, [0, 1, 2, 3]), (7, [0, 1, 2, 3]), (8, [0, 2, 3]), (9, [0, 2, 3]), (11, [0, 2, 3, 4]), (12, [0, 2, 3, 4]), (15, [0, 2, 3, 4]), (17, [0, 2, 3, 4]), (18, [0, 2, 3, 4]), (19, [0, 2, 4]), (22, [0, 2, 4]), (23, [0, 2, 4]), (26, [0, 2, 4]), (28, [0, 2, 4]), (29, [0, 2, 4]), (30, [0, 2, 4]), (33, [0, 2, 4]), (34, [2, 4]), (37, [2, 4]), (39, [2]), (40, [2]), (41, []), (42, []), (43, []), (46, []), (47, []), (50, []), (51, [])]
set_option maxRecDepth 100000 in
theorem lv_250 : chkLv M_250 LV_250 = true := by decide +kernel
set_option maxRecDepth 100000 in
theorem lva_250_46 : lvA LV_250 46 = [] := by decide +kernel
set_option maxRecDepth 100000 in
theorem lva_250_50 : lvA LV_250 50 = [] := by decide +kernel
set_option maxRecDepth 100000 in
theorem p_250_0 {n d : Nat} {Q : Option Value → Sg → Prop} (σ : Sg) (x1 x2 x3 : Int32) (h : (inR (((6 : Int32) * (σ.1 97 18)) + x1) 12 = true → (((σ.1 111 (((6 : Int32) * (σ.1 97 18)) + x1).toNatClampNeg) = x3 → (inR (((6 : Int32) * (σ.1 97 18)) + x1) 12 = true → (((σ.1 110 (((6 : Int32) * (σ.1 97 18)) + x1).toNatClampNeg) = (2 : Int32) → Pl PRG n d 250 46 [] [] σ Q) ∧ (¬ (σ.1 110 (((6 : Int32) * (σ.1 97 18)) + x1).toNatClampNeg) = (2 : Int32) → (inR (((6 : Int32) * (σ.1 97 18)) + x1) 12 = true → (((σ.1 110 (((6 : Int32) * (σ.1 97 18)) + x1).toNatClampNeg) = (x2 - x2 / (2 : Int32) * (2 : Int32)) → Pl PRG n d 250 46 [] [] σ Q) ∧ (¬ (σ.1 110 (((6 : Int32) * (σ.1 97 18)) + x1).toNatClampNeg) = (x2 - x2 / (2 : Int32) * (2 : Int32)) → Pl PRG n d 250 50 [] [] σ Q))))))) ∧ (¬ (σ.1 111 (((6 : Int32) * (σ.1 97 18)) + x1).toNatClampNeg) = x3 → Pl PRG n d 250 50 [] [] σ Q)))) : Pl PRG (n + 1) d 250 0 [(0, .ref 97), (1, .int x1), (2, .int x2), (3, .int x3)] [] σ Q := by
  have hM : PRG[250]? = some M_250 := rfl
  refine Pl.sg1 (pc' := 17) (ls' := [(4, .int (((6 : Int32) * (σ.1 97 18)) + x1)), (0, .ref 97), (1, .int x1), (2, .int x2), (3, .int x3)]) (st' := [.int (((6 : Int32) * (σ.1 97 18)) + x1), .ref 111]) (σ' := σ) hM 9 rfl ?_
  refine Pl.weak (Pl.iald hM rfl rfl (fun hi => ?_))
  replace h := h hi
  refine Pl.brN (c := (σ.1 111 (((6 : Int32) * (σ.1 97 18)) + x1).toNatClampNeg) = x3) (a := 50) (b := 22) (ls' := [(4, .int (((6 : Int32) * (σ.1 97 18)) + x1)), (0, .ref 97), (1, .int x1), (2, .int x2), (3, .int x3)]) (st' := []) (σ' := σ) hM 2 rfl (fun c => ?_) (fun c => ?_)
  · replace h := h.2 c
    exact Pl.live (l' := []) hM lv_250 ⟨show ndL _ from (by decide : List.Nodup ([4, 0, 1, 2, 3] : List Nat)), show ndL _ from (by decide : List.Nodup ([] : List Nat)), by rw [lva_250_50]; exact fun _ h => absurd h List.not_mem_nil⟩ h
  · replace h := h.1 c
    refine Pl.seg (pc' := 28) (ls' := [(4, .int (((6 : Int32) * (σ.1 97 18)) + x1)), (0, .ref 97), (1, .int x1), (2, .int x2), (3, .int x3)]) (st' := [.int (((6 : Int32) * (σ.1 97 18)) + x1), .ref 110]) (σ' := σ) hM 3 rfl ?_
    refine Pl.weak (Pl.iald hM rfl rfl (fun hi => ?_))
    replace h := h hi
    refine Pl.br (c := (σ.1 110 (((6 : Int32) * (σ.1 97 18)) + x1).toNatClampNeg) = (2 : Int32)) (a := 46) (b := 33) (ls' := [(4, .int (((6 : Int32) * (σ.1 97 18)) + x1)), (0, .ref 97), (1, .int x1), (2, .int x2), (3, .int x3)]) (st' := []) (σ' := σ) hM 2 rfl (fun c => ?_) (fun c => ?_)
    · replace h := h.1 c
      exact Pl.live (l' := []) hM lv_250 ⟨show ndL _ from (by decide : List.Nodup ([4, 0, 1, 2, 3] : List Nat)), show ndL _ from (by decide : List.Nodup ([] : List Nat)), by rw [lva_250_46]; exact fun _ h => absurd h List.not_mem_nil⟩ h
    · replace h := h.2 c
      refine Pl.seg (pc' := 39) (ls' := [(4, .int (((6 : Int32) * (σ.1 97 18)) + x1)), (0, .ref 97), (1, .int x1), (2, .int x2), (3, .int x3)]) (st' := [.int (((6 : Int32) * (σ.1 97 18)) + x1), .ref 110]) (σ' := σ) hM 3 rfl ?_
      refine Pl.weak (Pl.iald hM rfl rfl (fun hi => ?_))
      replace h := h hi
      refine Pl.brN (c := (σ.1 110 (((6 : Int32) * (σ.1 97 18)) + x1).toNatClampNeg) = (x2 - x2 / (2 : Int32) * (2 : Int32))) (a := 50) (b := 46) (ls' := [(4, .int (((6 : Int32) * (σ.1 97 18)) + x1)), (0, .ref 97), (1, .int x1), (2, .int x2), (3, .int x3)]) (st' := []) (σ' := σ) hM 4 rfl (fun c => ?_) (fun c => ?_)
      · replace h := h.2 c
        exact Pl.live (l' := []) hM lv_250 ⟨show ndL _ from (by decide : List.Nodup ([4, 0, 1, 2, 3] : List Nat)), show ndL _ from (by decide : List.Nodup ([] : List Nat)), by rw [lva_250_50]; exact fun _ h => absurd h List.not_mem_nil⟩ h
      · replace h := h.1 c
        exact Pl.live (l' := []) hM lv_250 ⟨show ndL _ from (by decide : List.Nodup ([4, 0, 1, 2, 3] : List Nat)), show ndL _ from (by decide : List.Nodup ([] : List Nat)), by rw [lva_250_46]; exact fun _ h => absurd h List.not_mem_nil⟩ h
set_option maxRecDepth 100000 in
theorem p_250_50 {n d : Nat} {Q : Option Value → Sg → Prop} (σ : Sg) (h : Q (some (.int (0 : Int32))) σ) : Pl PRG (n + 1) d 250 50 [] [] σ Q := by
  have hM : PRG[250]? = some M_250 := rfl
  refine Pl.sg1 (pc' := 51) (ls' := []) (st' := [.int (0 : Int32)]) (σ' := σ) hM 0 rfl ?_
  refine Pl.weak (Pl.ret hM rfl rfl h)
set_option maxRecDepth 100000 in
theorem p_250_46 {n d : Nat} {Q : Option Value → Sg → Prop} (σ : Sg) (h : Q (some (.int (1 : Int32))) σ) : Pl PRG (n + 1) d 250 46 [] [] σ Q := by
  have hM : PRG[250]? = some M_250 := rfl
  refine Pl.sg1 (pc' := 51) (ls' := []) (st' := [.int (1 : Int32)]) (σ' := σ) hM 1 rfl ?_
  refine Pl.weak (Pl.ret hM rfl rfl h)
def LV_251 : List (Nat × List Nat) := [(0, [0, 1]), (2, [0, 1]), (3, [0, 1]), (6, [0, 1]), (7, [0, 1]), (8, [0, 1]), (9, [0]), (10, [0]), (11, [0]), (12, [0, 2]), (13, [0, 2]), (16, [0, 2]), (17, [0, 2]), (18, [0, 2]), (19, [0, 2]), (22, [0, 2]), (23, [0, 2]), (24, [0, 2]), (27, [0, 2]), (28, [2]), (29, []), (32, []), (35, []), (36, []), (39, []), (40, [])]
set_option maxRecDepth 100000 in
theorem lv_251 : chkLv M_251 LV_251 = true := by decide +kernel
set_option maxRecDepth 100000 in
theorem lva_251_35 : lvA LV_251 35 = [] := by decide +kernel
set_option maxRecDepth 100000 in
theorem p_251_0 {n d : Nat} {Q : Option Value → Sg → Prop} (σ : Sg) (x1 : Int32) (h : (inR (((12 : Int32) * (σ.1 97 18)) + ((2 : Int32) * x1)) 24 = true → (inR (((12 : Int32) * (σ.1 97 18)) + ((2 : Int32) * x1)) 24 = true → (((σ.1 112 (((12 : Int32) * (σ.1 97 18)) + ((2 : Int32) * x1)).toNatClampNeg) = (σ.1 113 (((12 : Int32) * (σ.1 97 18)) + ((2 : Int32) * x1)).toNatClampNeg) → Pl PRG n d 251 35 [] [] σ Q) ∧ (¬ (σ.1 112 (((12 : Int32) * (σ.1 97 18)) + ((2 : Int32) * x1)).toNatClampNeg) = (σ.1 113 (((12 : Int32) * (σ.1 97 18)) + ((2 : Int32) * x1)).toNatClampNeg) → (∀ w2 σ1, RCx PRG n 208 [.ref 97, .int (((12 : Int32) * (σ.1 97 18)) + ((2 : Int32) * x1))] σ (some (.int w2)) σ1 → (w2 = 0 ∨ w2 = 1) → ((w2 = 0 → Q (some (.int (0 : Int32))) σ1) ∧ (¬ w2 = 0 → Pl PRG n d 251 35 [] [] σ1 Q)))))))) : Pl PRG (n + 1) d 251 0 [(0, .ref 97), (1, .int x1)] [] σ Q := by
  have hM : PRG[251]? = some M_251 := rfl
  refine Pl.sg1 (pc' := 17) (ls' := [(2, .int (((12 : Int32) * (σ.1 97 18)) + ((2 : Int32) * x1))), (0, .ref 97), (1, .int x1)]) (st' := [.int (((12 : Int32) * (σ.1 97 18)) + ((2 : Int32) * x1)), .ref 112]) (σ' := σ) hM 11 rfl ?_
  refine Pl.weak (Pl.iald hM rfl rfl (fun hi => ?_))
  replace h := h hi
  refine Pl.seg (pc' := 23) (ls' := [(2, .int (((12 : Int32) * (σ.1 97 18)) + ((2 : Int32) * x1))), (0, .ref 97), (1, .int x1)]) (st' := [.int (((12 : Int32) * (σ.1 97 18)) + ((2 : Int32) * x1)), .ref 113, .int (σ.1 112 (((12 : Int32) * (σ.1 97 18)) + ((2 : Int32) * x1)).toNatClampNeg)]) (σ' := σ) hM 3 rfl ?_
  refine Pl.weak (Pl.iald hM rfl rfl (fun hi => ?_))
  replace h := h hi
  refine Pl.br (c := (σ.1 112 (((12 : Int32) * (σ.1 97 18)) + ((2 : Int32) * x1)).toNatClampNeg) = (σ.1 113 (((12 : Int32) * (σ.1 97 18)) + ((2 : Int32) * x1)).toNatClampNeg)) (a := 35) (b := 27) (ls' := [(2, .int (((12 : Int32) * (σ.1 97 18)) + ((2 : Int32) * x1))), (0, .ref 97), (1, .int x1)]) (st' := []) (σ' := σ) hM 1 rfl (fun c => ?_) (fun c => ?_)
  · replace h := h.1 c
    exact Pl.live (l' := []) hM lv_251 ⟨show ndL _ from (by decide : List.Nodup ([2, 0, 1] : List Nat)), show ndL _ from (by decide : List.Nodup ([] : List Nat)), by rw [lva_251_35]; exact fun _ h => absurd h List.not_mem_nil⟩ h
  · replace h := h.2 c
    refine Pl.seg (pc' := 29) (ls' := [(2, .int (((12 : Int32) * (σ.1 97 18)) + ((2 : Int32) * x1))), (0, .ref 97), (1, .int x1)]) (st' := [.int (((12 : Int32) * (σ.1 97 18)) + ((2 : Int32) * x1)), .ref 97]) (σ' := σ) hM 2 rfl ?_
    refine Pl.weak (Pl.cZ hM rfl rfl (by decide) (Mj := M_208) rfl rfl (fun w2 σ1 hw hz => ?_))
    replace h := h w2 σ1 hw hz
    refine Pl.br (c := w2 = 0) (a := 39) (b := 35) (ls' := [(2, .int (((12 : Int32) * (σ.1 97 18)) + ((2 : Int32) * x1))), (0, .ref 97), (1, .int x1)]) (st' := []) (σ' := σ1) hM 1 rfl (fun c => ?_) (fun c => ?_)
    · replace h := h.1 c
      refine Pl.seg (pc' := 40) (ls' := [(2, .int (((12 : Int32) * (σ.1 97 18)) + ((2 : Int32) * x1))), (0, .ref 97), (1, .int x1)]) (st' := [.int (0 : Int32)]) (σ' := σ1) hM 1 rfl ?_
      refine Pl.weak (Pl.ret hM rfl rfl h)
    · replace h := h.2 c
      exact Pl.live (l' := []) hM lv_251 ⟨show ndL _ from (by decide : List.Nodup ([2, 0, 1] : List Nat)), show ndL _ from (by decide : List.Nodup ([] : List Nat)), by rw [lva_251_35]; exact fun _ h => absurd h List.not_mem_nil⟩ h
set_option maxRecDepth 100000 in
theorem p_251_35 {n d : Nat} {Q : Option Value → Sg → Prop} (σ : Sg) (h : Q (some (.int (1 : Int32))) σ) : Pl PRG (n + 1) d 251 35 [] [] σ Q := by
  have hM : PRG[251]? = some M_251 := rfl
  refine Pl.sg1 (pc' := 40) (ls' := []) (st' := [.int (1 : Int32)]) (σ' := σ) hM 1 rfl ?_
  refine Pl.weak (Pl.ret hM rfl rfl h)
set_option maxRecDepth 100000 in
theorem p_252_0 {n d : Nat} {Q : Option Value → Sg → Prop} (σ : Sg) (x1 : Int32) (h : (∀ w2 σ1, RCx PRG n 208 [.ref 97, .int ((((12 : Int32) * (σ.1 97 18)) + ((2 : Int32) * x1)) + (1 : Int32))] σ (some (.int w2)) σ1 → (w2 = 0 ∨ w2 = 1) → ((w2 = 0 ∨ w2 = 1) → Q (some (.int w2)) σ1))) : Pl PRG (n + 1) d 252 0 [(0, .ref 97), (1, .int x1)] [] σ Q := by
  have hM : PRG[252]? = some M_252 := rfl
  refine Pl.sg1 (pc' := 14) (ls' := [(0, .ref 97), (1, .int x1)]) (st' := [.int ((((12 : Int32) * (σ.1 97 18)) + ((2 : Int32) * x1)) + (1 : Int32)), .ref 97]) (σ' := σ) hM 10 rfl ?_
  refine Pl.weak (Pl.cZ hM rfl rfl (by decide) (Mj := M_208) rfl rfl (fun w2 σ1 hw hz => ?_))
  replace h := h w2 σ1 hw hz
  refine Pl.weak (Pl.retZ hM rfl rfl h)
def LV_253 : List (Nat × List Nat) := [(0, [0, 1, 2, 3, 4, 5, 6, 7]), (1, [0, 1, 2, 3, 4, 5, 6, 7]), (3, [0, 1, 2, 3, 5, 6, 7]), (5, [0, 1, 2, 3, 6, 7]), (7, [0, 1, 2, 3, 7]), (9, [0, 1, 2, 3]), (12, [0, 1, 2, 3]), (13, [0, 1, 2, 3]), (15, [0, 1, 2, 3, 8]), (16, [0, 1, 2, 3, 8]), (18, [0, 1, 2, 3, 8, 9]), (20, [0, 1, 2, 3, 8, 9]), (21, [0, 1, 2, 3, 8, 9]), (24, [0, 1, 2, 3, 8, 9]), (25, [0, 1, 2, 3, 8, 9]), (28, [0, 1, 2, 3, 8, 9]), (29, [0, 1, 2, 3, 8, 9]), (32, [0, 1, 2, 3, 8, 9]), (33, [0, 1, 2, 3, 8, 9]), (35, [0, 1, 2, 3, 8, 9]), (36, [0, 1, 2, 3, 8, 9]), (37, [0, 1, 2, 3, 8, 9]), (38, [0, 1, 2, 3, 8, 9]), (39, [0, 1, 2, 3, 8, 9]), (42, [0, 1, 2, 3, 8, 9]), (43, [0, 1, 2, 3, 8, 9]), (45, [0, 1, 2, 3, 8, 9]), (46, [0, 1, 2, 3, 8, 9]), (47, [0, 1, 2, 3, 8, 9]), (50, [0, 1, 2, 3, 8, 9]), (53, [0, 1, 2, 3, 8, 9]), (54, [0, 1, 2, 3, 8, 9]), (56, [0, 1, 2, 3, 8, 9]), (59, [0, 1, 2, 3, 8, 9]), (62, [0, 1, 2, 3, 8, 9]), (64, [0, 1, 2, 3, 9]), (65, [0, 1, 2, 3, 9]), (67, [0, 1, 2, 3, 9]), (68, [0, 1, 2, 3, 9]), (69, [0, 1, 2, 3, 9]), (71, [0, 1, 2, 3, 8, 9]), (74, [0, 1, 2, 3, 8, 9]), (77, [8]), (79, [])]
set_option maxRecDepth 100000 in
theorem lv_253 : chkLv M_253 LV_253 = true := by decide +kernel
set_option maxRecDepth 100000 in
theorem lva_253_18 : lvA LV_253 18 = [0, 1, 2, 3, 8, 9] := by decide +kernel
set_option maxRecDepth 100000 in
theorem lva_253_71 : lvA LV_253 71 = [0, 1, 2, 3, 8, 9] := by decide +kernel
set_option maxRecDepth 100000 in
theorem p_253_0 {n d : Nat} {Q : Option Value → Sg → Prop} (σ : Sg) (x1 x2 x3 x4 x5 x6 x7 : Int32) (h : (∀ σ1, RCx PRG n 248 [.ref 97, .int x4, .int x5, .int x6, .int x7] σ none σ1 → Pl PRG n d 253 18 [(0, .ref 97), (1, .int x1), (2, .int x2), (3, .int x3), (8, .int (0 : Int32)), (9, .int (0 : Int32))] [] σ1 Q)) : Pl PRG (n + 1) d 253 0 [(0, .ref 97), (1, .int x1), (2, .int x2), (3, .int x3), (4, .int x4), (5, .int x5), (6, .int x6), (7, .int x7)] [] σ Q := by
  have hM : PRG[253]? = some M_253 := rfl
  refine Pl.sg1 (pc' := 9) (ls' := [(0, .ref 97), (1, .int x1), (2, .int x2), (3, .int x3), (4, .int x4), (5, .int x5), (6, .int x6), (7, .int x7)]) (st' := [.int x7, .int x6, .int x5, .int x4, .ref 97]) (σ' := σ) hM 4 rfl ?_
  refine Pl.weak (Pl.cV hM rfl rfl (by decide) (Mj := M_248) rfl rfl (fun σ1 hw => ?_))
  replace h := h σ1 hw
  refine Pl.seg (pc' := 18) (ls' := [(9, .int (0 : Int32)), (8, .int (0 : Int32)), (0, .ref 97), (1, .int x1), (2, .int x2), (3, .int x3), (4, .int x4), (5, .int x5), (6, .int x6), (7, .int x7)]) (st' := []) (σ' := σ1) hM 4 rfl ?_
  exact Pl.live (l' := [(0, .ref 97), (1, .int x1), (2, .int x2), (3, .int x3), (8, .int (0 : Int32)), (9, .int (0 : Int32))]) hM lv_253 ⟨show ndL _ from (by decide : List.Nodup ([9, 8, 0, 1, 2, 3, 4, 5, 6, 7] : List Nat)), show ndL _ from (by decide : List.Nodup ([0, 1, 2, 3, 8, 9] : List Nat)), by rw [lva_253_18]; exact List.forall_mem_cons.mpr ⟨rfl, List.forall_mem_cons.mpr ⟨rfl, List.forall_mem_cons.mpr ⟨rfl, List.forall_mem_cons.mpr ⟨rfl, List.forall_mem_cons.mpr ⟨rfl, List.forall_mem_cons.mpr ⟨rfl, fun _ h => absurd h List.not_mem_nil⟩⟩⟩⟩⟩⟩⟩ h
set_option maxRecDepth 100000 in
theorem p_253_18 {n d : Nat} {Q : Option Value → Sg → Prop} (σ : Sg) (x1 x2 x3 x8 x9 : Int32) (h : (inR (σ.1 97 18) 2 = true → (((σ.1 109 (σ.1 97 18).toNatClampNeg) ≤ x9 → Q (some (.int x8)) σ) ∧ (¬ (σ.1 109 (σ.1 97 18).toNatClampNeg) ≤ x9 → ((((x1 >>> (x9 &&& 31)) &&& (1 : Int32)) = (1 : Int32) → (∀ w2 σ1, RCx PRG n 250 [.ref 97, .int x9, .int x2, .int x3] σ (some (.int w2)) σ1 → (w2 = 0 ∨ w2 = 1) → ((w2 = 0 → Pl PRG n d 253 71 [(0, .ref 97), (1, .int x1), (2, .int x2), (3, .int x3), (8, .int x8), (9, .int x9)] [] σ1 Q) ∧ (¬ w2 = 0 → (∀ w4 σ3, RCx PRG n 251 [.ref 97, .int x9] σ1 (some (.int w4)) σ3 → (w4 = 0 ∨ w4 = 1) → ((w4 = 0 → Pl PRG n d 253 71 [(0, .ref 97), (1, .int x1), (2, .int x2), (3, .int x3), (8, .int x8), (9, .int x9)] [] σ3 Q) ∧ (¬ w4 = 0 → Pl PRG n d 253 71 [(0, .ref 97), (1, .int x1), (2, .int x2), (3, .int x3), (8, .int (x8 ||| ((1 : Int32) <<< (x9 &&& 31)))), (9, .int x9)] [] σ3 Q))))))) ∧ (¬ ((x1 >>> (x9 &&& 31)) &&& (1 : Int32)) = (1 : Int32) → Pl PRG n d 253 71 [(0, .ref 97), (1, .int x1), (2, .int x2), (3, .int x3), (8, .int x8), (9, .int x9)] [] σ Q)))))) : Pl PRG (n + 1) d 253 18 [(0, .ref 97), (1, .int x1), (2, .int x2), (3, .int x3), (8, .int x8), (9, .int x9)] [] σ Q := by
  have hM : PRG[253]? = some M_253 := rfl
  refine Pl.sg1 (pc' := 28) (ls' := [(0, .ref 97), (1, .int x1), (2, .int x2), (3, .int x3), (8, .int x8), (9, .int x9)]) (st' := [.int (σ.1 97 18), .ref 109, .int x9]) (σ' := σ) hM 4 rfl ?_
  refine Pl.weak (Pl.iald hM rfl rfl (fun hi => ?_))
  replace h := h hi
  refine Pl.br (c := (σ.1 109 (σ.1 97 18).toNatClampNeg) ≤ x9) (a := 77) (b := 32) (ls' := [(0, .ref 97), (1, .int x1), (2, .int x2), (3, .int x3), (8, .int x8), (9, .int x9)]) (st' := []) (σ' := σ) hM 1 rfl (fun c => ?_) (fun c => ?_)
  · replace h := h.1 c
    refine Pl.seg (pc' := 79) (ls' := [(0, .ref 97), (1, .int x1), (2, .int x2), (3, .int x3), (8, .int x8), (9, .int x9)]) (st' := [.int x8]) (σ' := σ) hM 1 rfl ?_
    refine Pl.weak (Pl.ret hM rfl rfl h)
  · replace h := h.2 c
    refine Pl.brN (c := ((x1 >>> (x9 &&& 31)) &&& (1 : Int32)) = (1 : Int32)) (a := 71) (b := 42) (ls' := [(0, .ref 97), (1, .int x1), (2, .int x2), (3, .int x3), (8, .int x8), (9, .int x9)]) (st' := []) (σ' := σ) hM 7 rfl (fun c => ?_) (fun c => ?_)
    · replace h := h.2 c
      exact Pl.live (l' := [(0, .ref 97), (1, .int x1), (2, .int x2), (3, .int x3), (8, .int x8), (9, .int x9)]) hM lv_253 ⟨show ndL _ from (by decide : List.Nodup ([0, 1, 2, 3, 8, 9] : List Nat)), show ndL _ from (by decide : List.Nodup ([0, 1, 2, 3, 8, 9] : List Nat)), by rw [lva_253_71]; exact List.forall_mem_cons.mpr ⟨rfl, List.forall_mem_cons.mpr ⟨rfl, List.forall_mem_cons.mpr ⟨rfl, List.forall_mem_cons.mpr ⟨rfl, List.forall_mem_cons.mpr ⟨rfl, List.forall_mem_cons.mpr ⟨rfl, fun _ h => absurd h List.not_mem_nil⟩⟩⟩⟩⟩⟩⟩ h
    · replace h := h.1 c
      refine Pl.seg (pc' := 47) (ls' := [(0, .ref 97), (1, .int x1), (2, .int x2), (3, .int x3), (8, .int x8), (9, .int x9)]) (st' := [.int x3, .int x2, .int x9, .ref 97]) (σ' := σ) hM 4 rfl ?_
      refine Pl.weak (Pl.cZ hM rfl rfl (by decide) (Mj := M_250) rfl rfl (fun w2 σ1 hw hz => ?_))
      replace h := h w2 σ1 hw hz
      refine Pl.br (c := w2 = 0) (a := 71) (b := 53) (ls' := [(0, .ref 97), (1, .int x1), (2, .int x2), (3, .int x3), (8, .int x8), (9, .int x9)]) (st' := []) (σ' := σ1) hM 1 rfl (fun c => ?_) (fun c => ?_)
      · replace h := h.1 c
        exact Pl.live (l' := [(0, .ref 97), (1, .int x1), (2, .int x2), (3, .int x3), (8, .int x8), (9, .int x9)]) hM lv_253 ⟨show ndL _ from (by decide : List.Nodup ([0, 1, 2, 3, 8, 9] : List Nat)), show ndL _ from (by decide : List.Nodup ([0, 1, 2, 3, 8, 9] : List Nat)), by rw [lva_253_71]; exact List.forall_mem_cons.mpr ⟨rfl, List.forall_mem_cons.mpr ⟨rfl, List.forall_mem_cons.mpr ⟨rfl, List.forall_mem_cons.mpr ⟨rfl, List.forall_mem_cons.mpr ⟨rfl, List.forall_mem_cons.mpr ⟨rfl, fun _ h => absurd h List.not_mem_nil⟩⟩⟩⟩⟩⟩⟩ h
      · replace h := h.2 c
        refine Pl.seg (pc' := 56) (ls' := [(0, .ref 97), (1, .int x1), (2, .int x2), (3, .int x3), (8, .int x8), (9, .int x9)]) (st' := [.int x9, .ref 97]) (σ' := σ1) hM 2 rfl ?_
        refine Pl.weak (Pl.cZ hM rfl rfl (by decide) (Mj := M_251) rfl rfl (fun w4 σ3 hw hz => ?_))
        replace h := h w4 σ3 hw hz
        refine Pl.br (c := w4 = 0) (a := 71) (b := 62) (ls' := [(0, .ref 97), (1, .int x1), (2, .int x2), (3, .int x3), (8, .int x8), (9, .int x9)]) (st' := []) (σ' := σ3) hM 1 rfl (fun c => ?_) (fun c => ?_)
        · replace h := h.1 c
          exact Pl.live (l' := [(0, .ref 97), (1, .int x1), (2, .int x2), (3, .int x3), (8, .int x8), (9, .int x9)]) hM lv_253 ⟨show ndL _ from (by decide : List.Nodup ([0, 1, 2, 3, 8, 9] : List Nat)), show ndL _ from (by decide : List.Nodup ([0, 1, 2, 3, 8, 9] : List Nat)), by rw [lva_253_71]; exact List.forall_mem_cons.mpr ⟨rfl, List.forall_mem_cons.mpr ⟨rfl, List.forall_mem_cons.mpr ⟨rfl, List.forall_mem_cons.mpr ⟨rfl, List.forall_mem_cons.mpr ⟨rfl, List.forall_mem_cons.mpr ⟨rfl, fun _ h => absurd h List.not_mem_nil⟩⟩⟩⟩⟩⟩⟩ h
        · replace h := h.2 c
          refine Pl.seg (pc' := 71) (ls' := [(8, .int (x8 ||| ((1 : Int32) <<< (x9 &&& 31)))), (0, .ref 97), (1, .int x1), (2, .int x2), (3, .int x3), (9, .int x9)]) (st' := []) (σ' := σ3) hM 6 rfl ?_
          exact Pl.live (l' := [(0, .ref 97), (1, .int x1), (2, .int x2), (3, .int x3), (8, .int (x8 ||| ((1 : Int32) <<< (x9 &&& 31)))), (9, .int x9)]) hM lv_253 ⟨show ndL _ from (by decide : List.Nodup ([8, 0, 1, 2, 3, 9] : List Nat)), show ndL _ from (by decide : List.Nodup ([0, 1, 2, 3, 8, 9] : List Nat)), by rw [lva_253_71]; exact List.forall_mem_cons.mpr ⟨rfl, List.forall_mem_cons.mpr ⟨rfl, List.forall_mem_cons.mpr ⟨rfl, List.forall_mem_cons.mpr ⟨rfl, List.forall_mem_cons.mpr ⟨rfl, List.forall_mem_cons.mpr ⟨rfl, fun _ h => absurd h List.not_mem_nil⟩⟩⟩⟩⟩⟩⟩ h
set_option maxRecDepth 100000 in
theorem p_253_71 {n d : Nat} {Q : Option Value → Sg → Prop} (σ : Sg) (x1 x2 x3 x8 x9 : Int32) (h : Pl PRG n d 253 18 [(0, .ref 97), (1, .int x1), (2, .int x2), (3, .int x3), (8, .int x8), (9, .int (x9 + (1 : Int32)))] [] σ Q) : Pl PRG (n + 1) d 253 71 [(0, .ref 97), (1, .int x1), (2, .int x2), (3, .int x3), (8, .int x8), (9, .int x9)] [] σ Q := by
  have hM : PRG[253]? = some M_253 := rfl
  refine Pl.sg1 (pc' := 18) (ls' := [(9, .int (x9 + (1 : Int32))), (0, .ref 97), (1, .int x1), (2, .int x2), (3, .int x3), (8, .int x8)]) (st' := []) (σ' := σ) hM 1 rfl ?_
  exact Pl.live (l' := [(0, .ref 97), (1, .int x1), (2, .int x2), (3, .int x3), (8, .int x8), (9, .int (x9 + (1 : Int32)))]) hM lv_253 ⟨show ndL _ from (by decide : List.Nodup ([9, 0, 1, 2, 3, 8] : List Nat)), show ndL _ from (by decide : List.Nodup ([0, 1, 2, 3, 8, 9] : List Nat)), by rw [lva_253_18]; exact List.forall_mem_cons.mpr ⟨rfl, List.forall_mem_cons.mpr ⟨rfl, List.forall_mem_cons.mpr ⟨rfl, List.forall_mem_cons.mpr ⟨rfl, List.forall_mem_cons.mpr ⟨rfl, List.forall_mem_cons.mpr ⟨rfl, fun _ h => absurd h List.not_mem_nil⟩⟩⟩⟩⟩⟩⟩ h
def LV_254 : List (Nat × List Nat) := [(0, [0, 1, 2, 3]), (1, [0, 1, 2, 3]), (2, [0, 1, 3]), (3, [0, 1]), (6, [0, 1]), (7, [0, 1]), (9, [0, 1, 4]), (10, [0, 1, 4]), (12, [0, 1, 4, 5]), (14, [0, 1, 4, 5]), (15, [0, 1, 4, 5]), (18, [0, 1, 4, 5]), (19, [0, 1, 4, 5]), (22, [0, 1, 4, 5]), (23, [0, 1, 4, 5]), (26, [0, 1, 4, 5]), (27, [0, 1, 4, 5]), (29, [0, 1, 4, 5]), (30, [0, 1, 4, 5]), (31, [0, 1, 4, 5]), (32, [0, 1, 4, 5]), (33, [0, 1, 4, 5]), (36, [0, 1, 4, 5]), (37, [0, 1, 4, 5]), (39, [0, 1, 4, 5]), (42, [0, 1, 4, 5]), (45, [0, 1, 4, 5]), (47, [0, 1, 5]), (48, [0, 1, 5]), (50, [0, 1, 5]), (51, [0, 1, 5]), (52, [0, 1, 5]), (54, [0, 1, 4, 5]), (57, [0, 1, 4, 5]), (60, [4]), (62, [])]
set_option maxRecDepth 100000 in
theorem lv_254 : chkLv M_254 LV_254 = true := by decide +kernel
set_option maxRecDepth 100000 in
theorem lva_254_12 : lvA LV_254 12 = [0, 1, 4, 5] := by decide +kernel
set_option maxRecDepth 100000 in
theorem lva_254_54 : lvA LV_254 54 = [0, 1, 4, 5] := by decide +kernel
set_option maxRecDepth 100000 in
theorem p_254_0 {n d : Nat} {Q : Option Value → Sg → Prop} (σ : Sg) (x1 x2 x3 : Int32) (h : (∀ σ1, RCx PRG n 249 [.ref 97, .int x2, .int x3] σ none σ1 → Pl PRG n d 254 12 [(0, .ref 97), (1, .int x1), (4, .int (0 : Int32)), (5, .int (0 : Int32))] [] σ1 Q)) : Pl PRG (n + 1) d 254 0 [(0, .ref 97), (1, .int x1), (2, .int x2), (3, .int x3)] [] σ Q := by
  have hM : PRG[254]? = some M_254 := rfl
  refine Pl.sg1 (pc' := 3) (ls' := [(0, .ref 97), (1, .int x1), (2, .int x2), (3, .int x3)]) (st' := [.int x3, .int x2, .ref 97]) (σ' := σ) hM 2 rfl ?_
  refine Pl.weak (Pl.cV hM rfl rfl (by decide) (Mj := M_249) rfl rfl (fun σ1 hw => ?_))
  replace h := h σ1 hw
  refine Pl.seg (pc' := 12) (ls' := [(5, .int (0 : Int32)), (4, .int (0 : Int32)), (0, .ref 97), (1, .int x1), (2, .int x2), (3, .int x3)]) (st' := []) (σ' := σ1) hM 4 rfl ?_
  exact Pl.live (l' := [(0, .ref 97), (1, .int x1), (4, .int (0 : Int32)), (5, .int (0 : Int32))]) hM lv_254 ⟨show ndL _ from (by decide : List.Nodup ([5, 4, 0, 1, 2, 3] : List Nat)), show ndL _ from (by decide : List.Nodup ([0, 1, 4, 5] : List Nat)), by rw [lva_254_12]; exact List.forall_mem_cons.mpr ⟨rfl, List.forall_mem_cons.mpr ⟨rfl, List.forall_mem_cons.mpr ⟨rfl, List.forall_mem_cons.mpr ⟨rfl, fun _ h => absurd h List.not_mem_nil⟩⟩⟩⟩⟩ h
set_option maxRecDepth 100000 in
theorem p_254_12 {n d : Nat} {Q : Option Value → Sg → Prop} (σ : Sg) (x1 x4 x5 : Int32) (h : (inR (σ.1 97 18) 2 = true → (((σ.1 109 (σ.1 97 18).toNatClampNeg) ≤ x5 → Q (some (.int x4)) σ) ∧ (¬ (σ.1 109 (σ.1 97 18).toNatClampNeg) ≤ x5 → ((((x1 >>> (x5 &&& 31)) &&& (1 : Int32)) = (1 : Int32) → (∀ w2 σ1, RCx PRG n 252 [.ref 97, .int x5] σ (some (.int w2)) σ1 → (w2 = 0 ∨ w2 = 1) → ((w2 = 0 → Pl PRG n d 254 54 [(0, .ref 97), (1, .int x1), (4, .int (x4 ||| ((1 : Int32) <<< (x5 &&& 31)))), (5, .int x5)] [] σ1 Q) ∧ (¬ w2 = 0 → Pl PRG n d 254 54 [(0, .ref 97), (1, .int x1), (4, .int x4), (5, .int x5)] [] σ1 Q)))) ∧ (¬ ((x1 >>> (x5 &&& 31)) &&& (1 : Int32)) = (1 : Int32) → Pl PRG n d 254 54 [(0, .ref 97), (1, .int x1), (4, .int x4), (5, .int x5)] [] σ Q)))))) : Pl PRG (n + 1) d 254 12 [(0, .ref 97), (1, .int x1), (4, .int x4), (5, .int x5)] [] σ Q := by
  have hM : PRG[254]? = some M_254 := rfl
  refine Pl.sg1 (pc' := 22) (ls' := [(0, .ref 97), (1, .int x1), (4, .int x4), (5, .int x5)]) (st' := [.int (σ.1 97 18), .ref 109, .int x5]) (σ' := σ) hM 4 rfl ?_
  refine Pl.weak (Pl.iald hM rfl rfl (fun hi => ?_))
  replace h := h hi
  refine Pl.br (c := (σ.1 109 (σ.1 97 18).toNatClampNeg) ≤ x5) (a := 60) (b := 26) (ls' := [(0, .ref 97), (1, .int x1), (4, .int x4), (5, .int x5)]) (st' := []) (σ' := σ) hM 1 rfl (fun c => ?_) (fun c => ?_)
  · replace h := h.1 c
    refine Pl.seg (pc' := 62) (ls' := [(0, .ref 97), (1, .int x1), (4, .int x4), (5, .int x5)]) (st' := [.int x4]) (σ' := σ) hM 1 rfl ?_
    refine Pl.weak (Pl.ret hM rfl rfl h)
  · replace h := h.2 c
    refine Pl.brN (c := ((x1 >>> (x5 &&& 31)) &&& (1 : Int32)) = (1 : Int32)) (a := 54) (b := 36) (ls' := [(0, .ref 97), (1, .int x1), (4, .int x4), (5, .int x5)]) (st' := []) (σ' := σ) hM 7 rfl (fun c => ?_) (fun c => ?_)
    · replace h := h.2 c
      exact Pl.live (l' := [(0, .ref 97), (1, .int x1), (4, .int x4), (5, .int x5)]) hM lv_254 ⟨show ndL _ from (by decide : List.Nodup ([0, 1, 4, 5] : List Nat)), show ndL _ from (by decide : List.Nodup ([0, 1, 4, 5] : List Nat)), by rw [lva_254_54]; exact List.forall_mem_cons.mpr ⟨rfl, List.forall_mem_cons.mpr ⟨rfl, List.forall_mem_cons.mpr ⟨rfl, List.forall_mem_cons.mpr ⟨rfl, fun _ h => absurd h List.not_mem_nil⟩⟩⟩⟩⟩ h
    · replace h := h.1 c
      refine Pl.seg (pc' := 39) (ls' := [(0, .ref 97), (1, .int x1), (4, .int x4), (5, .int x5)]) (st' := [.int x5, .ref 97]) (σ' := σ) hM 2 rfl ?_
      refine Pl.weak (Pl.cZ hM rfl rfl (by decide) (Mj := M_252) rfl rfl (fun w2 σ1 hw hz => ?_))
      replace h := h w2 σ1 hw hz
      refine Pl.brN (c := w2 = 0) (a := 54) (b := 45) (ls' := [(0, .ref 97), (1, .int x1), (4, .int x4), (5, .int x5)]) (st' := []) (σ' := σ1) hM 1 rfl (fun c => ?_) (fun c => ?_)
      · replace h := h.2 c
        exact Pl.live (l' := [(0, .ref 97), (1, .int x1), (4, .int x4), (5, .int x5)]) hM lv_254 ⟨show ndL _ from (by decide : List.Nodup ([0, 1, 4, 5] : List Nat)), show ndL _ from (by decide : List.Nodup ([0, 1, 4, 5] : List Nat)), by rw [lva_254_54]; exact List.forall_mem_cons.mpr ⟨rfl, List.forall_mem_cons.mpr ⟨rfl, List.forall_mem_cons.mpr ⟨rfl, List.forall_mem_cons.mpr ⟨rfl, fun _ h => absurd h List.not_mem_nil⟩⟩⟩⟩⟩ h
      · replace h := h.1 c
        refine Pl.seg (pc' := 54) (ls' := [(4, .int (x4 ||| ((1 : Int32) <<< (x5 &&& 31)))), (0, .ref 97), (1, .int x1), (5, .int x5)]) (st' := []) (σ' := σ1) hM 6 rfl ?_
        exact Pl.live (l' := [(0, .ref 97), (1, .int x1), (4, .int (x4 ||| ((1 : Int32) <<< (x5 &&& 31)))), (5, .int x5)]) hM lv_254 ⟨show ndL _ from (by decide : List.Nodup ([4, 0, 1, 5] : List Nat)), show ndL _ from (by decide : List.Nodup ([0, 1, 4, 5] : List Nat)), by rw [lva_254_54]; exact List.forall_mem_cons.mpr ⟨rfl, List.forall_mem_cons.mpr ⟨rfl, List.forall_mem_cons.mpr ⟨rfl, List.forall_mem_cons.mpr ⟨rfl, fun _ h => absurd h List.not_mem_nil⟩⟩⟩⟩⟩ h
set_option maxRecDepth 100000 in
theorem p_254_54 {n d : Nat} {Q : Option Value → Sg → Prop} (σ : Sg) (x1 x4 x5 : Int32) (h : Pl PRG n d 254 12 [(0, .ref 97), (1, .int x1), (4, .int x4), (5, .int (x5 + (1 : Int32)))] [] σ Q) : Pl PRG (n + 1) d 254 54 [(0, .ref 97), (1, .int x1), (4, .int x4), (5, .int x5)] [] σ Q := by
  have hM : PRG[254]? = some M_254 := rfl
  refine Pl.sg1 (pc' := 12) (ls' := [(5, .int (x5 + (1 : Int32))), (0, .ref 97), (1, .int x1), (4, .int x4)]) (st' := []) (σ' := σ) hM 1 rfl ?_
  exact Pl.live (l' := [(0, .ref 97), (1, .int x1), (4, .int x4), (5, .int (x5 + (1 : Int32)))]) hM lv_254 ⟨show ndL _ from (by decide : List.Nodup ([5, 0, 1, 4] : List Nat)), show ndL _ from (by decide : List.Nodup ([0, 1, 4, 5] : List Nat)), by rw [lva_254_12]; exact List.forall_mem_cons.mpr ⟨rfl, List.forall_mem_cons.mpr ⟨rfl, List.forall_mem_cons.mpr ⟨rfl, List.forall_mem_cons.mpr ⟨rfl, fun _ h => absurd h List.not_mem_nil⟩⟩⟩⟩⟩ h
set_option maxRecDepth 100000 in
theorem p_255_0 {n d : Nat} {Q : Option Value → Sg → Prop} (σ : Sg) (x1 x2 : Int32) (h : (inR x1 16 = true → (∀ w2 σ1, RCx PRG n 240 [.ref 97, .int x1] σ (some (.int w2)) σ1 → (inR x1 16 = true → (∀ w4 σ3, RCx PRG n 232 [.ref 97, .int x1] σ1 (some (.int w4)) σ3 → (∀ w6 σ5, RCx PRG n 241 [.ref 97, .int x1] σ3 (some (.int w6)) σ5 → (∀ w8 σ7, RCx PRG n 253 [.ref 97, .int x2, .int (σ.1 127 x1.toNatClampNeg), .int w2, .int (σ1.1 126 x1.toNatClampNeg), .int w4, .int (x1 / (4 : Int32)), .int w6] σ5 (some (.int w8)) σ7 → Q (some (.int w8)) σ7))))))) : Pl PRG (n + 1) d 255 0 [(0, .ref 97), (1, .int x1), (2, .int x2)] [] σ Q := by
  have hM : PRG[255]? = some M_255 := rfl
  refine Pl.sg1 (pc' := 7) (ls' := [(0, .ref 97), (1, .int x1), (2, .int x2)]) (st' := [.int x1, .ref 127, .int x2, .ref 97]) (σ' := σ) hM 4 rfl ?_
  refine Pl.weak (Pl.iald hM rfl rfl (fun hi => ?_))
  replace h := h hi
  refine Pl.seg (pc' := 10) (ls' := [(0, .ref 97), (1, .int x1), (2, .int x2)]) (st' := [.int x1, .ref 97, .int (σ.1 127 x1.toNatClampNeg), .int x2, .ref 97]) (σ' := σ) hM 2 rfl ?_
  refine Pl.weak (Pl.cI hM rfl rfl (by decide) (Mj := M_240) rfl rfl (fun w2 σ1 hw => ?_))
  replace h := h w2 σ1 hw
  refine Pl.seg (pc' := 18) (ls' := [(0, .ref 97), (1, .int x1), (2, .int x2)]) (st' := [.int x1, .ref 126, .int w2, .int (σ.1 127 x1.toNatClampNeg), .int x2, .ref 97]) (σ' := σ1) hM 3 rfl ?_
  refine Pl.weak (Pl.iald hM rfl rfl (fun hi => ?_))
  replace h := h hi
  refine Pl.seg (pc' := 21) (ls' := [(0, .ref 97), (1, .int x1), (2, .int x2)]) (st' := [.int x1, .ref 97, .int (σ1.1 126 x1.toNatClampNeg), .int w2, .int (σ.1 127 x1.toNatClampNeg), .int x2, .ref 97]) (σ' := σ1) hM 2 rfl ?_
  refine Pl.weak (Pl.cI hM rfl rfl (by decide) (Mj := M_232) rfl rfl (fun w4 σ3 hw => ?_))
  replace h := h w4 σ3 hw
  refine Pl.seg (pc' := 29) (ls' := [(0, .ref 97), (1, .int x1), (2, .int x2)]) (st' := [.int x1, .ref 97, .int (x1 / (4 : Int32)), .int w4, .int (σ1.1 126 x1.toNatClampNeg), .int w2, .int (σ.1 127 x1.toNatClampNeg), .int x2, .ref 97]) (σ' := σ3) hM 5 rfl ?_
  refine Pl.weak (Pl.cI hM rfl rfl (by decide) (Mj := M_241) rfl rfl (fun w6 σ5 hw => ?_))
  replace h := h w6 σ5 hw
  refine Pl.weak (Pl.cI hM rfl rfl (by decide) (Mj := M_253) rfl rfl (fun w8 σ7 hw => ?_))
  replace h := h w8 σ7 hw
  refine Pl.weak (Pl.ret hM rfl rfl h)
def LV_256 : List (Nat × List Nat) := [(0, [0, 1, 2, 3]), (1, [0, 1, 2, 3]), (4, [0, 1, 2, 3]), (7, [0, 1, 2, 3]), (8, [0, 1, 2, 3]), (9, [0, 1, 2, 3]), (10, [0, 1, 2, 3]), (13, [0, 1, 2, 3]), (14, [0, 1, 2, 3]), (15, [0, 1, 2, 3]), (18, [0, 1, 2, 3]), (21, [0, 1, 2, 3]), (22, [0, 1, 2, 3]), (23, [0, 1, 2, 3]), (26, [0, 1, 2, 3]), (29, [0, 1, 2, 3]), (30, [0, 1, 2, 3]), (31, [0, 1, 2, 3]), (32, [0, 1, 2, 3]), (35, [0, 1, 2, 3]), (38, []), (39, []), (40, [0, 1, 2, 3]), (41, [0, 1, 2, 3]), (42, [0, 1, 2, 3]), (43, [0, 1, 3]), (46, [0, 1, 3]), (48, [0, 1, 3, 4]), (49, [0, 1, 4]), (52, [4]), (54, []), (55, [0, 1, 4]), (56, [0, 1, 4]), (59, [0, 1, 4]), (60, [0, 1, 4]), (61, [0, 1, 4]), (63, [0, 1, 4, 5]), (64, [0, 1, 4, 5]), (66, [0, 1, 5]), (67, [0, 1, 5]), (70, [0, 1, 5]), (71, [0, 1, 5]), (72, [0, 1, 5]), (73, [0, 1, 5]), (76, [0, 1, 5]), (78, [0, 1, 5]), (79, [0, 1, 5]), (80, [1, 5]), (82, [1]), (83, []), (86, []), (87, []), (88, []), (89, []), (92, [])]
set_option maxRecDepth 100000 in
theorem lv_256 : chkLv M_256 LV_256 = true := by decide +kernel
set_option maxRecDepth 100000 in
theorem lva_256_38 : lvA LV_256 38 = [] := by decide +kernel
set_option maxRecDepth 100000 in
theorem p_256_0 {n d : Nat} {Q : Option Value → Sg → Prop} (σ : Sg) (x1 x2 x3 : Int32) (h : (((σ.1 97 45) = 0 → Pl PRG n d 256 38 [] [] σ Q) ∧ (¬ (σ.1 97 45) = 0 → (∀ w2 σ1, RCx PRG n 195 [.int x1, .int (0 : Int32), .int ((σ.1 97 48) - (1 : Int32))] σ (some (.int w2)) σ1 → (w2 = 0 ∨ w2 = 1) → ((w2 = 0 → Pl PRG n d 256 38 [] [] σ1 Q) ∧ (¬ w2 = 0 → (∀ w4 σ3, RCx PRG n 218 [.ref 97, .int x2] σ1 (some (.int w4)) σ3 → (w4 = 0 ∨ w4 = 1) → ((w4 = 0 → Pl PRG n d 256 38 [] [] σ3 Q) ∧ (¬ w4 = 0 → (∀ w6 σ5, RCx PRG n 195 [.int x3, .int (0 : Int32), .int (1 : Int32)] σ3 (some (.int w6)) σ5 → (w6 = 0 ∨ w6 = 1) → ((w6 = 0 → Pl PRG n d 256 38 [] [] σ5 Q) ∧ (¬ w6 = 0 → (∀ w8 σ7, RCx PRG n 255 [.ref 97, .int x1, .int x2] σ5 (some (.int w8)) σ7 → ((x3 = 0 → Q (some (.int w8)) σ7) ∧ (¬ x3 = 0 → (inR x1 16 = true → (inR x1 16 = true → (inR (σ7.1 127 x1.toNatClampNeg) 4 = true → (∀ w10 σ9, RCx PRG n 225 [.ref 97, .int (σ7.1 127 x1.toNatClampNeg), .int x1] σ7 (some (.int w10)) σ9 → (∀ w12 σ11, RCx PRG n 254 [.ref 97, .int w8, .int (σ7.1 126 x1.toNatClampNeg), .int ((σ7.1 125 (σ7.1 127 x1.toNatClampNeg).toNatClampNeg) &&& (w10 ^^^ (-1 : Int32)))] σ9 (some (.int w12)) σ11 → Q (some (.int w12)) σ11)))))))))))))))))))) : Pl PRG (n + 1) d 256 0 [(0, .ref 97), (1, .int x1), (2, .int x2), (3, .int x3)] [] σ Q := by
  have hM : PRG[256]? = some M_256 := rfl
  refine Pl.br1 (c := (σ.1 97 45) = 0) (a := 38) (b := 7) (ls' := [(0, .ref 97), (1, .int x1), (2, .int x2), (3, .int x3)]) (st' := []) (σ' := σ) hM 2 rfl (fun c => ?_) (fun c => ?_)
  · replace h := h.1 c
    exact Pl.live (l' := []) hM lv_256 ⟨show ndL _ from (by decide : List.Nodup ([0, 1, 2, 3] : List Nat)), show ndL _ from (by decide : List.Nodup ([] : List Nat)), by rw [lva_256_38]; exact fun _ h => absurd h List.not_mem_nil⟩ h
  · replace h := h.2 c
    refine Pl.seg (pc' := 15) (ls' := [(0, .ref 97), (1, .int x1), (2, .int x2), (3, .int x3)]) (st' := [.int ((σ.1 97 48) - (1 : Int32)), .int (0 : Int32), .int x1]) (σ' := σ) hM 6 rfl ?_
    refine Pl.weak (Pl.cZ hM rfl rfl (by decide) (Mj := M_195) rfl rfl (fun w2 σ1 hw hz => ?_))
    replace h := h w2 σ1 hw hz
    refine Pl.br (c := w2 = 0) (a := 38) (b := 21) (ls' := [(0, .ref 97), (1, .int x1), (2, .int x2), (3, .int x3)]) (st' := []) (σ' := σ1) hM 1 rfl (fun c => ?_) (fun c => ?_)
    · replace h := h.1 c
      exact Pl.live (l' := []) hM lv_256 ⟨show ndL _ from (by decide : List.Nodup ([0, 1, 2, 3] : List Nat)), show ndL _ from (by decide : List.Nodup ([] : List Nat)), by rw [lva_256_38]; exact fun _ h => absurd h List.not_mem_nil⟩ h
    · replace h := h.2 c
      refine Pl.seg (pc' := 23) (ls' := [(0, .ref 97), (1, .int x1), (2, .int x2), (3, .int x3)]) (st' := [.int x2, .ref 97]) (σ' := σ1) hM 2 rfl ?_
      refine Pl.weak (Pl.cZ hM rfl rfl (by decide) (Mj := M_218) rfl rfl (fun w4 σ3 hw hz => ?_))
      replace h := h w4 σ3 hw hz
      refine Pl.br (c := w4 = 0) (a := 38) (b := 29) (ls' := [(0, .ref 97), (1, .int x1), (2, .int x2), (3, .int x3)]) (st' := []) (σ' := σ3) hM 1 rfl (fun c => ?_) (fun c => ?_)
      · replace h := h.1 c
        exact Pl.live (l' := []) hM lv_256 ⟨show ndL _ from (by decide : List.Nodup ([0, 1, 2, 3] : List Nat)), show ndL _ from (by decide : List.Nodup ([] : List Nat)), by rw [lva_256_38]; exact fun _ h => absurd h List.not_mem_nil⟩ h
      · replace h := h.2 c
        refine Pl.seg (pc' := 32) (ls' := [(0, .ref 97), (1, .int x1), (2, .int x2), (3, .int x3)]) (st' := [.int (1 : Int32), .int (0 : Int32), .int x3]) (σ' := σ3) hM 3 rfl ?_
        refine Pl.weak (Pl.cZ hM rfl rfl (by decide) (Mj := M_195) rfl rfl (fun w6 σ5 hw hz => ?_))
        replace h := h w6 σ5 hw hz
        refine Pl.brN (c := w6 = 0) (a := 40) (b := 38) (ls' := [(0, .ref 97), (1, .int x1), (2, .int x2), (3, .int x3)]) (st' := []) (σ' := σ5) hM 1 rfl (fun c => ?_) (fun c => ?_)
        · replace h := h.2 c
          refine Pl.seg (pc' := 43) (ls' := [(0, .ref 97), (1, .int x1), (2, .int x2), (3, .int x3)]) (st' := [.int x2, .int x1, .ref 97]) (σ' := σ5) hM 3 rfl ?_
          refine Pl.weak (Pl.cI hM rfl rfl (by decide) (Mj := M_255) rfl rfl (fun w8 σ7 hw => ?_))
          replace h := h w8 σ7 hw
          refine Pl.brN (c := x3 = 0) (a := 55) (b := 52) (ls' := [(4, .int w8), (0, .ref 97), (1, .int x1), (2, .int x2), (3, .int x3)]) (st' := []) (σ' := σ7) hM 3 rfl (fun c => ?_) (fun c => ?_)
          · replace h := h.2 c
            refine Pl.seg (pc' := 60) (ls' := [(4, .int w8), (0, .ref 97), (1, .int x1), (2, .int x2), (3, .int x3)]) (st' := [.int x1, .ref 127]) (σ' := σ7) hM 3 rfl ?_
            refine Pl.weak (Pl.iald hM rfl rfl (fun hi => ?_))
            replace h := h hi
            refine Pl.seg (pc' := 71) (ls' := [(5, .int (σ7.1 127 x1.toNatClampNeg)), (4, .int w8), (0, .ref 97), (1, .int x1), (2, .int x2), (3, .int x3)]) (st' := [.int x1, .ref 126, .int w8, .ref 97]) (σ' := σ7) hM 6 rfl ?_
            refine Pl.weak (Pl.iald hM rfl rfl (fun hi => ?_))
            replace h := h hi
            refine Pl.seg (pc' := 78) (ls' := [(5, .int (σ7.1 127 x1.toNatClampNeg)), (4, .int w8), (0, .ref 97), (1, .int x1), (2, .int x2), (3, .int x3)]) (st' := [.int (σ7.1 127 x1.toNatClampNeg), .ref 125, .int (σ7.1 126 x1.toNatClampNeg), .int w8, .ref 97]) (σ' := σ7) hM 3 rfl ?_
            refine Pl.weak (Pl.iald hM rfl rfl (fun hi => ?_))
            replace h := h hi
            refine Pl.seg (pc' := 83) (ls' := [(5, .int (σ7.1 127 x1.toNatClampNeg)), (4, .int w8), (0, .ref 97), (1, .int x1), (2, .int x2), (3, .int x3)]) (st' := [.int x1, .int (σ7.1 127 x1.toNatClampNeg), .ref 97, .int (σ7.1 125 (σ7.1 127 x1.toNatClampNeg).toNatClampNeg), .int (σ7.1 126 x1.toNatClampNeg), .int w8, .ref 97]) (σ' := σ7) hM 3 rfl ?_
            refine Pl.weak (Pl.cI hM rfl rfl (by decide) (Mj := M_225) rfl rfl (fun w10 σ9 hw => ?_))
            replace h := h w10 σ9 hw
            refine Pl.seg (pc' := 89) (ls' := [(5, .int (σ7.1 127 x1.toNatClampNeg)), (4, .int w8), (0, .ref 97), (1, .int x1), (2, .int x2), (3, .int x3)]) (st' := [.int ((σ7.1 125 (σ7.1 127 x1.toNatClampNeg).toNatClampNeg) &&& (w10 ^^^ (-1 : Int32))), .int (σ7.1 126 x1.toNatClampNeg), .int w8, .ref 97]) (σ' := σ9) hM 3 rfl ?_
            refine Pl.weak (Pl.cI hM rfl rfl (by decide) (Mj := M_254) rfl rfl (fun w12 σ11 hw => ?_))
            replace h := h w12 σ11 hw
            refine Pl.weak (Pl.ret hM rfl rfl h)
          · replace h := h.1 c
            refine Pl.seg (pc' := 54) (ls' := [(4, .int w8), (0, .ref 97), (1, .int x1), (2, .int x2), (3, .int x3)]) (st' := [.int w8]) (σ' := σ7) hM 1 rfl ?_
            refine Pl.weak (Pl.ret hM rfl rfl h)
        · replace h := h.1 c
          exact Pl.live (l' := []) hM lv_256 ⟨show ndL _ from (by decide : List.Nodup ([0, 1, 2, 3] : List Nat)), show ndL _ from (by decide : List.Nodup ([] : List Nat)), by rw [lva_256_38]; exact fun _ h => absurd h List.not_mem_nil⟩ h
set_option maxRecDepth 100000 in
theorem p_256_38 {n d : Nat} {Q : Option Value → Sg → Prop} (σ : Sg) (h : Q (some (.int (-1 : Int32))) σ) : Pl PRG (n + 1) d 256 38 [] [] σ Q := by
  have hM : PRG[256]? = some M_256 := rfl
  refine Pl.sg1 (pc' := 39) (ls' := []) (st' := [.int (-1 : Int32)]) (σ' := σ) hM 0 rfl ?_
  refine Pl.weak (Pl.ret hM rfl rfl h)
def LV_300 : List (Nat × List Nat) := [(0, [0, 1, 2]), (1, [0, 1, 2]), (4, [0, 1, 2]), (5, [0, 1, 2, 3]), (6, [0, 1, 2, 3]), (7, [0, 1, 2, 3]), (10, [0, 1, 2, 3]), (13, [0, 1, 2, 3]), (15, [0, 1, 2, 3, 4]), (17, [0, 1, 2, 3, 4]), (18, [0, 1, 2, 3, 4]), (21, [0, 1, 2, 3, 4]), (22, [0, 1, 2, 3, 4]), (25, [0, 1, 2, 3, 4]), (26, [0, 1, 2, 3, 4]), (27, [0, 1, 2, 3, 4]), (30, [0, 1, 2, 3, 4]), (32, [0, 1, 2, 3, 4]), (35, [0, 1, 2, 3, 4]), (36, [0, 1, 2, 3, 4]), (39, [0, 1, 2, 3, 4]), (40, [0, 1, 2, 3, 4]), (42, [0, 1, 2, 3, 4, 5]), (43, [0, 1, 2, 3, 4, 5]), (45, [0, 1, 2, 3, 4, 5, 6]), (46, [0, 1, 2, 3, 4, 5, 6]), (48, [0, 1, 2, 3, 4, 5, 6, 7]), (50, [0, 1, 2, 3, 4, 5, 6, 7]), (51, [0, 1, 2, 3, 4, 5, 6, 7]), (54, [0, 1, 2, 3, 4, 5, 6, 7]), (57, [0, 1, 2, 3, 4, 5, 6, 7]), (58, [0, 1, 2, 3, 4, 5, 6, 7]), (61, [0, 1, 2, 3, 4, 5, 6, 7]), (63, [0, 1, 2, 3, 4, 5, 6, 7]), (64, [0, 1, 2, 3, 4, 5, 6, 7]), (65, [0, 1, 2, 3, 4, 5, 6, 7]), (68, [0, 1, 2, 3, 4, 5, 6, 7]), (69, [0, 1, 2, 3, 4, 5, 6, 7]), (70, [0, 1, 2, 3, 4, 5, 6, 7]), (73, [0, 1, 2, 3, 4, 5, 6, 7]), (75, [0, 1, 2, 3, 4, 5, 6, 7]), (76, [0, 1, 2, 3, 4, 5, 6, 7]), (79, [0, 1, 2, 3, 4, 5, 6, 7]), (80, [0, 1, 2, 3, 4, 5, 6, 7]), (81, [0, 1, 2, 3, 4, 5, 6, 7]), (84, [0, 1, 2, 3, 4, 5, 6, 7]), (87, [0, 1, 2, 3, 4, 5, 7]), (88, [0, 1, 2, 3, 4, 5, 7]), (89, [0, 1, 2, 3, 4, 5, 7]), (92, [0, 1, 2, 3, 4, 5, 7]), (94, [0, 1, 2, 3, 4, 5, 7]), (95, [0, 1, 2, 3, 4, 5, 7]), (98, [0, 1, 2, 3, 4, 5, 7]), (100, [0, 1, 2, 3, 4, 5, 6, 7]), (103, [0, 1, 2, 3, 4, 5, 6, 7]), (106, [0, 1, 2, 3, 4, 5, 6]), (107, [0, 1, 2, 3, 4, 5, 6]), (108, [0, 1, 2, 3, 4, 5, 6]), (109, [0, 1, 3, 4, 5, 6]), (110, [0, 1, 3, 4, 5, 6]), (112, [0, 1, 3, 4, 6]), (113, [0, 1, 3, 4, 6]), (115, [0, 1, 3, 6]), (116, [0, 1, 3, 6]), (119, [0, 1, 3, 6]), (120, [0, 1, 3, 6]), (121, [0, 1, 3, 6]), (123, [0, 1, 3]), (126, [0, 1, 3]), (127, [0, 3]), (128, [3]), (129, []), (132, []), (135, [])]
set_option maxRecDepth 100000 in
theorem lv_300 : chkLv M_300 LV_300 = true := by decide +kernel
set_option maxRecDepth 100000 in
theorem lva_300_48 : lvA LV_300 48 = [0, 1, 2, 3, 4, 5, 6, 7] := by decide +kernel
set_option maxRecDepth 100000 in
theorem lva_300_100 : lvA LV_300 100 = [0, 1, 2, 3, 4, 5, 6, 7] := by decide +kernel
set_option maxRecDepth 100000 in
theorem p_300_0 {n d : Nat} {Q : Option Value → Sg → Prop} (σ : Sg) (x1 x2 : Int32) (h : (∀ w2 σ1, RCx PRG n 230 [.ref 97] σ (some (.int w2)) σ1 → (∀ w4 σ3, RCx PRG n 232 [.ref 97, .int (σ1.1 97 48)] σ1 (some (.int w4)) σ3 → ((w4 = (-1 : Int32) → Pl PRG n d 300 48 [(0, .ref 97), (1, .int x1), (2, .int x2), (3, .int w2), (4, .int w4), (5, .int (0 : Int32)), (6, .int (-1 : Int32)), (7, .int (0 : Int32))] [] σ3 Q) ∧ (¬ w4 = (-1 : Int32) → (∀ w6 σ5, RCx PRG n 212 [.ref 97, .int x1] σ3 (some (.int w6)) σ5 → ((w6 = w4 → Pl PRG n d 300 48 [(0, .ref 97), (1, .int x1), (2, .int x2), (3, .int w2), (4, .int w4), (5, .int (1 : Int32)), (6, .int (-1 : Int32)), (7, .int (0 : Int32))] [] σ5 Q) ∧ (¬ w6 = w4 → Pl PRG n d 300 48 [(0, .ref 97), (1, .int x1), (2, .int x2), (3, .int w2), (4, .int w4), (5, .int (2 : Int32)), (6, .int (-1 : Int32)), (7, .int (0 : Int32))] [] σ5 Q)))))))) : Pl PRG (n + 1) d 300 0 [(0, .ref 97), (1, .int x1), (2, .int x2)] [] σ Q := by
  have hM : PRG[300]? = some M_300 := rfl
  refine Pl.sg1 (pc' := 1) (ls' := [(0, .ref 97), (1, .int x1), (2, .int x2)]) (st' := [.ref 97]) (σ' := σ) hM 0 rfl ?_
  refine Pl.weak (Pl.cI hM rfl rfl (by decide) (Mj := M_230) rfl rfl (fun w2 σ1 hw => ?_))
  replace h := h w2 σ1 hw
  refine Pl.seg (pc' := 10) (ls' := [(3, .int w2), (0, .ref 97), (1, .int x1), (2, .int x2)]) (st' := [.int (σ1.1 97 48), .ref 97]) (σ' := σ1) hM 4 rfl ?_
  refine Pl.weak (Pl.cI hM rfl rfl (by decide) (Mj := M_232) rfl rfl (fun w4 σ3 hw => ?_))
  replace h := h w4 σ3 hw
  refine Pl.brN (c := w4 = (-1 : Int32)) (a := 25) (b := 21) (ls' := [(4, .int w4), (3, .int w2), (0, .ref 97), (1, .int x1), (2, .int x2)]) (st' := []) (σ' := σ3) hM 4 rfl (fun c => ?_) (fun c => ?_)
  · replace h := h.2 c
    refine Pl.seg (pc' := 27) (ls' := [(4, .int w4), (3, .int w2), (0, .ref 97), (1, .int x1), (2, .int x2)]) (st' := [.int x1, .ref 97]) (σ' := σ3) hM 2 rfl ?_
    refine Pl.weak (Pl.cI hM rfl rfl (by decide) (Mj := M_212) rfl rfl (fun w6 σ5 hw => ?_))
    replace h := h w6 σ5 hw
    refine Pl.brN (c := w6 = w4) (a := 39) (b := 35) (ls' := [(4, .int w4), (3, .int w2), (0, .ref 97), (1, .int x1), (2, .int x2)]) (st' := []) (σ' := σ5) hM 2 rfl (fun c => ?_) (fun c => ?_)
    · replace h := h.2 c
      refine Pl.seg (pc' := 48) (ls' := [(7, .int (0 : Int32)), (6, .int (-1 : Int32)), (5, .int (2 : Int32)), (4, .int w4), (3, .int w2), (0, .ref 97), (1, .int x1), (2, .int x2)]) (st' := []) (σ' := σ5) hM 6 rfl ?_
      exact Pl.live (l' := [(0, .ref 97), (1, .int x1), (2, .int x2), (3, .int w2), (4, .int w4), (5, .int (2 : Int32)), (6, .int (-1 : Int32)), (7, .int (0 : Int32))]) hM lv_300 ⟨show ndL _ from (by decide : List.Nodup ([7, 6, 5, 4, 3, 0, 1, 2] : List Nat)), show ndL _ from (by decide : List.Nodup ([0, 1, 2, 3, 4, 5, 6, 7] : List Nat)), by rw [lva_300_48]; exact List.forall_mem_cons.mpr ⟨rfl, List.forall_mem_cons.mpr ⟨rfl, List.forall_mem_cons.mpr ⟨rfl, List.forall_mem_cons.mpr ⟨rfl, List.forall_mem_cons.mpr ⟨rfl, List.forall_mem_cons.mpr ⟨rfl, List.forall_mem_cons.mpr ⟨rfl, List.forall_mem_cons.mpr ⟨rfl, fun _ h => absurd h List.not_mem_nil⟩⟩⟩⟩⟩⟩⟩⟩⟩ h
    · replace h := h.1 c
      refine Pl.seg (pc' := 48) (ls' := [(7, .int (0 : Int32)), (6, .int (-1 : Int32)), (5, .int (1 : Int32)), (4, .int w4), (3, .int w2), (0, .ref 97), (1, .int x1), (2, .int x2)]) (st' := []) (σ' := σ5) hM 7 rfl ?_
      exact Pl.live (l' := [(0, .ref 97), (1, .int x1), (2, .int x2), (3, .int w2), (4, .int w4), (5, .int (1 : Int32)), (6, .int (-1 : Int32)), (7, .int (0 : Int32))]) hM lv_300 ⟨show ndL _ from (by decide : List.Nodup ([7, 6, 5, 4, 3, 0, 1, 2] : List Nat)), show ndL _ from (by decide : List.Nodup ([0, 1, 2, 3, 4, 5, 6, 7] : List Nat)), by rw [lva_300_48]; exact List.forall_mem_cons.mpr ⟨rfl, List.forall_mem_cons.mpr ⟨rfl, List.forall_mem_cons.mpr ⟨rfl, List.forall_mem_cons.mpr ⟨rfl, List.forall_mem_cons.mpr ⟨rfl, List.forall_mem_cons.mpr ⟨rfl, List.forall_mem_cons.mpr ⟨rfl, List.forall_mem_cons.mpr ⟨rfl, fun _ h => absurd h List.not_mem_nil⟩⟩⟩⟩⟩⟩⟩⟩⟩ h
  · replace h := h.1 c
    refine Pl.seg (pc' := 48) (ls' := [(7, .int (0 : Int32)), (6, .int (-1 : Int32)), (5, .int (0 : Int32)), (4, .int w4), (3, .int w2), (0, .ref 97), (1, .int x1), (2, .int x2)]) (st' := []) (σ' := σ3) hM 7 rfl ?_
    exact Pl.live (l' := [(0, .ref 97), (1, .int x1), (2, .int x2), (3, .int w2), (4, .int w4), (5, .int (0 : Int32)), (6, .int (-1 : Int32)), (7, .int (0 : Int32))]) hM lv_300 ⟨show ndL _ from (by decide : List.Nodup ([7, 6, 5, 4, 3, 0, 1, 2] : List Nat)), show ndL _ from (by decide : List.Nodup ([0, 1, 2, 3, 4, 5, 6, 7] : List Nat)), by rw [lva_300_48]; exact List.forall_mem_cons.mpr ⟨rfl, List.forall_mem_cons.mpr ⟨rfl, List.forall_mem_cons.mpr ⟨rfl, List.forall_mem_cons.mpr ⟨rfl, List.forall_mem_cons.mpr ⟨rfl, List.forall_mem_cons.mpr ⟨rfl, List.forall_mem_cons.mpr ⟨rfl, List.forall_mem_cons.mpr ⟨rfl, fun _ h => absurd h List.not_mem_nil⟩⟩⟩⟩⟩⟩⟩⟩⟩ h
set_option maxRecDepth 100000 in
theorem p_300_48 {n d : Nat} {Q : Option Value → Sg → Prop} (σ : Sg) (x1 x2 x3 x4 x5 x6 x7 : Int32) (h : (((σ.1 97 48) ≤ x7 → (∀ w2 σ1, RCx PRG n 253 [.ref 97, .int x2, .int x3, .int x5, .int x1, .int x4, .int ((σ.1 97 48) / (4 : Int32)), .int x6] σ (some (.int w2)) σ1 → (∀ w4 σ3, RCx PRG n 226 [.ref 97, .int x3] σ1 (some (.int w4)) σ3 → (∀ w6 σ5, RCx PRG n 254 [.ref 97, .int w2, .int x1, .int w4] σ3 (some (.int w6)) σ5 → Q (some (.int w6)) σ5)))) ∧ (¬ (σ.1 97 48) ≤ x7 → (inR x7 16 = true → (((σ.1 127 x7.toNatClampNeg) = x3 → (inR x7 16 = true → (∀ w8 σ7, RCx PRG n 212 [.ref 97, .int (σ.1 126 x7.toNatClampNeg)] σ (some (.int w8)) σ7 → (∀ w10 σ9, RCx PRG n 212 [.ref 97, .int x1] σ7 (some (.int w10)) σ9 → ((w8 = w10 → (inR x7 16 = true → (∀ w12 σ11, RCx PRG n 213 [.ref 97, .int (σ9.1 126 x7.toNatClampNeg)] σ9 (some (.int w12)) σ11 → Pl PRG n d 300 100 [(0, .ref 97), (1, .int x1), (2, .int x2), (3, .int x3), (4, .int x4), (5, .int x5), (6, .int w12), (7, .int x7)] [] σ11 Q))) ∧ (¬ w8 = w10 → Pl PRG n d 300 100 [(0, .ref 97), (1, .int x1), (2, .int x2), (3, .int x3), (4, .int x4), (5, .int x5), (6, .int x6), (7, .int x7)] [] σ9 Q)))))) ∧ (¬ (σ.1 127 x7.toNatClampNeg) = x3 → Pl PRG n d 300 100 [(0, .ref 97), (1, .int x1), (2, .int x2), (3, .int x3), (4, .int x4), (5, .int x5), (6, .int x6), (7, .int x7)] [] σ Q)))))) : Pl PRG (n + 1) d 300 48 [(0, .ref 97), (1, .int x1), (2, .int x2), (3, .int x3), (4, .int x4), (5, .int x5), (6, .int x6), (7, .int x7)] [] σ Q := by
  have hM : PRG[300]? = some M_300 := rfl
  refine Pl.br1 (c := (σ.1 97 48) ≤ x7) (a := 106) (b := 57) (ls' := [(0, .ref 97), (1, .int x1), (2, .int x2), (3, .int x3), (4, .int x4), (5, .int x5), (6, .int x6), (7, .int x7)]) (st' := []) (σ' := σ) hM 3 rfl (fun c => ?_) (fun c => ?_)
  · replace h := h.1 c
    refine Pl.seg (pc' := 123) (ls' := [(0, .ref 97), (1, .int x1), (2, .int x2), (3, .int x3), (4, .int x4), (5, .int x5), (6, .int x6), (7, .int x7)]) (st' := [.int x6, .int ((σ.1 97 48) / (4 : Int32)), .int x4, .int x1, .int x5, .int x3, .int x2, .ref 97, .ref 97]) (σ' := σ) hM 12 rfl ?_
    refine Pl.weak (Pl.cI hM rfl rfl (by decide) (Mj := M_253) rfl rfl (fun w2 σ1 hw => ?_))
    replace h := h w2 σ1 hw
    refine Pl.seg (pc' := 129) (ls' := [(0, .ref 97), (1, .int x1), (2, .int x2), (3, .int x3), (4, .int x4), (5, .int x5), (6, .int x6), (7, .int x7)]) (st' := [.int x3, .ref 97, .int x1, .int w2, .ref 97]) (σ' := σ1) hM 3 rfl ?_
    refine Pl.weak (Pl.cI hM rfl rfl (by decide) (Mj := M_226) rfl rfl (fun w4 σ3 hw => ?_))
    replace h := h w4 σ3 hw
    refine Pl.weak (Pl.cI hM rfl rfl (by decide) (Mj := M_254) rfl rfl (fun w6 σ5 hw => ?_))
    replace h := h w6 σ5 hw
    refine Pl.weak (Pl.ret hM rfl rfl h)
  · replace h := h.2 c
    refine Pl.seg (pc' := 63) (ls' := [(0, .ref 97), (1, .int x1), (2, .int x2), (3, .int x3), (4, .int x4), (5, .int x5), (6, .int x6), (7, .int x7)]) (st' := [.int x7, .ref 127]) (σ' := σ) hM 3 rfl ?_
    refine Pl.weak (Pl.iald hM rfl rfl (fun hi => ?_))
    replace h := h hi
    refine Pl.brN (c := (σ.1 127 x7.toNatClampNeg) = x3) (a := 100) (b := 68) (ls' := [(0, .ref 97), (1, .int x1), (2, .int x2), (3, .int x3), (4, .int x4), (5, .int x5), (6, .int x6), (7, .int x7)]) (st' := []) (σ' := σ) hM 2 rfl (fun c => ?_) (fun c => ?_)
    · replace h := h.2 c
      exact Pl.live (l' := [(0, .ref 97), (1, .int x1), (2, .int x2), (3, .int x3), (4, .int x4), (5, .int x5), (6, .int x6), (7, .int x7)]) hM lv_300 ⟨show ndL _ from (by decide : List.Nodup ([0, 1, 2, 3, 4, 5, 6, 7] : List Nat)), show ndL _ from (by decide : List.Nodup ([0, 1, 2, 3, 4, 5, 6, 7] : List Nat)), by rw [lva_300_100]; exact List.forall_mem_cons.mpr ⟨rfl, List.forall_mem_cons.mpr ⟨rfl, List.forall_mem_cons.mpr ⟨rfl, List.forall_mem_cons.mpr ⟨rfl, List.forall_mem_cons.mpr ⟨rfl, List.forall_mem_cons.mpr ⟨rfl, List.forall_mem_cons.mpr ⟨rfl, List.forall_mem_cons.mpr ⟨rfl, fun _ h => absurd h List.not_mem_nil⟩⟩⟩⟩⟩⟩⟩⟩⟩ h
    · replace h := h.1 c
      refine Pl.seg (pc' := 75) (ls' := [(0, .ref 97), (1, .int x1), (2, .int x2), (3, .int x3), (4, .int x4), (5, .int x5), (6, .int x6), (7, .int x7)]) (st' := [.int x7, .ref 126, .ref 97]) (σ' := σ) hM 4 rfl ?_
      refine Pl.weak (Pl.iald hM rfl rfl (fun hi => ?_))
      replace h := h hi
      refine Pl.weak (Pl.cI hM rfl rfl (by decide) (Mj := M_212) rfl rfl (fun w8 σ7 hw => ?_))
      replace h := h w8 σ7 hw
      refine Pl.seg (pc' := 81) (ls' := [(0, .ref 97), (1, .int x1), (2, .int x2), (3, .int x3), (4, .int x4), (5, .int x5), (6, .int x6), (7, .int x7)]) (st' := [.int x1, .ref 97, .int w8]) (σ' := σ7) hM 2 rfl ?_
      refine Pl.weak (Pl.cI hM rfl rfl (by decide) (Mj := M_212) rfl rfl (fun w10 σ9 hw => ?_))
      replace h := h w10 σ9 hw
      refine Pl.brN (c := w8 = w10) (a := 100) (b := 87) (ls' := [(0, .ref 97), (1, .int x1), (2, .int x2), (3, .int x3), (4, .int x4), (5, .int x5), (6, .int x6), (7, .int x7)]) (st' := []) (σ' := σ9) hM 1 rfl (fun c => ?_) (fun c => ?_)
      · replace h := h.2 c
        exact Pl.live (l' := [(0, .ref 97), (1, .int x1), (2, .int x2), (3, .int x3), (4, .int x4), (5, .int x5), (6, .int x6), (7, .int x7)]) hM lv_300 ⟨show ndL _ from (by decide : List.Nodup ([0, 1, 2, 3, 4, 5, 6, 7] : List Nat)), show ndL _ from (by decide : List.Nodup ([0, 1, 2, 3, 4, 5, 6, 7] : List Nat)), by rw [lva_300_100]; exact List.forall_mem_cons.mpr ⟨rfl, List.forall_mem_cons.mpr ⟨rfl, List.forall_mem_cons.mpr ⟨rfl, List.forall_mem_cons.mpr ⟨rfl, List.forall_mem_cons.mpr ⟨rfl, List.forall_mem_cons.mpr ⟨rfl, List.forall_mem_cons.mpr ⟨rfl, List.forall_mem_cons.mpr ⟨rfl, fun _ h => absurd h List.not_mem_nil⟩⟩⟩⟩⟩⟩⟩⟩⟩ h
      · replace h := h.1 c
        refine Pl.seg (pc' := 94) (ls' := [(0, .ref 97), (1, .int x1), (2, .int x2), (3, .int x3), (4, .int x4), (5, .int x5), (6, .int x6), (7, .int x7)]) (st' := [.int x7, .ref 126, .ref 97]) (σ' := σ9) hM 4 rfl ?_
        refine Pl.weak (Pl.iald hM rfl rfl (fun hi => ?_))
        replace h := h hi
        refine Pl.weak (Pl.cI hM rfl rfl (by decide) (Mj := M_213) rfl rfl (fun w12 σ11 hw => ?_))
        replace h := h w12 σ11 hw
        refine Pl.seg (pc' := 100) (ls' := [(6, .int w12), (0, .ref 97), (1, .int x1), (2, .int x2), (3, .int x3), (4, .int x4), (5, .int x5), (7, .int x7)]) (st' := []) (σ' := σ11) hM 1 rfl ?_
        exact Pl.live (l' := [(0, .ref 97), (1, .int x1), (2, .int x2), (3, .int x3), (4, .int x4), (5, .int x5), (6, .int w12), (7, .int x7)]) hM lv_300 ⟨show ndL _ from (by decide : List.Nodup ([6, 0, 1, 2, 3, 4, 5, 7] : List Nat)), show ndL _ from (by decide : List.Nodup ([0, 1, 2, 3, 4, 5, 6, 7] : List Nat)), by rw [lva_300_100]; exact List.forall_mem_cons.mpr ⟨rfl, List.forall_mem_cons.mpr ⟨rfl, List.forall_mem_cons.mpr ⟨rfl, List.forall_mem_cons.mpr ⟨rfl, List.forall_mem_cons.mpr ⟨rfl, List.forall_mem_cons.mpr ⟨rfl, List.forall_mem_cons.mpr ⟨rfl, List.forall_mem_cons.mpr ⟨rfl, fun _ h => absurd h List.not_mem_nil⟩⟩⟩⟩⟩⟩⟩⟩⟩ h
set_option maxRecDepth 100000 in
theorem p_300_100 {n d : Nat} {Q : Option Value → Sg → Prop} (σ : Sg) (x1 x2 x3 x4 x5 x6 x7 : Int32) (h : Pl PRG n d 300 48 [(0, .ref 97), (1, .int x1), (2, .int x2), (3, .int x3), (4, .int x4), (5, .int x5), (6, .int x6), (7, .int (x7 + (1 : Int32)))] [] σ Q) : Pl PRG (n + 1) d 300 100 [(0, .ref 97), (1, .int x1), (2, .int x2), (3, .int x3), (4, .int x4), (5, .int x5), (6, .int x6), (7, .int x7)] [] σ Q := by
  have hM : PRG[300]? = some M_300 := rfl
  refine Pl.sg1 (pc' := 48) (ls' := [(7, .int (x7 + (1 : Int32))), (0, .ref 97), (1, .int x1), (2, .int x2), (3, .int x3), (4, .int x4), (5, .int x5), (6, .int x6)]) (st' := []) (σ' := σ) hM 1 rfl ?_
  exact Pl.live (l' := [(0, .ref 97), (1, .int x1), (2, .int x2), (3, .int x3), (4, .int x4), (5, .int x5), (6, .int x6), (7, .int (x7 + (1 : Int32)))]) hM lv_300 ⟨show ndL _ from (by decide : List.Nodup ([7, 0, 1, 2, 3, 4, 5, 6] : List Nat)), show ndL _ from (by decide : List.Nodup ([0, 1, 2, 3, 4, 5, 6, 7] : List Nat)), by rw [lva_300_48]; exact List.forall_mem_cons.mpr ⟨rfl, List.forall_mem_cons.mpr ⟨rfl, List.forall_mem_cons.mpr ⟨rfl, List.forall_mem_cons.mpr ⟨rfl, List.forall_mem_cons.mpr ⟨rfl, List.forall_mem_cons.mpr ⟨rfl, List.forall_mem_cons.mpr ⟨rfl, List.forall_mem_cons.mpr ⟨rfl, fun _ h => absurd h List.not_mem_nil⟩⟩⟩⟩⟩⟩⟩⟩⟩ h
def LV_301 : List (Nat × List Nat) := [(0, [0, 1]), (1, [0, 1]), (4, [0, 1]), (7, [0, 1]), (8, [0, 1]), (9, [0, 1]), (12, [0, 1]), (15, [0, 1]), (16, [0, 1]), (19, [0, 1]), (20, [0, 1]), (21, [0, 1]), (22, [0, 1]), (23, [0, 1]), (26, []), (27, []), (28, [0, 1]), (29, [0, 1]), (30, [0]), (31, [0]), (32, [0]), (35, [0]), (36, []), (39, []), (40, []), (41, []), (42, []), (43, []), (46, [])]
set_option maxRecDepth 100000 in
theorem lv_301 : chkLv M_301 LV_301 = true := by decide +kernel
set_option maxRecDepth 100000 in
theorem lva_301_26 : lvA LV_301 26 = [] := by decide +kernel
set_option maxRecDepth 100000 in
theorem p_301_0 {n d : Nat} {Q : Option Value → Sg → Prop} (σ : Sg) (x1 : Int32) (h : (∀ w2 σ1, RCx PRG n 230 [.ref 97] σ (some (.int w2)) σ1 → ((w2 < 0 → Pl PRG n d 301 26 [] [] σ1 Q) ∧ (¬ w2 < 0 → (∀ w4 σ3, RCx PRG n 217 [.ref 97, .int x1] σ1 (some (.int w4)) σ3 → (w4 = 0 ∨ w4 = 1) → ((w4 = 0 → Pl PRG n d 301 26 [] [] σ3 Q) ∧ (¬ w4 = 0 → (∀ w6 σ5, RCx PRG n 233 [.ref 97] σ3 (some (.int w6)) σ5 → ((((w6 >>> (x1 &&& 31)) &&& (1 : Int32)) = 0 → Pl PRG n d 301 26 [] [] σ5 Q) ∧ (¬ ((w6 >>> (x1 &&& 31)) &&& (1 : Int32)) = 0 → (inR (σ5.1 97 18) 2 = true → (∀ w8 σ7, RCx PRG n 300 [.ref 97, .int x1, .int (((1 : Int32) <<< ((σ5.1 109 (σ5.1 97 18).toNatClampNeg) &&& 31)) - (1 : Int32))] σ5 (some (.int w8)) σ7 → Q (some (.int w8)) σ7)))))))))))) : Pl PRG (n + 1) d 301 0 [(0, .ref 97), (1, .int x1)] [] σ Q := by
  have hM : PRG[301]? = some M_301 := rfl
  refine Pl.sg1 (pc' := 1) (ls' := [(0, .ref 97), (1, .int x1)]) (st' := [.ref 97]) (σ' := σ) hM 0 rfl ?_
  refine Pl.weak (Pl.cI hM rfl rfl (by decide) (Mj := M_230) rfl rfl (fun w2 σ1 hw => ?_))
  replace h := h w2 σ1 hw
  refine Pl.br (c := w2 < 0) (a := 26) (b := 7) (ls' := [(0, .ref 97), (1, .int x1)]) (st' := []) (σ' := σ1) hM 1 rfl (fun c => ?_) (fun c => ?_)
  · replace h := h.1 c
    exact Pl.live (l' := []) hM lv_301 ⟨show ndL _ from (by decide : List.Nodup ([0, 1] : List Nat)), show ndL _ from (by decide : List.Nodup ([] : List Nat)), by rw [lva_301_26]; exact fun _ h => absurd h List.not_mem_nil⟩ h
  · replace h := h.2 c
    refine Pl.seg (pc' := 9) (ls' := [(0, .ref 97), (1, .int x1)]) (st' := [.int x1, .ref 97]) (σ' := σ1) hM 2 rfl ?_
    refine Pl.weak (Pl.cZ hM rfl rfl (by decide) (Mj := M_217) rfl rfl (fun w4 σ3 hw hz => ?_))
    replace h := h w4 σ3 hw hz
    refine Pl.br (c := w4 = 0) (a := 26) (b := 15) (ls' := [(0, .ref 97), (1, .int x1)]) (st' := []) (σ' := σ3) hM 1 rfl (fun c => ?_) (fun c => ?_)
    · replace h := h.1 c
      exact Pl.live (l' := []) hM lv_301 ⟨show ndL _ from (by decide : List.Nodup ([0, 1] : List Nat)), show ndL _ from (by decide : List.Nodup ([] : List Nat)), by rw [lva_301_26]; exact fun _ h => absurd h List.not_mem_nil⟩ h
    · replace h := h.2 c
      refine Pl.seg (pc' := 16) (ls' := [(0, .ref 97), (1, .int x1)]) (st' := [.ref 97]) (σ' := σ3) hM 1 rfl ?_
      refine Pl.weak (Pl.cI hM rfl rfl (by decide) (Mj := M_233) rfl rfl (fun w6 σ5 hw => ?_))
      replace h := h w6 σ5 hw
      refine Pl.brN (c := ((w6 >>> (x1 &&& 31)) &&& (1 : Int32)) = 0) (a := 28) (b := 26) (ls' := [(0, .ref 97), (1, .int x1)]) (st' := []) (σ' := σ5) hM 5 rfl (fun c => ?_) (fun c => ?_)
      · replace h := h.2 c
        refine Pl.seg (pc' := 39) (ls' := [(0, .ref 97), (1, .int x1)]) (st' := [.int (σ5.1 97 18), .ref 109, .int (1 : Int32), .int x1, .ref 97]) (σ' := σ5) hM 7 rfl ?_
        refine Pl.weak (Pl.iald hM rfl rfl (fun hi => ?_))
        replace h := h hi
        refine Pl.seg (pc' := 43) (ls' := [(0, .ref 97), (1, .int x1)]) (st' := [.int (((1 : Int32) <<< ((σ5.1 109 (σ5.1 97 18).toNatClampNeg) &&& 31)) - (1 : Int32)), .int x1, .ref 97]) (σ' := σ5) hM 3 rfl ?_
        refine Pl.weak (Pl.cI hM rfl rfl (by decide) (Mj := M_300) rfl rfl (fun w8 σ7 hw => ?_))
        replace h := h w8 σ7 hw
        refine Pl.weak (Pl.ret hM rfl rfl h)
      · replace h := h.1 c
        exact Pl.live (l' := []) hM lv_301 ⟨show ndL _ from (by decide : List.Nodup ([0, 1] : List Nat)), show ndL _ from (by decide : List.Nodup ([] : List Nat)), by rw [lva_301_26]; exact fun _ h => absurd h List.not_mem_nil⟩ h
set_option maxRecDepth 100000 in
theorem p_301_26 {n d : Nat} {Q : Option Value → Sg → Prop} (σ : Sg) (h : Q (some (.int (-1 : Int32))) σ) : Pl PRG (n + 1) d 301 26 [] [] σ Q := by
  have hM : PRG[301]? = some M_301 := rfl
  refine Pl.sg1 (pc' := 27) (ls' := []) (st' := [.int (-1 : Int32)]) (σ' := σ) hM 0 rfl ?_
  refine Pl.weak (Pl.ret hM rfl rfl h)
def LV_311 : List (Nat × List Nat) := [(0, [0, 1, 2, 3]), (1, [0, 1, 2, 3]), (3, [0, 1, 2, 3, 4]), (4, [0, 1, 2, 3, 4]), (6, [0, 1, 2, 3, 4, 5]), (8, [0, 1, 2, 3, 4, 5]), (9, [0, 1, 2, 3, 4, 5]), (12, [0, 1, 2, 3, 4, 5]), (14, [0, 1, 2, 3, 5]), (15, [0, 1, 2, 3, 5]), (18, [0, 1, 2, 3, 5]), (19, [0, 1, 2, 3, 5]), (22, [0, 1, 2, 3, 5]), (24, [0, 1, 2, 3, 5]), (26, [0, 1, 2, 3, 5]), (27, [0, 1, 2, 3, 5]), (28, [0, 1, 2, 3, 5]), (29, [0, 1, 2, 3, 5]), (30, [0, 1, 2, 3, 5]), (33, [0, 1, 2, 3, 5]), (34, [0, 1, 2, 3, 5]), (37, [0, 1, 2, 3, 5]), (39, [0, 1, 2, 3, 5]), (41, [0, 1, 2, 3, 5]), (42, [0, 1, 2, 3, 5]), (43, [0, 1, 2, 3, 5]), (44, [0, 1, 2, 3, 5]), (45, [0, 1, 2, 3, 5]), (46, [0, 1, 2, 3, 5]), (48, [0, 1, 2, 3, 4, 5]), (51, [0, 1, 2, 3, 4, 5]), (54, [4]), (56, [])]
set_option maxRecDepth 100000 in
theorem lv_311 : chkLv M_311 LV_311 = true := by decide +kernel
set_option maxRecDepth 100000 in
theorem lva_311_6 : lvA LV_311 6 = [0, 1, 2, 3, 4, 5] := by decide +kernel
set_option maxRecDepth 100000 in
theorem p_311_0 {n d : Nat} {Q : Option Value → Sg → Prop} (σ : Sg) (x1 x2 x3 : Int32) (h : Pl PRG n d 311 6 [(0, .ref 97), (1, .int x1), (2, .int x2), (3, .int x3), (4, .int (0 : Int32)), (5, .int (0 : Int32))] [] σ Q) : Pl PRG (n + 1) d 311 0 [(0, .ref 97), (1, .int x1), (2, .int x2), (3, .int x3)] [] σ Q := by
  have hM : PRG[311]? = some M_311 := rfl
  refine Pl.sg1 (pc' := 6) (ls' := [(5, .int (0 : Int32)), (4, .int (0 : Int32)), (0, .ref 97), (1, .int x1), (2, .int x2), (3, .int x3)]) (st' := []) (σ' := σ) hM 3 rfl ?_
  exact Pl.live (l' := [(0, .ref 97), (1, .int x1), (2, .int x2), (3, .int x3), (4, .int (0 : Int32)), (5, .int (0 : Int32))]) hM lv_311 ⟨show ndL _ from (by decide : List.Nodup ([5, 4, 0, 1, 2, 3] : List Nat)), show ndL _ from (by decide : List.Nodup ([0, 1, 2, 3, 4, 5] : List Nat)), by rw [lva_311_6]; exact List.forall_mem_cons.mpr ⟨rfl, List.forall_mem_cons.mpr ⟨rfl, List.forall_mem_cons.mpr ⟨rfl, List.forall_mem_cons.mpr ⟨rfl, List.forall_mem_cons.mpr ⟨rfl, List.forall_mem_cons.mpr ⟨rfl, fun _ h => absurd h List.not_mem_nil⟩⟩⟩⟩⟩⟩⟩ h
set_option maxRecDepth 100000 in
theorem p_311_6 {n d : Nat} {Q : Option Value → Sg → Prop} (σ : Sg) (x1 x2 x3 x4 x5 : Int32) (h : ((x2 ≤ x5 → Q (some (.int x4)) σ) ∧ (¬ x2 ≤ x5 → ((x3 = 0 → (inR (((6 : Int32) * x5) + x1) 48 = true → Pl PRG n d 311 6 [(0, .ref 97), (1, .int x1), (2, .int x2), (3, .int x3), (4, .int (x4 + (σ.1 150 (((6 : Int32) * x5) + x1).toNatClampNeg))), (5, .int (x5 + (1 : Int32)))] [] σ Q)) ∧ (¬ x3 = 0 → (inR (((6 : Int32) * x5) + x1) 48 = true → Pl PRG n d 311 6 [(0, .ref 97), (1, .int x1), (2, .int x2), (3, .int x3), (4, .int (x4 + (σ.1 151 (((6 : Int32) * x5) + x1).toNatClampNeg))), (5, .int (x5 + (1 : Int32)))] [] σ Q)))))) : Pl PRG (n + 1) d 311 6 [(0, .ref 97), (1, .int x1), (2, .int x2), (3, .int x3), (4, .int x4), (5, .int x5)] [] σ Q := by
  have hM : PRG[311]? = some M_311 := rfl
  refine Pl.br1 (c := x2 ≤ x5) (a := 54) (b := 12) (ls' := [(0, .ref 97), (1, .int x1), (2, .int x2), (3, .int x3), (4, .int x4), (5, .int x5)]) (st' := []) (σ' := σ) hM 2 rfl (fun c => ?_) (fun c => ?_)
  · replace h := h.1 c
    refine Pl.seg (pc' := 56) (ls' := [(0, .ref 97), (1, .int x1), (2, .int x2), (3, .int x3), (4, .int x4), (5, .int x5)]) (st' := [.int x4]) (σ' := σ) hM 1 rfl ?_
    refine Pl.weak (Pl.ret hM rfl rfl h)
  · replace h := h.2 c
    refine Pl.br (c := x3 = 0) (a := 33) (b := 18) (ls' := [(0, .ref 97), (1, .int x1), (2, .int x2), (3, .int x3), (4, .int x4), (5, .int x5)]) (st' := [.int x4]) (σ' := σ) hM 3 rfl (fun c => ?_) (fun c => ?_)
    · replace h := h.1 c
      refine Pl.seg (pc' := 44) (ls' := [(0, .ref 97), (1, .int x1), (2, .int x2), (3, .int x3), (4, .int x4), (5, .int x5)]) (st' := [.int (((6 : Int32) * x5) + x1), .ref 150, .int x4]) (σ' := σ) hM 7 rfl ?_
      refine Pl.weak (Pl.iald hM rfl rfl (fun hi => ?_))
      replace h := h hi
      refine Pl.seg (pc' := 6) (ls' := [(5, .int (x5 + (1 : Int32))), (4, .int (x4 + (σ.1 150 (((6 : Int32) * x5) + x1).toNatClampNeg))), (0, .ref 97), (1, .int x1), (2, .int x2), (3, .int x3)]) (st' := []) (σ' := σ) hM 4 rfl ?_
      exact Pl.live (l' := [(0, .ref 97), (1, .int x1), (2, .int x2), (3, .int x3), (4, .int (x4 + (σ.1 150 (((6 : Int32) * x5) + x1).toNatClampNeg))), (5, .int (x5 + (1 : Int32)))]) hM lv_311 ⟨show ndL _ from (by decide : List.Nodup ([5, 4, 0, 1, 2, 3] : List Nat)), show ndL _ from (by decide : List.Nodup ([0, 1, 2, 3, 4, 5] : List Nat)), by rw [lva_311_6]; exact List.forall_mem_cons.mpr ⟨rfl, List.forall_mem_cons.mpr ⟨rfl, List.forall_mem_cons.mpr ⟨rfl, List.forall_mem_cons.mpr ⟨rfl, List.forall_mem_cons.mpr ⟨rfl, List.forall_mem_cons.mpr ⟨rfl, fun _ h => absurd h List.not_mem_nil⟩⟩⟩⟩⟩⟩⟩ h
    · replace h := h.2 c
      refine Pl.seg (pc' := 29) (ls' := [(0, .ref 97), (1, .int x1), (2, .int x2), (3, .int x3), (4, .int x4), (5, .int x5)]) (st' := [.int (((6 : Int32) * x5) + x1), .ref 151, .int x4]) (σ' := σ) hM 7 rfl ?_
      refine Pl.weak (Pl.iald hM rfl rfl (fun hi => ?_))
      replace h := h hi
      refine Pl.seg (pc' := 6) (ls' := [(5, .int (x5 + (1 : Int32))), (4, .int (x4 + (σ.1 151 (((6 : Int32) * x5) + x1).toNatClampNeg))), (0, .ref 97), (1, .int x1), (2, .int x2), (3, .int x3)]) (st' := []) (σ' := σ) hM 5 rfl ?_
      exact Pl.live (l' := [(0, .ref 97), (1, .int x1), (2, .int x2), (3, .int x3), (4, .int (x4 + (σ.1 151 (((6 : Int32) * x5) + x1).toNatClampNeg))), (5, .int (x5 + (1 : Int32)))]) hM lv_311 ⟨show ndL _ from (by decide : List.Nodup ([5, 4, 0, 1, 2, 3] : List Nat)), show ndL _ from (by decide : List.Nodup ([0, 1, 2, 3, 4, 5] : List Nat)), by rw [lva_311_6]; exact List.forall_mem_cons.mpr ⟨rfl, List.forall_mem_cons.mpr ⟨rfl, List.forall_mem_cons.mpr ⟨rfl, List.forall_mem_cons.mpr ⟨rfl, List.forall_mem_cons.mpr ⟨rfl, List.forall_mem_cons.mpr ⟨rfl, fun _ h => absurd h List.not_mem_nil⟩⟩⟩⟩⟩⟩⟩ h
def LV_312 : List (Nat × List Nat) := [(0, [0, 1]), (1, [0, 1]), (2, [0, 1]), (3, [0, 1]), (6, [0, 1]), (9, [0, 1]), (12, []), (13, []), (14, [0, 1]), (15, [0, 1]), (16, [0, 1, 2]), (17, [0, 1, 2]), (18, [0, 1, 2, 3]), (19, [0, 1, 2, 3]), (20, [0, 1, 2, 3]), (23, [0, 1, 2, 3]), (24, [0, 1, 2, 3]), (27, [0, 1, 2, 3]), (28, [0, 1, 2, 3]), (31, [0, 1, 2, 3]), (32, [0, 1, 2, 3]), (33, [0, 1, 2, 3]), (34, [0, 1, 2, 3]), (35, [0, 1, 2, 3]), (38, [0, 1, 2, 3]), (41, [0, 1, 2, 3]), (42, [0, 1, 3]), (43, [0, 1, 3]), (44, [0, 1, 3]), (45, [0, 1, 3]), (46, [0, 1, 3]), (47, [0, 1, 2, 3]), (50, [0, 1, 2, 3]), (53, [2]), (54, [])]
set_option maxRecDepth 100000 in
theorem lv_312 : chkLv M_312 LV_312 = true := by decide +kernel
set_option maxRecDepth 100000 in
theorem lva_312_18 : lvA LV_312 18 = [0, 1, 2, 3] := by decide +kernel
set_option maxRecDepth 100000 in
theorem lva_312_47 : lvA LV_312 47 = [0, 1, 2, 3] := by decide +kernel
set_option maxRecDepth 100000 in
theorem p_312_0 {n d : Nat} {Q : Option Value → Sg → Prop} (σ : Sg) (x1 : Int32) (h : (∀ w2 σ1, RCx PRG n 195 [.int x1, .int (0 : Int32), .int (σ.1 97 86)] σ (some (.int w2)) σ1 → (w2 = 0 ∨ w2 = 1) → ((w2 = 0 → Q (some (.int (-1 : Int32))) σ1) ∧ (¬ w2 = 0 → Pl PRG n d 312 18 [(0, .ref 97), (1, .int x1), (2, .int (0 : Int32)), (3, .int (0 : Int32))] [] σ1 Q)))) : Pl PRG (n + 1) d 312 0 [(0, .ref 97), (1, .int x1)] [] σ Q := by
  have hM : PRG[312]? = some M_312 := rfl
  refine Pl.sg1 (pc' := 6) (ls' := [(0, .ref 97), (1, .int x1)]) (st' := [.int (σ.1 97 86), .int (0 : Int32), .int x1]) (σ' := σ) hM 3 rfl ?_
  refine Pl.weak (Pl.cZ hM rfl rfl (by decide) (Mj := M_195) rfl rfl (fun w2 σ1 hw hz => ?_))
  replace h := h w2 σ1 hw hz
  refine Pl.brN (c := w2 = 0) (a := 14) (b := 12) (ls' := [(0, .ref 97), (1, .int x1)]) (st' := []) (σ' := σ1) hM 1 rfl (fun c => ?_) (fun c => ?_)
  · replace h := h.2 c
    refine Pl.seg (pc' := 18) (ls' := [(3, .int (0 : Int32)), (2, .int (0 : Int32)), (0, .ref 97), (1, .int x1)]) (st' := []) (σ' := σ1) hM 4 rfl ?_
    exact Pl.live (l' := [(0, .ref 97), (1, .int x1), (2, .int (0 : Int32)), (3, .int (0 : Int32))]) hM lv_312 ⟨show ndL _ from (by decide : List.Nodup ([3, 2, 0, 1] : List Nat)), show ndL _ from (by decide : List.Nodup ([0, 1, 2, 3] : List Nat)), by rw [lva_312_18]; exact List.forall_mem_cons.mpr ⟨rfl, List.forall_mem_cons.mpr ⟨rfl, List.forall_mem_cons.mpr ⟨rfl, List.forall_mem_cons.mpr ⟨rfl, fun _ h => absurd h List.not_mem_nil⟩⟩⟩⟩⟩ h
  · replace h := h.1 c
    refine Pl.seg (pc' := 13) (ls' := [(0, .ref 97), (1, .int x1)]) (st' := [.int (-1 : Int32)]) (σ' := σ1) hM 1 rfl ?_
    refine Pl.weak (Pl.ret hM rfl rfl h)
set_option maxRecDepth 100000 in
theorem p_312_18 {n d : Nat} {Q : Option Value → Sg → Prop} (σ : Sg) (x1 x2 x3 : Int32) (h : (inR (σ.1 97 18) 2 = true → (((σ.1 109 (σ.1 97 18).toNatClampNeg) ≤ x3 → Q (some (.int x2)) σ) ∧ (¬ (σ.1 109 (σ.1 97 18).toNatClampNeg) ≤ x3 → (∀ w2 σ1, RCx PRG n 311 [.ref 97, .int x3, .int x1, .int (1 : Int32)] σ (some (.int w2)) σ1 → ((w2 = 0 → Pl PRG n d 312 47 [(0, .ref 97), (1, .int x1), (2, .int (x2 ||| ((1 : Int32) <<< (x3 &&& 31)))), (3, .int x3)] [] σ1 Q) ∧ (¬ w2 = 0 → Pl PRG n d 312 47 [(0, .ref 97), (1, .int x1), (2, .int x2), (3, .int x3)] [] σ1 Q))))))) : Pl PRG (n + 1) d 312 18 [(0, .ref 97), (1, .int x1), (2, .int x2), (3, .int x3)] [] σ Q := by
  have hM : PRG[312]? = some M_312 := rfl
  refine Pl.sg1 (pc' := 27) (ls' := [(0, .ref 97), (1, .int x1), (2, .int x2), (3, .int x3)]) (st' := [.int (σ.1 97 18), .ref 109, .int x3]) (σ' := σ) hM 4 rfl ?_
  refine Pl.weak (Pl.iald hM rfl rfl (fun hi => ?_))
  replace h := h hi
  refine Pl.br (c := (σ.1 109 (σ.1 97 18).toNatClampNeg) ≤ x3) (a := 53) (b := 31) (ls' := [(0, .ref 97), (1, .int x1), (2, .int x2), (3, .int x3)]) (st' := []) (σ' := σ) hM 1 rfl (fun c => ?_) (fun c => ?_)
  · replace h := h.1 c
    refine Pl.seg (pc' := 54) (ls' := [(0, .ref 97), (1, .int x1), (2, .int x2), (3, .int x3)]) (st' := [.int x2]) (σ' := σ) hM 1 rfl ?_
    refine Pl.weak (Pl.ret hM rfl rfl h)
  · replace h := h.2 c
    refine Pl.seg (pc' := 35) (ls' := [(0, .ref 97), (1, .int x1), (2, .int x2), (3, .int x3)]) (st' := [.int (1 : Int32), .int x1, .int x3, .ref 97]) (σ' := σ) hM 4 rfl ?_
    refine Pl.weak (Pl.cI hM rfl rfl (by decide) (Mj := M_311) rfl rfl (fun w2 σ1 hw => ?_))
    replace h := h w2 σ1 hw
    refine Pl.brN (c := w2 = 0) (a := 47) (b := 41) (ls' := [(0, .ref 97), (1, .int x1), (2, .int x2), (3, .int x3)]) (st' := []) (σ' := σ1) hM 1 rfl (fun c => ?_) (fun c => ?_)
    · replace h := h.2 c
      exact Pl.live (l' := [(0, .ref 97), (1, .int x1), (2, .int x2), (3, .int x3)]) hM lv_312 ⟨show ndL _ from (by decide : List.Nodup ([0, 1, 2, 3] : List Nat)), show ndL _ from (by decide : List.Nodup ([0, 1, 2, 3] : List Nat)), by rw [lva_312_47]; exact List.forall_mem_cons.mpr ⟨rfl, List.forall_mem_cons.mpr ⟨rfl, List.forall_mem_cons.mpr ⟨rfl, List.forall_mem_cons.mpr ⟨rfl, fun _ h => absurd h List.not_mem_nil⟩⟩⟩⟩⟩ h
    · replace h := h.1 c
      refine Pl.seg (pc' := 47) (ls' := [(2, .int (x2 ||| ((1 : Int32) <<< (x3 &&& 31)))), (0, .ref 97), (1, .int x1), (3, .int x3)]) (st' := []) (σ' := σ1) hM 6 rfl ?_
      exact Pl.live (l' := [(0, .ref 97), (1, .int x1), (2, .int (x2 ||| ((1 : Int32) <<< (x3 &&& 31)))), (3, .int x3)]) hM lv_312 ⟨show ndL _ from (by decide : List.Nodup ([2, 0, 1, 3] : List Nat)), show ndL _ from (by decide : List.Nodup ([0, 1, 2, 3] : List Nat)), by rw [lva_312_47]; exact List.forall_mem_cons.mpr ⟨rfl, List.forall_mem_cons.mpr ⟨rfl, List.forall_mem_cons.mpr ⟨rfl, List.forall_mem_cons.mpr ⟨rfl, fun _ h => absurd h List.not_mem_nil⟩⟩⟩⟩⟩ h
set_option maxRecDepth 100000 in
theorem p_312_47 {n d : Nat} {Q : Option Value → Sg → Prop} (σ : Sg) (x1 x2 x3 : Int32) (h : Pl PRG n d 312 18 [(0, .ref 97), (1, .int x1), (2, .int x2), (3, .int (x3 + (1 : Int32)))] [] σ Q) : Pl PRG (n + 1) d 312 47 [(0, .ref 97), (1, .int x1), (2, .int x2), (3, .int x3)] [] σ Q := by
  have hM : PRG[312]? = some M_312 := rfl
  refine Pl.sg1 (pc' := 18) (ls' := [(3, .int (x3 + (1 : Int32))), (0, .ref 97), (1, .int x1), (2, .int x2)]) (st' := []) (σ' := σ) hM 1 rfl ?_
  exact Pl.live (l' := [(0, .ref 97), (1, .int x1), (2, .int x2), (3, .int (x3 + (1 : Int32)))]) hM lv_312 ⟨show ndL _ from (by decide : List.Nodup ([3, 0, 1, 2] : List Nat)), show ndL _ from (by decide : List.Nodup ([0, 1, 2, 3] : List Nat)), by rw [lva_312_18]; exact List.forall_mem_cons.mpr ⟨rfl, List.forall_mem_cons.mpr ⟨rfl, List.forall_mem_cons.mpr ⟨rfl, List.forall_mem_cons.mpr ⟨rfl, fun _ h => absurd h List.not_mem_nil⟩⟩⟩⟩⟩ h
def LV_314 : List (Nat × List Nat) := [(0, [0, 1, 2, 3]), (1, [0, 1, 2, 3]), (2, [0, 1, 2, 3]), (5, [0, 1, 2, 3]), (8, [0, 1, 2, 3]), (9, [0, 1, 2, 3]), (10, [0, 1, 2, 3]), (11, [0, 1, 2, 3]), (14, [0, 1, 2, 3]), (17, [0, 1, 2, 3]), (20, [0, 1, 2, 3]), (21, [0, 1, 2, 3]), (22, [0, 1, 2, 3]), (23, [0, 1, 2, 3]), (26, [0, 1, 2, 3]), (29, [0, 1, 2, 3]), (30, [1, 2, 3]), (31, [2, 3]), (32, [3]), (33, []), (34, []), (37, []), (38, []), (41, []), (42, []), (45, []), (48, []), (49, [])]
set_option maxRecDepth 100000 in
theorem lv_314 : chkLv M_314 LV_314 = true := by decide +kernel
set_option maxRecDepth 100000 in
theorem lva_314_48 : lvA LV_314 48 = [] := by decide +kernel
set_option maxRecDepth 100000 in
theorem p_314_0 {n d : Nat} {Q : Option Value → Sg → Prop} (σ : Sg) (x1 x2 x3 : Int32) (h : (∀ w2 σ1, RCx PRG n 313 [.ref 97, .int x1] σ (some (.int w2)) σ1 → (w2 = 0 ∨ w2 = 1) → ((w2 = 0 → Pl PRG n d 314 48 [] [] σ1 Q) ∧ (¬ w2 = 0 → (∀ w4 σ3, RCx PRG n 195 [.int x2, .int (0 : Int32), .int (σ1.1 97 86)] σ1 (some (.int w4)) σ3 → (w4 = 0 ∨ w4 = 1) → ((w4 = 0 → Pl PRG n d 314 48 [] [] σ3 Q) ∧ (¬ w4 = 0 → (∀ w6 σ5, RCx PRG n 195 [.int x3, .int (0 : Int32), .int (1 : Int32)] σ3 (some (.int w6)) σ5 → (w6 = 0 ∨ w6 = 1) → ((w6 = 0 → Pl PRG n d 314 48 [] [] σ5 Q) ∧ (¬ w6 = 0 → ((x3 = (1 : Int32) → (∀ w10 σ9, RCx PRG n 311 [.ref 97, .int x1, .int x2, .int (1 : Int32)] σ5 (some (.int w10)) σ9 → Q (some (.int w10)) σ9)) ∧ (¬ x3 = (1 : Int32) → (∀ w8 σ7, RCx PRG n 311 [.ref 97, .int x1, .int x2, .int (0 : Int32)] σ5 (some (.int w8)) σ7 → Q (some (.int w8)) σ7))))))))))))) : Pl PRG (n + 1) d 314 0 [(0, .ref 97), (1, .int x1), (2, .int x2), (3, .int x3)] [] σ Q := by
  have hM : PRG[314]? = some M_314 := rfl
  refine Pl.sg1 (pc' := 2) (ls' := [(0, .ref 97), (1, .int x1), (2, .int x2), (3, .int x3)]) (st' := [.int x1, .ref 97]) (σ' := σ) hM 1 rfl ?_
  refine Pl.weak (Pl.cZ hM rfl rfl (by decide) (Mj := M_313) rfl rfl (fun w2 σ1 hw hz => ?_))
  replace h := h w2 σ1 hw hz
  refine Pl.br (c := w2 = 0) (a := 48) (b := 8) (ls' := [(0, .ref 97), (1, .int x1), (2, .int x2), (3, .int x3)]) (st' := []) (σ' := σ1) hM 1 rfl (fun c => ?_) (fun c => ?_)
  · replace h := h.1 c
    exact Pl.live (l' := []) hM lv_314 ⟨show ndL _ from (by decide : List.Nodup ([0, 1, 2, 3] : List Nat)), show ndL _ from (by decide : List.Nodup ([] : List Nat)), by rw [lva_314_48]; exact fun _ h => absurd h List.not_mem_nil⟩ h
  · replace h := h.2 c
    refine Pl.seg (pc' := 14) (ls' := [(0, .ref 97), (1, .int x1), (2, .int x2), (3, .int x3)]) (st' := [.int (σ1.1 97 86), .int (0 : Int32), .int x2]) (σ' := σ1) hM 4 rfl ?_
    refine Pl.weak (Pl.cZ hM rfl rfl (by decide) (Mj := M_195) rfl rfl (fun w4 σ3 hw hz => ?_))
    replace h := h w4 σ3 hw hz
    refine Pl.br (c := w4 = 0) (a := 48) (b := 20) (ls' := [(0, .ref 97), (1, .int x1), (2, .int x2), (3, .int x3)]) (st' := []) (σ' := σ3) hM 1 rfl (fun c => ?_) (fun c => ?_)
    · replace h := h.1 c
      exact Pl.live (l' := []) hM lv_314 ⟨show ndL _ from (by decide : List.Nodup ([0, 1, 2, 3] : List Nat)), show ndL _ from (by decide : List.Nodup ([] : List Nat)), by rw [lva_314_48]; exact fun _ h => absurd h List.not_mem_nil⟩ h
    · replace h := h.2 c
      refine Pl.seg (pc' := 23) (ls' := [(0, .ref 97), (1, .int x1), (2, .int x2), (3, .int x3)]) (st' := [.int (1 : Int32), .int (0 : Int32), .int x3]) (σ' := σ3) hM 3 rfl ?_
      refine Pl.weak (Pl.cZ hM rfl rfl (by decide) (Mj := M_195) rfl rfl (fun w6 σ5 hw hz => ?_))
      replace h := h w6 σ5 hw hz
      refine Pl.br (c := w6 = 0) (a := 48) (b := 29) (ls' := [(0, .ref 97), (1, .int x1), (2, .int x2), (3, .int x3)]) (st' := []) (σ' := σ5) hM 1 rfl (fun c => ?_) (fun c => ?_)
      · replace h := h.1 c
        exact Pl.live (l' := []) hM lv_314 ⟨show ndL _ from (by decide : List.Nodup ([0, 1, 2, 3] : List Nat)), show ndL _ from (by decide : List.Nodup ([] : List Nat)), by rw [lva_314_48]; exact fun _ h => absurd h List.not_mem_nil⟩ h
      · replace h := h.2 c
        refine Pl.brN (c := x3 = (1 : Int32)) (a := 41) (b := 37) (ls' := [(0, .ref 97), (1, .int x1), (2, .int x2), (3, .int x3)]) (st' := [.int x2, .int x1, .ref 97]) (σ' := σ5) hM 6 rfl (fun c => ?_) (fun c => ?_)
        · replace h := h.2 c
          refine Pl.seg (pc' := 42) (ls' := [(0, .ref 97), (1, .int x1), (2, .int x2), (3, .int x3)]) (st' := [.int (0 : Int32), .int x2, .int x1, .ref 97]) (σ' := σ5) hM 1 rfl ?_
          refine Pl.weak (Pl.cI hM rfl rfl (by decide) (Mj := M_311) rfl rfl (fun w8 σ7 hw => ?_))
          replace h := h w8 σ7 hw
          refine Pl.seg (pc' := 49) (ls' := [(0, .ref 97), (1, .int x1), (2, .int x2), (3, .int x3)]) (st' := [.int w8]) (σ' := σ7) hM 1 rfl ?_
          refine Pl.weak (Pl.ret hM rfl rfl h)
        · replace h := h.1 c
          refine Pl.seg (pc' := 42) (ls' := [(0, .ref 97), (1, .int x1), (2, .int x2), (3, .int x3)]) (st' := [.int (1 : Int32), .int x2, .int x1, .ref 97]) (σ' := σ5) hM 2 rfl ?_
          refine Pl.weak (Pl.cI hM rfl rfl (by decide) (Mj := M_311) rfl rfl (fun w10 σ9 hw => ?_))
          replace h := h w10 σ9 hw
          refine Pl.seg (pc' := 49) (ls' := [(0, .ref 97), (1, .int x1), (2, .int x2), (3, .int x3)]) (st' := [.int w10]) (σ' := σ9) hM 1 rfl ?_
          refine Pl.weak (Pl.ret hM rfl rfl h)
set_option maxRecDepth 100000 in
theorem p_314_48 {n d : Nat} {Q : Option Value → Sg → Prop} (σ : Sg) (h : Q (some (.int (-1 : Int32))) σ) : Pl PRG (n + 1) d 314 48 [] [] σ Q := by
  have hM : PRG[314]? = some M_314 := rfl
  refine Pl.sg1 (pc' := 49) (ls' := []) (st' := [.int (-1 : Int32)]) (σ' := σ) hM 0 rfl ?_
  refine Pl.weak (Pl.ret hM rfl rfl h)
set_option maxRecDepth 100000 in
theorem p_315_0 {n d : Nat} {Q : Option Value → Sg → Prop} (σ : Sg) (x1 : Int32) (h : (inR (((6 : Int32) * (σ.1 97 18)) + x1) 12 = true → (((σ.1 111 (((6 : Int32) * (σ.1 97 18)) + x1).toNatClampNeg) = 0 → Q (some (.int (1 : Int32))) σ) ∧ (¬ (σ.1 111 (((6 : Int32) * (σ.1 97 18)) + x1).toNatClampNeg) = 0 → Q (some (.int (0 : Int32))) σ)))) : Pl PRG (n + 1) d 315 0 [(0, .ref 97), (1, .int x1)] [] σ Q := by
  have hM : PRG[315]? = some M_315 := rfl
  refine Pl.sg1 (pc' := 13) (ls' := [(0, .ref 97), (1, .int x1)]) (st' := [.int (((6 : Int32) * (σ.1 97 18)) + x1), .ref 111]) (σ' := σ) hM 7 rfl ?_
  refine Pl.weak (Pl.iald hM rfl rfl (fun hi => ?_))
  replace h := h hi
  refine Pl.brN (c := (σ.1 111 (((6 : Int32) * (σ.1 97 18)) + x1).toNatClampNeg) = 0) (a := 21) (b := 17) (ls' := [(0, .ref 97), (1, .int x1)]) (st' := []) (σ' := σ) hM 1 rfl (fun c => ?_) (fun c => ?_)
  · replace h := h.2 c
    refine Pl.seg (pc' := 22) (ls' := [(0, .ref 97), (1, .int x1)]) (st' := [.int (0 : Int32)]) (σ' := σ) hM 1 rfl ?_
    refine Pl.weak (Pl.ret hM rfl rfl h)
  · replace h := h.1 c
    refine Pl.seg (pc' := 22) (ls' := [(0, .ref 97), (1, .int x1)]) (st' := [.int (1 : Int32)]) (σ' := σ) hM 2 rfl ?_
    refine Pl.weak (Pl.ret hM rfl rfl h)
def LV_316 : List (Nat × List Nat) := [(0, [0, 1, 2, 3, 4, 5]), (1, [0, 1, 2, 3, 4, 5]), (3, [0, 1, 2, 3, 4, 5]), (4, [0, 1, 2, 3, 4, 5]), (5, [0, 1, 2, 3, 4, 5]), (6, [0, 1, 2, 3, 4, 5]), (9, [0, 1, 2, 3, 4, 5]), (10, [0, 1, 2, 3, 4, 5]), (11, [0, 1, 2, 3, 4, 5]), (14, [0]), (15, [0]), (17, [0, 6]), (19, [0, 6]), (20, [0, 6]), (23, [0, 6]), (24, [0, 6]), (27, [0, 6]), (28, [0, 6]), (31, [0, 6]), (32, [0, 6]), (34, [0, 6]), (37, [0, 6]), (40, [0, 6]), (41, [0, 6]), (43, [0, 6]), (46, [0, 6]), (49, []), (50, []), (51, [0, 6]), (54, [0, 6]), (57, []), (58, []), (59, [0, 1, 2, 3, 4, 5]), (60, [0, 1, 2, 3, 4, 5]), (61, [0, 1, 2, 3, 4, 5]), (64, [0, 1, 2, 3, 4, 5]), (67, [0, 1, 2, 3, 4, 5]), (68, [0, 1, 2, 3, 4, 5]), (69, [0, 1, 2, 3, 4, 5]), (72, [0, 1, 2, 3, 4, 5]), (73, [0, 1, 2, 3, 4, 5]), (74, [0, 1, 2, 3, 4, 5]), (77, [0, 1, 2, 3, 4, 5]), (80, []), (81, []), (82, [0, 1, 2, 3, 4, 5]), (83, [0, 1, 2, 3, 4, 5]), (86, []), (87, []), (88, [0, 1, 2, 3, 4, 5]), (89, [0, 1, 2, 3, 4, 5]), (91, [0, 1, 2, 3, 5]), (93, [0, 1, 2, 3]), (96, [0, 1, 2, 3]), (97, [0, 2, 3]), (98, [0, 2, 3]), (101, [0, 2]), (102, [2]), (103, []), (106, []), (109, [0, 2, 3]), (110, [0, 2, 3]), (111, [0, 3]), (114, [0, 3]), (115, [3]), (116, []), (119, []), (122, []), (123, []), (126, []), (127, [])]
set_option maxRecDepth 100000 in
theorem lv_316 : chkLv M_316 LV_316 = true := by decide +kernel
set_option maxRecDepth 100000 in
theorem lva_316_17 : lvA LV_316 17 = [0, 6] := by decide +kernel
set_option maxRecDepth 100000 in
theorem lva_316_51 : lvA LV_316 51 = [0, 6] := by decide +kernel
set_option maxRecDepth 100000 in
theorem lva_316_80 : lvA LV_316 80 = [] := by decide +kernel
set_option maxRecDepth 100000 in
theorem lva_316_82 : lvA LV_316 82 = [0, 1, 2, 3, 4, 5] := by decide +kernel
set_option maxRecDepth 100000 in
theorem p_316_0 {n d : Nat} {Q : Option Value → Sg → Prop} (σ : Sg) (x1 x2 x3 x4 x5 : Int32) (h : (∀ σ1, RCx PRG n 248 [.ref 97, .int x4, .int (-1 : Int32), .int (0 : Int32), .int (-1 : Int32)] σ none σ1 → ((x1 = (3 : Int32) → Pl PRG n d 316 17 [(0, .ref 97), (6, .int (0 : Int32))] [] σ1 Q) ∧ (¬ x1 = (3 : Int32) → (∀ w3 σ2, RCx PRG n 251 [.ref 97, .int x2] σ1 (some (.int w3)) σ2 → (w3 = 0 ∨ w3 = 1) → ((w3 = 0 → Pl PRG n d 316 80 [] [] σ2 Q) ∧ (¬ w3 = 0 → ((x1 = (2 : Int32) → (∀ w5 σ4, RCx PRG n 251 [.ref 97, .int x3] σ2 (some (.int w5)) σ4 → (w5 = 0 ∨ w5 = 1) → ((w5 = 0 → Pl PRG n d 316 80 [] [] σ4 Q) ∧ (¬ w5 = 0 → Pl PRG n d 316 82 [(0, .ref 97), (1, .int x1), (2, .int x2), (3, .int x3), (4, .int x4), (5, .int x5)] [] σ4 Q)))) ∧ (¬ x1 = (2 : Int32) → Pl PRG n d 316 82 [(0, .ref 97), (1, .int x1), (2, .int x2), (3, .int x3), (4, .int x4), (5, .int x5)] [] σ2 Q))))))))) : Pl PRG (n + 1) d 316 0 [(0, .ref 97), (1, .int x1), (2, .int x2), (3, .int x3), (4, .int x4), (5, .int x5)] [] σ Q := by
  have hM : PRG[316]? = some M_316 := rfl
  refine Pl.sg1 (pc' := 6) (ls' := [(0, .ref 97), (1, .int x1), (2, .int x2), (3, .int x3), (4, .int x4), (5, .int x5)]) (st' := [.int (-1 : Int32), .int (0 : Int32), .int (-1 : Int32), .int x4, .ref 97]) (σ' := σ) hM 4 rfl ?_
  refine Pl.weak (Pl.cV hM rfl rfl (by decide) (Mj := M_248) rfl rfl (fun σ1 hw => ?_))
  replace h := h σ1 hw
  refine Pl.brN (c := x1 = (3 : Int32)) (a := 59) (b := 14) (ls' := [(0, .ref 97), (1, .int x1), (2, .int x2), (3, .int x3), (4, .int x4), (5, .int x5)]) (st' := []) (σ' := σ1) hM 3 rfl (fun c => ?_) (fun c => ?_)
  · replace h := h.2 c
    refine Pl.seg (pc' := 61) (ls' := [(0, .ref 97), (1, .int x1), (2, .int x2), (3, .int x3), (4, .int x4), (5, .int x5)]) (st' := [.int x2, .ref 97]) (σ' := σ1) hM 2 rfl ?_
    refine Pl.weak (Pl.cZ hM rfl rfl (by decide) (Mj := M_251) rfl rfl (fun w3 σ2 hw hz => ?_))
    replace h := h w3 σ2 hw hz
    refine Pl.br (c := w3 = 0) (a := 80) (b := 67) (ls' := [(0, .ref 97), (1, .int x1), (2, .int x2), (3, .int x3), (4, .int x4), (5, .int x5)]) (st' := []) (σ' := σ2) hM 1 rfl (fun c => ?_) (fun c => ?_)
    · replace h := h.1 c
      exact Pl.live (l' := []) hM lv_316 ⟨show ndL _ from (by decide : List.Nodup ([0, 1, 2, 3, 4, 5] : List Nat)), show ndL _ from (by decide : List.Nodup ([] : List Nat)), by rw [lva_316_80]; exact fun _ h => absurd h List.not_mem_nil⟩ h
    · replace h := h.2 c
      refine Pl.brN (c := x1 = (2 : Int32)) (a := 82) (b := 72) (ls' := [(0, .ref 97), (1, .int x1), (2, .int x2), (3, .int x3), (4, .int x4), (5, .int x5)]) (st' := []) (σ' := σ2) hM 3 rfl (fun c => ?_) (fun c => ?_)
      · replace h := h.2 c
        exact Pl.live (l' := [(0, .ref 97), (1, .int x1), (2, .int x2), (3, .int x3), (4, .int x4), (5, .int x5)]) hM lv_316 ⟨show ndL _ from (by decide : List.Nodup ([0, 1, 2, 3, 4, 5] : List Nat)), show ndL _ from (by decide : List.Nodup ([0, 1, 2, 3, 4, 5] : List Nat)), by rw [lva_316_82]; exact List.forall_mem_cons.mpr ⟨rfl, List.forall_mem_cons.mpr ⟨rfl, List.forall_mem_cons.mpr ⟨rfl, List.forall_mem_cons.mpr ⟨rfl, List.forall_mem_cons.mpr ⟨rfl, List.forall_mem_cons.mpr ⟨rfl, fun _ h => absurd h List.not_mem_nil⟩⟩⟩⟩⟩⟩⟩ h
      · replace h := h.1 c
        refine Pl.seg (pc' := 74) (ls' := [(0, .ref 97), (1, .int x1), (2, .int x2), (3, .int x3), (4, .int x4), (5, .int x5)]) (st' := [.int x3, .ref 97]) (σ' := σ2) hM 2 rfl ?_
        refine Pl.weak (Pl.cZ hM rfl rfl (by decide) (Mj := M_251) rfl rfl (fun w5 σ4 hw hz => ?_))
        replace h := h w5 σ4 hw hz
        refine Pl.brN (c := w5 = 0) (a := 82) (b := 80) (ls' := [(0, .ref 97), (1, .int x1), (2, .int x2), (3, .int x3), (4, .int x4), (5, .int x5)]) (st' := []) (σ' := σ4) hM 1 rfl (fun c => ?_) (fun c => ?_)
        · replace h := h.2 c
          exact Pl.live (l' := [(0, .ref 97), (1, .int x1), (2, .int x2), (3, .int x3), (4, .int x4), (5, .int x5)]) hM lv_316 ⟨show ndL _ from (by decide : List.Nodup ([0, 1, 2, 3, 4, 5] : List Nat)), show ndL _ from (by decide : List.Nodup ([0, 1, 2, 3, 4, 5] : List Nat)), by rw [lva_316_82]; exact List.forall_mem_cons.mpr ⟨rfl, List.forall_mem_cons.mpr ⟨rfl, List.forall_mem_cons.mpr ⟨rfl, List.forall_mem_cons.mpr ⟨rfl, List.forall_mem_cons.mpr ⟨rfl, List.forall_mem_cons.mpr ⟨rfl, fun _ h => absurd h List.not_mem_nil⟩⟩⟩⟩⟩⟩⟩ h
        · replace h := h.1 c
          exact Pl.live (l' := []) hM lv_316 ⟨show ndL _ from (by decide : List.Nodup ([0, 1, 2, 3, 4, 5] : List Nat)), show ndL _ from (by decide : List.Nodup ([] : List Nat)), by rw [lva_316_80]; exact fun _ h => absurd h List.not_mem_nil⟩ h
  · replace h := h.1 c
    refine Pl.seg (pc' := 17) (ls' := [(6, .int (0 : Int32)), (0, .ref 97), (1, .int x1), (2, .int x2), (3, .int x3), (4, .int x4), (5, .int x5)]) (st' := []) (σ' := σ1) hM 2 rfl ?_
    exact Pl.live (l' := [(0, .ref 97), (6, .int (0 : Int32))]) hM lv_316 ⟨show ndL _ from (by decide : List.Nodup ([6, 0, 1, 2, 3, 4, 5] : List Nat)), show ndL _ from (by decide : List.Nodup ([0, 6] : List Nat)), by rw [lva_316_17]; exact List.forall_mem_cons.mpr ⟨rfl, List.forall_mem_cons.mpr ⟨rfl, fun _ h => absurd h List.not_mem_nil⟩⟩⟩ h
set_option maxRecDepth 100000 in
theorem p_316_80 {n d : Nat} {Q : Option Value → Sg → Prop} (σ : Sg) (h : Q (some (.int (0 : Int32))) σ) : Pl PRG (n + 1) d 316 80 [] [] σ Q := by
  have hM : PRG[316]? = some M_316 := rfl
  refine Pl.sg1 (pc' := 81) (ls' := []) (st' := [.int (0 : Int32)]) (σ' := σ) hM 0 rfl ?_
  refine Pl.weak (Pl.ret hM rfl rfl h)
set_option maxRecDepth 100000 in
theorem p_316_82 {n d : Nat} {Q : Option Value → Sg → Prop} (σ : Sg) (x1 x2 x3 x4 x5 : Int32) (h : ((x1 = 0 → Q (some (.int (1 : Int32))) σ) ∧ (¬ x1 = 0 → (∀ σ1, RCx PRG n 249 [.ref 97, .int x4, .int x5] σ none σ1 → ((x1 = (1 : Int32) → (∀ w7 σ6, RCx PRG n 252 [.ref 97, .int x2] σ1 (some (.int w7)) σ6 → (w7 = 0 ∨ w7 = 1) → ((w7 = 0 ∨ w7 = 1) → Q (some (.int w7)) σ6))) ∧ (¬ x1 = (1 : Int32) → (∀ w3 σ2, RCx PRG n 252 [.ref 97, .int x2] σ1 (some (.int w3)) σ2 → (w3 = 0 ∨ w3 = 1) → (∀ w5 σ4, RCx PRG n 252 [.ref 97, .int x3] σ2 (some (.int w5)) σ4 → (w5 = 0 ∨ w5 = 1) → ((w3 = w5 → Q (some (.int (0 : Int32))) σ4) ∧ (¬ w3 = w5 → Q (some (.int (1 : Int32))) σ4)))))))))) : Pl PRG (n + 1) d 316 82 [(0, .ref 97), (1, .int x1), (2, .int x2), (3, .int x3), (4, .int x4), (5, .int x5)] [] σ Q := by
  have hM : PRG[316]? = some M_316 := rfl
  refine Pl.brN1 (c := x1 = 0) (a := 88) (b := 86) (ls' := [(0, .ref 97), (1, .int x1), (2, .int x2), (3, .int x3), (4, .int x4), (5, .int x5)]) (st' := []) (σ' := σ) hM 1 rfl (fun c => ?_) (fun c => ?_)
  · replace h := h.2 c
    refine Pl.seg (pc' := 93) (ls' := [(0, .ref 97), (1, .int x1), (2, .int x2), (3, .int x3), (4, .int x4), (5, .int x5)]) (st' := [.int x5, .int x4, .ref 97]) (σ' := σ) hM 3 rfl ?_
    refine Pl.weak (Pl.cV hM rfl rfl (by decide) (Mj := M_249) rfl rfl (fun σ1 hw => ?_))
    replace h := h σ1 hw
    refine Pl.brN (c := x1 = (1 : Int32)) (a := 109) (b := 101) (ls' := [(0, .ref 97), (1, .int x1), (2, .int x2), (3, .int x3), (4, .int x4), (5, .int x5)]) (st' := []) (σ' := σ1) hM 3 rfl (fun c => ?_) (fun c => ?_)
    · replace h := h.2 c
      refine Pl.seg (pc' := 111) (ls' := [(0, .ref 97), (1, .int x1), (2, .int x2), (3, .int x3), (4, .int x4), (5, .int x5)]) (st' := [.int x2, .ref 97]) (σ' := σ1) hM 2 rfl ?_
      refine Pl.weak (Pl.cZ hM rfl rfl (by decide) (Mj := M_252) rfl rfl (fun w3 σ2 hw hz => ?_))
      replace h := h w3 σ2 hw hz
      refine Pl.seg (pc' := 116) (ls' := [(0, .ref 97), (1, .int x1), (2, .int x2), (3, .int x3), (4, .int x4), (5, .int x5)]) (st' := [.int x3, .ref 97, .int w3]) (σ' := σ2) hM 2 rfl ?_
      refine Pl.weak (Pl.cZ hM rfl rfl (by decide) (Mj := M_252) rfl rfl (fun w5 σ4 hw hz => ?_))
      replace h := h w5 σ4 hw hz
      refine Pl.br (c := w3 = w5) (a := 126) (b := 122) (ls' := [(0, .ref 97), (1, .int x1), (2, .int x2), (3, .int x3), (4, .int x4), (5, .int x5)]) (st' := []) (σ' := σ4) hM 1 rfl (fun c => ?_) (fun c => ?_)
      · replace h := h.1 c
        refine Pl.seg (pc' := 127) (ls' := [(0, .ref 97), (1, .int x1), (2, .int x2), (3, .int x3), (4, .int x4), (5, .int x5)]) (st' := [.int (0 : Int32)]) (σ' := σ4) hM 1 rfl ?_
        refine Pl.weak (Pl.ret hM rfl rfl h)
      · replace h := h.2 c
        refine Pl.seg (pc' := 127) (ls' := [(0, .ref 97), (1, .int x1), (2, .int x2), (3, .int x3), (4, .int x4), (5, .int x5)]) (st' := [.int (1 : Int32)]) (σ' := σ4) hM 2 rfl ?_
        refine Pl.weak (Pl.ret hM rfl rfl h)
    · replace h := h.1 c
      refine Pl.seg (pc' := 103) (ls' := [(0, .ref 97), (1, .int x1), (2, .int x2), (3, .int x3), (4, .int x4), (5, .int x5)]) (st' := [.int x2, .ref 97]) (σ' := σ1) hM 2 rfl ?_
      refine Pl.weak (Pl.cZ hM rfl rfl (by decide) (Mj := M_252) rfl rfl (fun w7 σ6 hw hz => ?_))
      replace h := h w7 σ6 hw hz
      refine Pl.seg (pc' := 127) (ls' := [(0, .ref 97), (1, .int x1), (2, .int x2), (3, .int x3), (4, .int x4), (5, .int x5)]) (st' := [.int w7]) (σ' := σ6) hM 1 rfl ?_
      refine Pl.weak (Pl.retZ hM rfl rfl h)
  · replace h := h.1 c
    refine Pl.seg (pc' := 87) (ls' := [(0, .ref 97), (1, .int x1), (2, .int x2), (3, .int x3), (4, .int x4), (5, .int x5)]) (st' := [.int (1 : Int32)]) (σ' := σ) hM 1 rfl ?_
    refine Pl.weak (Pl.ret hM rfl rfl h)
set_option maxRecDepth 100000 in
theorem p_316_17 {n d : Nat} {Q : Option Value → Sg → Prop} (σ : Sg) (x6 : Int32) (h : (inR (σ.1 97 18) 2 = true → (((σ.1 109 (σ.1 97 18).toNatClampNeg) ≤ x6 → Q (some (.int (1 : Int32))) σ) ∧ (¬ (σ.1 109 (σ.1 97 18).toNatClampNeg) ≤ x6 → (∀ w2 σ1, RCx PRG n 315 [.ref 97, .int x6] σ (some (.int w2)) σ1 → (w2 = 0 ∨ w2 = 1) → ((w2 = 0 → Pl PRG n d 316 51 [(0, .ref 97), (6, .int x6)] [] σ1 Q) ∧ (¬ w2 = 0 → (∀ w4 σ3, RCx PRG n 251 [.ref 97, .int x6] σ1 (some (.int w4)) σ3 → (w4 = 0 ∨ w4 = 1) → ((w4 = 0 → Pl PRG n d 316 51 [(0, .ref 97), (6, .int x6)] [] σ3 Q) ∧ (¬ w4 = 0 → Q (some (.int (0 : Int32))) σ3)))))))))) : Pl PRG (n + 1) d 316 17 [(0, .ref 97), (6, .int x6)] [] σ Q := by
  have hM : PRG[316]? = some M_316 := rfl
  refine Pl.sg1 (pc' := 27) (ls' := [(0, .ref 97), (6, .int x6)]) (st' := [.int (σ.1 97 18), .ref 109, .int x6]) (σ' := σ) hM 4 rfl ?_
  refine Pl.weak (Pl.iald hM rfl rfl (fun hi => ?_))
  replace h := h hi
  refine Pl.br (c := (σ.1 109 (σ.1 97 18).toNatClampNeg) ≤ x6) (a := 57) (b := 31) (ls' := [(0, .ref 97), (6, .int x6)]) (st' := []) (σ' := σ) hM 1 rfl (fun c => ?_) (fun c => ?_)
  · replace h := h.1 c
    refine Pl.seg (pc' := 58) (ls' := [(0, .ref 97), (6, .int x6)]) (st' := [.int (1 : Int32)]) (σ' := σ) hM 1 rfl ?_
    refine Pl.weak (Pl.ret hM rfl rfl h)
  · replace h := h.2 c
    refine Pl.seg (pc' := 34) (ls' := [(0, .ref 97), (6, .int x6)]) (st' := [.int x6, .ref 97]) (σ' := σ) hM 2 rfl ?_
    refine Pl.weak (Pl.cZ hM rfl rfl (by decide) (Mj := M_315) rfl rfl (fun w2 σ1 hw hz => ?_))
    replace h := h w2 σ1 hw hz
    refine Pl.br (c := w2 = 0) (a := 51) (b := 40) (ls' := [(0, .ref 97), (6, .int x6)]) (st' := []) (σ' := σ1) hM 1 rfl (fun c => ?_) (fun c => ?_)
    · replace h := h.1 c
      exact Pl.live (l' := [(0, .ref 97), (6, .int x6)]) hM lv_316 ⟨show ndL _ from (by decide : List.Nodup ([0, 6] : List Nat)), show ndL _ from (by decide : List.Nodup ([0, 6] : List Nat)), by rw [lva_316_51]; exact List.forall_mem_cons.mpr ⟨rfl, List.forall_mem_cons.mpr ⟨rfl, fun _ h => absurd h List.not_mem_nil⟩⟩⟩ h
    · replace h := h.2 c
      refine Pl.seg (pc' := 43) (ls' := [(0, .ref 97), (6, .int x6)]) (st' := [.int x6, .ref 97]) (σ' := σ1) hM 2 rfl ?_
      refine Pl.weak (Pl.cZ hM rfl rfl (by decide) (Mj := M_251) rfl rfl (fun w4 σ3 hw hz => ?_))
      replace h := h w4 σ3 hw hz
      refine Pl.br (c := w4 = 0) (a := 51) (b := 49) (ls' := [(0, .ref 97), (6, .int x6)]) (st' := []) (σ' := σ3) hM 1 rfl (fun c => ?_) (fun c => ?_)
      · replace h := h.1 c
        exact Pl.live (l' := [(0, .ref 97), (6, .int x6)]) hM lv_316 ⟨show ndL _ from (by decide : List.Nodup ([0, 6] : List Nat)), show ndL _ from (by decide : List.Nodup ([0, 6] : List Nat)), by rw [lva_316_51]; exact List.forall_mem_cons.mpr ⟨rfl, List.forall_mem_cons.mpr ⟨rfl, fun _ h => absurd h List.not_mem_nil⟩⟩⟩ h
      · replace h := h.2 c
        refine Pl.seg (pc' := 50) (ls' := [(0, .ref 97), (6, .int x6)]) (st' := [.int (0 : Int32)]) (σ' := σ3) hM 1 rfl ?_
        refine Pl.weak (Pl.ret hM rfl rfl h)
set_option maxRecDepth 100000 in
theorem p_316_51 {n d : Nat} {Q : Option Value → Sg → Prop} (σ : Sg) (x6 : Int32) (h : Pl PRG n d 316 17 [(0, .ref 97), (6, .int (x6 + (1 : Int32)))] [] σ Q) : Pl PRG (n + 1) d 316 51 [(0, .ref 97), (6, .int x6)] [] σ Q := by
  have hM : PRG[316]? = some M_316 := rfl
  refine Pl.sg1 (pc' := 17) (ls' := [(6, .int (x6 + (1 : Int32))), (0, .ref 97)]) (st' := []) (σ' := σ) hM 1 rfl ?_
  exact Pl.live (l' := [(0, .ref 97), (6, .int (x6 + (1 : Int32)))]) hM lv_316 ⟨show ndL _ from (by decide : List.Nodup ([6, 0] : List Nat)), show ndL _ from (by decide : List.Nodup ([0, 6] : List Nat)), by rw [lva_316_17]; exact List.forall_mem_cons.mpr ⟨rfl, List.forall_mem_cons.mpr ⟨rfl, fun _ h => absurd h List.not_mem_nil⟩⟩⟩ h
def LV_317 : List (Nat × List Nat) := [(0, [0, 1, 2, 3]), (1, [0, 1, 2, 3]), (3, [0, 1, 2, 3, 4]), (4, [0, 1, 2, 3, 4]), (6, [0, 1, 2, 3, 4, 5]), (8, [0, 1, 2, 3, 4, 5]), (9, [0, 1, 2, 3, 4, 5]), (10, [0, 1, 2, 3, 4, 5]), (13, [0, 1, 2, 3, 4, 5]), (14, [0, 1, 2, 3, 4, 5]), (17, [0, 1, 2, 3, 4, 5]), (19, [0, 1, 2, 3, 4, 5]), (22, [0, 1, 2, 3, 4, 5]), (23, [0, 1, 2, 3, 4, 5]), (26, [0, 1, 2, 3, 4, 5]), (29, [0, 1, 2, 3, 4, 5]), (32, [0, 1, 2, 3, 4, 5]), (33, [0, 1, 2, 3, 4, 5]), (35, [0, 1, 2, 3, 4, 5, 6]), (37, [0, 1, 2, 3, 4, 5, 6]), (38, [0, 1, 2, 3, 4, 5, 6]), (41, [0, 1, 2, 3, 4, 5, 6]), (44, [0, 1, 2, 3, 4, 5, 6]), (46, [0, 1, 2, 3, 4, 5, 6]), (48, [0, 1, 2, 3, 4, 5, 6]), (49, [0, 1, 2, 3, 4, 5, 6]), (50, [0, 1, 2, 3, 4, 5, 6]), (51, [0, 1, 2, 3, 4, 5, 6]), (52, [0, 1, 2, 3, 4, 5, 6]), (55, [0, 1, 2, 3, 4, 5, 6]), (56, [0, 1, 2, 3, 4, 5, 6]), (57, [0, 1, 2, 3, 4, 5, 6]), (58, [0, 1, 2, 3, 4, 5, 6]), (59, [0, 1, 2, 3, 4, 5, 6]), (61, [0, 1, 2, 3, 4, 5, 6]), (63, [0, 1, 2, 3, 4, 5, 6]), (66, [0, 1, 2, 3, 4, 5, 6]), (69, [0, 1, 2, 3, 4, 5, 6]), (72, [0, 1, 2, 3, 4, 5, 6]), (75, [0, 1, 2, 3, 4, 5, 6]), (78, [0, 1, 2, 3, 4, 5]), (81, [0, 1, 2, 3, 4, 5]), (84, [4]), (86, [])]
set_option maxRecDepth 100000 in
theorem lv_317 : chkLv M_317 LV_317 = true := by decide +kernel
set_option maxRecDepth 100000 in
theorem lva_317_6 : lvA LV_317 6 = [0, 1, 2, 3, 4, 5] := by decide +kernel
set_option maxRecDepth 100000 in
theorem lva_317_35 : lvA LV_317 35 = [0, 1, 2, 3, 4, 5, 6] := by decide +kernel
set_option maxRecDepth 100000 in
theorem lva_317_72 : lvA LV_317 72 = [0, 1, 2, 3, 4, 5, 6] := by decide +kernel
set_option maxRecDepth 100000 in
theorem lva_317_78 : lvA LV_317 78 = [0, 1, 2, 3, 4, 5] := by decide +kernel
set_option maxRecDepth 100000 in
theorem p_317_0 {n d : Nat} {Q : Option Value → Sg → Prop} (σ : Sg) (x1 x2 x3 : Int32) (h : Pl PRG n d 317 6 [(0, .ref 97), (1, .int x1), (2, .int x2), (3, .int x3), (4, .int (0 : Int32)), (5, .int (0 : Int32))] [] σ Q) : Pl PRG (n + 1) d 317 0 [(0, .ref 97), (1, .int x1), (2, .int x2), (3, .int x3)] [] σ Q := by
  have hM : PRG[317]? = some M_317 := rfl
  refine Pl.sg1 (pc' := 6) (ls' := [(5, .int (0 : Int32)), (4, .int (0 : Int32)), (0, .ref 97), (1, .int x1), (2, .int x2), (3, .int x3)]) (st' := []) (σ' := σ) hM 3 rfl ?_
  exact Pl.live (l' := [(0, .ref 97), (1, .int x1), (2, .int x2), (3, .int x3), (4, .int (0 : Int32)), (5, .int (0 : Int32))]) hM lv_317 ⟨show ndL _ from (by decide : List.Nodup ([5, 4, 0, 1, 2, 3] : List Nat)), show ndL _ from (by decide : List.Nodup ([0, 1, 2, 3, 4, 5] : List Nat)), by rw [lva_317_6]; exact List.forall_mem_cons.mpr ⟨rfl, List.forall_mem_cons.mpr ⟨rfl, List.forall_mem_cons.mpr ⟨rfl, List.forall_mem_cons.mpr ⟨rfl, List.forall_mem_cons.mpr ⟨rfl, List.forall_mem_cons.mpr ⟨rfl, fun _ h => absurd h List.not_mem_nil⟩⟩⟩⟩⟩⟩⟩ h
set_option maxRecDepth 100000 in
theorem p_317_6 {n d : Nat} {Q : Option Value → Sg → Prop} (σ : Sg) (x1 x2 x3 x4 x5 : Int32) (h : (∀ w2 σ1, RCx PRG n 210 [.ref 97] σ (some (.int w2)) σ1 → ((((1 : Int32) <<< (w2 &&& 31)) ≤ x5 → Q (some (.int x4)) σ1) ∧ (¬ ((1 : Int32) <<< (w2 &&& 31)) ≤ x5 → (∀ w4 σ3, RCx PRG n 209 [.int x5] σ1 (some (.int w4)) σ3 → (∀ w6 σ5, RCx PRG n 211 [.ref 97] σ3 (some (.int w6)) σ5 → ((w4 = w6 → Pl PRG n d 317 35 [(0, .ref 97), (1, .int x1), (2, .int x2), (3, .int x3), (4, .int x4), (5, .int x5), (6, .int (0 : Int32))] [] σ5 Q) ∧ (¬ w4 = w6 → Pl PRG n d 317 78 [(0, .ref 97), (1, .int x1), (2, .int x2), (3, .int x3), (4, .int x4), (5, .int x5)] [] σ5 Q)))))))) : Pl PRG (n + 1) d 317 6 [(0, .ref 97), (1, .int x1), (2, .int x2), (3, .int x3), (4, .int x4), (5, .int x5)] [] σ Q := by
  have hM : PRG[317]? = some M_317 := rfl
  refine Pl.sg1 (pc' := 10) (ls' := [(0, .ref 97), (1, .int x1), (2, .int x2), (3, .int x3), (4, .int x4), (5, .int x5)]) (st' := [.ref 97, .int (1 : Int32), .int x5]) (σ' := σ) hM 2 rfl ?_
  refine Pl.weak (Pl.cI hM rfl rfl (by decide) (Mj := M_210) rfl rfl (fun w2 σ1 hw => ?_))
  replace h := h w2 σ1 hw
  refine Pl.br (c := ((1 : Int32) <<< (w2 &&& 31)) ≤ x5) (a := 84) (b := 17) (ls' := [(0, .ref 97), (1, .int x1), (2, .int x2), (3, .int x3), (4, .int x4), (5, .int x5)]) (st' := []) (σ' := σ1) hM 2 rfl (fun c => ?_) (fun c => ?_)
  · replace h := h.1 c
    refine Pl.seg (pc' := 86) (ls' := [(0, .ref 97), (1, .int x1), (2, .int x2), (3, .int x3), (4, .int x4), (5, .int x5)]) (st' := [.int x4]) (σ' := σ1) hM 1 rfl ?_
    refine Pl.weak (Pl.ret hM rfl rfl h)
  · replace h := h.2 c
    refine Pl.seg (pc' := 19) (ls' := [(0, .ref 97), (1, .int x1), (2, .int x2), (3, .int x3), (4, .int x4), (5, .int x5)]) (st' := [.int x5]) (σ' := σ1) hM 1 rfl ?_
    refine Pl.weak (Pl.cI hM rfl rfl (by decide) (Mj := M_209) rfl rfl (fun w4 σ3 hw => ?_))
    replace h := h w4 σ3 hw
    refine Pl.seg (pc' := 23) (ls' := [(0, .ref 97), (1, .int x1), (2, .int x2), (3, .int x3), (4, .int x4), (5, .int x5)]) (st' := [.ref 97, .int w4]) (σ' := σ3) hM 1 rfl ?_
    refine Pl.weak (Pl.cI hM rfl rfl (by decide) (Mj := M_211) rfl rfl (fun w6 σ5 hw => ?_))
    replace h := h w6 σ5 hw
    refine Pl.br (c := w4 = w6) (a := 32) (b := 29) (ls' := [(0, .ref 97), (1, .int x1), (2, .int x2), (3, .int x3), (4, .int x4), (5, .int x5)]) (st' := []) (σ' := σ5) hM 1 rfl (fun c => ?_) (fun c => ?_)
    · replace h := h.1 c
      refine Pl.seg (pc' := 35) (ls' := [(6, .int (0 : Int32)), (0, .ref 97), (1, .int x1), (2, .int x2), (3, .int x3), (4, .int x4), (5, .int x5)]) (st' := []) (σ' := σ5) hM 2 rfl ?_
      exact Pl.live (l' := [(0, .ref 97), (1, .int x1), (2, .int x2), (3, .int x3), (4, .int x4), (5, .int x5), (6, .int (0 : Int32))]) hM lv_317 ⟨show ndL _ from (by decide : List.Nodup ([6, 0, 1, 2, 3, 4, 5] : List Nat)), show ndL _ from (by decide : List.Nodup ([0, 1, 2, 3, 4, 5, 6] : List Nat)), by rw [lva_317_35]; exact List.forall_mem_cons.mpr ⟨rfl, List.forall_mem_cons.mpr ⟨rfl, List.forall_mem_cons.mpr ⟨rfl, List.forall_mem_cons.mpr ⟨rfl, List.forall_mem_cons.mpr ⟨rfl, List.forall_mem_cons.mpr ⟨rfl, List.forall_mem_cons.mpr ⟨rfl, fun _ h => absurd h List.not_mem_nil⟩⟩⟩⟩⟩⟩⟩⟩ h
    · replace h := h.2 c
      refine Pl.seg (pc' := 78) (ls' := [(0, .ref 97), (1, .int x1), (2, .int x2), (3, .int x3), (4, .int x4), (5, .int x5)]) (st' := []) (σ' := σ5) hM 1 rfl ?_
      exact Pl.live (l' := [(0, .ref 97), (1, .int x1), (2, .int x2), (3, .int x3), (4, .int x4), (5, .int x5)]) hM lv_317 ⟨show ndL _ from (by decide : List.Nodup ([0, 1, 2, 3, 4, 5] : List Nat)), show ndL _ from (by decide : List.Nodup ([0, 1, 2, 3, 4, 5] : List Nat)), by rw [lva_317_78]; exact List.forall_mem_cons.mpr ⟨rfl, List.forall_mem_cons.mpr ⟨rfl, List.forall_mem_cons.mpr ⟨rfl, List.forall_mem_cons.mpr ⟨rfl, List.forall_mem_cons.mpr ⟨rfl, List.forall_mem_cons.mpr ⟨rfl, fun _ h => absurd h List.not_mem_nil⟩⟩⟩⟩⟩⟩⟩ h
set_option maxRecDepth 100000 in
theorem p_317_35 {n d : Nat} {Q : Option Value → Sg → Prop} (σ : Sg) (x1 x2 x3 x4 x5 x6 : Int32) (h : (∀ w2 σ1, RCx PRG n 210 [.ref 97] σ (some (.int w2)) σ1 → ((w2 ≤ x6 → Pl PRG n d 317 78 [(0, .ref 97), (1, .int x1), (2, .int x2), (3, .int x3), (4, .int x4), (5, .int x5)] [] σ1 Q) ∧ (¬ w2 ≤ x6 → ((((x5 >>> (x6 &&& 31)) &&& (1 : Int32)) = (1 : Int32) → (∀ w4 σ3, RCx PRG n 316 [.ref 97, .int x1, .int x2, .int x3, .int x6, .int x5] σ1 (some (.int w4)) σ3 → (w4 = 0 ∨ w4 = 1) → ((w4 = 0 → Pl PRG n d 317 72 [(0, .ref 97), (1, .int x1), (2, .int x2), (3, .int x3), (4, .int x4), (5, .int x5), (6, .int x6)] [] σ3 Q) ∧ (¬ w4 = 0 → Pl PRG n d 317 72 [(0, .ref 97), (1, .int x1), (2, .int x2), (3, .int x3), (4, .int (x4 + (1 : Int32))), (5, .int x5), (6, .int x6)] [] σ3 Q)))) ∧ (¬ ((x5 >>> (x6 &&& 31)) &&& (1 : Int32)) = (1 : Int32) → Pl PRG n d 317 72 [(0, .ref 97), (1, .int x1), (2, .int x2), (3, .int x3), (4, .int x4), (5, .int x5), (6, .int x6)] [] σ1 Q)))))) : Pl PRG (n + 1) d 317 35 [(0, .ref 97), (1, .int x1), (2, .int x2), (3, .int x3), (4, .int x4), (5, .int x5), (6, .int x6)] [] σ Q := by
  have hM : PRG[317]? = some M_317 := rfl
  refine Pl.sg1 (pc' := 38) (ls' := [(0, .ref 97), (1, .int x1), (2, .int x2), (3, .int x3), (4, .int x4), (5, .int x5), (6, .int x6)]) (st' := [.ref 97, .int x6]) (σ' := σ) hM 1 rfl ?_
  refine Pl.weak (Pl.cI hM rfl rfl (by decide) (Mj := M_210) rfl rfl (fun w2 σ1 hw => ?_))
  replace h := h w2 σ1 hw
  refine Pl.br (c := w2 ≤ x6) (a := 78) (b := 44) (ls' := [(0, .ref 97), (1, .int x1), (2, .int x2), (3, .int x3), (4, .int x4), (5, .int x5), (6, .int x6)]) (st' := []) (σ' := σ1) hM 1 rfl (fun c => ?_) (fun c => ?_)
  · replace h := h.1 c
    exact Pl.live (l' := [(0, .ref 97), (1, .int x1), (2, .int x2), (3, .int x3), (4, .int x4), (5, .int x5)]) hM lv_317 ⟨show ndL _ from (by decide : List.Nodup ([0, 1, 2, 3, 4, 5, 6] : List Nat)), show ndL _ from (by decide : List.Nodup ([0, 1, 2, 3, 4, 5] : List Nat)), by rw [lva_317_78]; exact List.forall_mem_cons.mpr ⟨rfl, List.forall_mem_cons.mpr ⟨rfl, List.forall_mem_cons.mpr ⟨rfl, List.forall_mem_cons.mpr ⟨rfl, List.forall_mem_cons.mpr ⟨rfl, List.forall_mem_cons.mpr ⟨rfl, fun _ h => absurd h List.not_mem_nil⟩⟩⟩⟩⟩⟩⟩ h
  · replace h := h.2 c
    refine Pl.brN (c := ((x5 >>> (x6 &&& 31)) &&& (1 : Int32)) = (1 : Int32)) (a := 72) (b := 55) (ls' := [(0, .ref 97), (1, .int x1), (2, .int x2), (3, .int x3), (4, .int x4), (5, .int x5), (6, .int x6)]) (st' := []) (σ' := σ1) hM 7 rfl (fun c => ?_) (fun c => ?_)
    · replace h := h.2 c
      exact Pl.live (l' := [(0, .ref 97), (1, .int x1), (2, .int x2), (3, .int x3), (4, .int x4), (5, .int x5), (6, .int x6)]) hM lv_317 ⟨show ndL _ from (by decide : List.Nodup ([0, 1, 2, 3, 4, 5, 6] : List Nat)), show ndL _ from (by decide : List.Nodup ([0, 1, 2, 3, 4, 5, 6] : List Nat)), by rw [lva_317_72]; exact List.forall_mem_cons.mpr ⟨rfl, List.forall_mem_cons.mpr ⟨rfl, List.forall_mem_cons.mpr ⟨rfl, List.forall_mem_cons.mpr ⟨rfl, List.forall_mem_cons.mpr ⟨rfl, List.forall_mem_cons.mpr ⟨rfl, List.forall_mem_cons.mpr ⟨rfl, fun _ h => absurd h List.not_mem_nil⟩⟩⟩⟩⟩⟩⟩⟩ h
    · replace h := h.1 c
      refine Pl.seg (pc' := 63) (ls' := [(0, .ref 97), (1, .int x1), (2, .int x2), (3, .int x3), (4, .int x4), (5, .int x5), (6, .int x6)]) (st' := [.int x5, .int x6, .int x3, .int x2, .int x1, .ref 97]) (σ' := σ1) hM 6 rfl ?_
      refine Pl.weak (Pl.cZ hM rfl rfl (by decide) (Mj := M_316) rfl rfl (fun w4 σ3 hw hz => ?_))
      replace h := h w4 σ3 hw hz
      refine Pl.br (c := w4 = 0) (a := 72) (b := 69) (ls' := [(0, .ref 97), (1, .int x1), (2, .int x2), (3, .int x3), (4, .int x4), (5, .int x5), (6, .int x6)]) (st' := []) (σ' := σ3) hM 1 rfl (fun c => ?_) (fun c => ?_)
      · replace h := h.1 c
        exact Pl.live (l' := [(0, .ref 97), (1, .int x1), (2, .int x2), (3, .int x3), (4, .int x4), (5, .int x5), (6, .int x6)]) hM lv_317 ⟨show ndL _ from (by decide : List.Nodup ([0, 1, 2, 3, 4, 5, 6] : List Nat)), show ndL _ from (by decide : List.Nodup ([0, 1, 2, 3, 4, 5, 6] : List Nat)), by rw [lva_317_72]; exact List.forall_mem_cons.mpr ⟨rfl, List.forall_mem_cons.mpr ⟨rfl, List.forall_mem_cons.mpr ⟨rfl, List.forall_mem_cons.mpr ⟨rfl, List.forall_mem_cons.mpr ⟨rfl, List.forall_mem_cons.mpr ⟨rfl, List.forall_mem_cons.mpr ⟨rfl, fun _ h => absurd h List.not_mem_nil⟩⟩⟩⟩⟩⟩⟩⟩ h
      · replace h := h.2 c
        refine Pl.seg (pc' := 72) (ls' := [(4, .int (x4 + (1 : Int32))), (0, .ref 97), (1, .int x1), (2, .int x2), (3, .int x3), (5, .int x5), (6, .int x6)]) (st' := []) (σ' := σ3) hM 1 rfl ?_
        exact Pl.live (l' := [(0, .ref 97), (1, .int x1), (2, .int x2), (3, .int x3), (4, .int (x4 + (1 : Int32))), (5, .int x5), (6, .int x6)]) hM lv_317 ⟨show ndL _ from (by decide : List.Nodup ([4, 0, 1, 2, 3, 5, 6] : List Nat)), show ndL _ from (by decide : List.Nodup ([0, 1, 2, 3, 4, 5, 6] : List Nat)), by rw [lva_317_72]; exact List.forall_mem_cons.mpr ⟨rfl, List.forall_mem_cons.mpr ⟨rfl, List.forall_mem_cons.mpr ⟨rfl, List.forall_mem_cons.mpr ⟨rfl, List.forall_mem_cons.mpr ⟨rfl, List.forall_mem_cons.mpr ⟨rfl, List.forall_mem_cons.mpr ⟨rfl, fun _ h => absurd h List.not_mem_nil⟩⟩⟩⟩⟩⟩⟩⟩ h
set_option maxRecDepth 100000 in
theorem p_317_78 {n d : Nat} {Q : Option Value → Sg → Prop} (σ : Sg) (x1 x2 x3 x4 x5 : Int32) (h : Pl PRG n d 317 6 [(0, .ref 97), (1, .int x1), (2, .int x2), (3, .int x3), (4, .int x4), (5, .int (x5 + (1 : Int32)))] [] σ Q) : Pl PRG (n + 1) d 317 78 [(0, .ref 97), (1, .int x1), (2, .int x2), (3, .int x3), (4, .int x4), (5, .int x5)] [] σ Q := by
  have hM : PRG[317]? = some M_317 := rfl
  refine Pl.sg1 (pc' := 6) (ls' := [(5, .int (x5 + (1 : Int32))), (0, .ref 97), (1, .int x1), (2, .int x2), (3, .int x3), (4, .int x4)]) (st' := []) (σ' := σ) hM 1 rfl ?_
  exact Pl.live (l' := [(0, .ref 97), (1, .int x1), (2, .int x2), (3, .int x3), (4, .int x4), (5, .int (x5 + (1 : Int32)))]) hM lv_317 ⟨show ndL _ from (by decide : List.Nodup ([5, 0, 1, 2, 3, 4] : List Nat)), show ndL _ from (by decide : List.Nodup ([0, 1, 2, 3, 4, 5] : List Nat)), by rw [lva_317_6]; exact List.forall_mem_cons.mpr ⟨rfl, List.forall_mem_cons.mpr ⟨rfl, List.forall_mem_cons.mpr ⟨rfl, List.forall_mem_cons.mpr ⟨rfl, List.forall_mem_cons.mpr ⟨rfl, List.forall_mem_cons.mpr ⟨rfl, fun _ h => absurd h List.not_mem_nil⟩⟩⟩⟩⟩⟩⟩ h
set_option maxRecDepth 100000 in
theorem p_317_72 {n d : Nat} {Q : Option Value → Sg → Prop} (σ : Sg) (x1 x2 x3 x4 x5 x6 : Int32) (h : Pl PRG n d 317 35 [(0, .ref 97), (1, .int x1), (2, .int x2), (3, .int x3), (4, .int x4), (5, .int x5), (6, .int (x6 + (1 : Int32)))] [] σ Q) : Pl PRG (n + 1) d 317 72 [(0, .ref 97), (1, .int x1), (2, .int x2), (3, .int x3), (4, .int x4), (5, .int x5), (6, .int x6)] [] σ Q := by
  have hM : PRG[317]? = some M_317 := rfl
  refine Pl.sg1 (pc' := 35) (ls' := [(6, .int (x6 + (1 : Int32))), (0, .ref 97), (1, .int x1), (2, .int x2), (3, .int x3), (4, .int x4), (5, .int x5)]) (st' := []) (σ' := σ) hM 1 rfl ?_
  exact Pl.live (l' := [(0, .ref 97), (1, .int x1), (2, .int x2), (3, .int x3), (4, .int x4), (5, .int x5), (6, .int (x6 + (1 : Int32)))]) hM lv_317 ⟨show ndL _ from (by decide : List.Nodup ([6, 0, 1, 2, 3, 4, 5] : List Nat)), show ndL _ from (by decide : List.Nodup ([0, 1, 2, 3, 4, 5, 6] : List Nat)), by rw [lva_317_35]; exact List.forall_mem_cons.mpr ⟨rfl, List.forall_mem_cons.mpr ⟨rfl, List.forall_mem_cons.mpr ⟨rfl, List.forall_mem_cons.mpr ⟨rfl, List.forall_mem_cons.mpr ⟨rfl, List.forall_mem_cons.mpr ⟨rfl, List.forall_mem_cons.mpr ⟨rfl, fun _ h => absurd h List.not_mem_nil⟩⟩⟩⟩⟩⟩⟩⟩ h
def LV_318 : List (Nat × List Nat) := [(0, [0, 1, 2]), (1, [0, 1, 2]), (2, [0, 1, 2]), (5, [0, 1, 2]), (8, [0, 1, 2]), (9, [0, 1, 2]), (10, [0, 1, 2]), (11, [0, 1, 2]), (14, [0, 1, 2]), (17, []), (18, []), (19, [0, 1, 2]), (20, [0, 1, 2]), (21, [0, 1, 2]), (24, [0, 1, 2]), (27, [0, 1, 2]), (28, [1, 2]), (29, [1]), (32, [1]), (33, [1]), (36, [1]), (37, [1]), (38, [1]), (39, []), (42, []), (45, []), (46, [])]
set_option maxRecDepth 100000 in
theorem lv_318 : chkLv M_318 LV_318 = true := by decide +kernel
set_option maxRecDepth 100000 in
theorem lva_318_17 : lvA LV_318 17 = [] := by decide +kernel
set_option maxRecDepth 100000 in
theorem p_318_0 {n d : Nat} {Q : Option Value → Sg → Prop} (σ : Sg) (x1 x2 : Int32) (h : (∀ w2 σ1, RCx PRG n 313 [.ref 97, .int x1] σ (some (.int w2)) σ1 → (w2 = 0 ∨ w2 = 1) → ((w2 = 0 → Pl PRG n d 318 17 [] [] σ1 Q) ∧ (¬ w2 = 0 → (∀ w4 σ3, RCx PRG n 195 [.int x2, .int (0 : Int32), .int (1 : Int32)] σ1 (some (.int w4)) σ3 → (w4 = 0 ∨ w4 = 1) → ((w4 = 0 → Pl PRG n d 318 17 [] [] σ3 Q) ∧ (¬ w4 = 0 → (∀ w6 σ5, RCx PRG n 315 [.ref 97, .int x1] σ3 (some (.int w6)) σ5 → (w6 = 0 ∨ w6 = 1) → ((w6 = 0 → Q (some (.int (0 : Int32))) σ5) ∧ (¬ w6 = 0 → ((x2 = 0 → (∀ w10 σ9, RCx PRG n 317 [.ref 97, .int (0 : Int32), .int x1, .int x1] σ5 (some (.int w10)) σ9 → Q (some (.int w10)) σ9)) ∧ (¬ x2 = 0 → (∀ w8 σ7, RCx PRG n 317 [.ref 97, .int (1 : Int32), .int x1, .int x1] σ5 (some (.int w8)) σ7 → Q (some (.int w8)) σ7))))))))))))) : Pl PRG (n + 1) d 318 0 [(0, .ref 97), (1, .int x1), (2, .int x2)] [] σ Q := by
  have hM : PRG[318]? = some M_318 := rfl
  refine Pl.sg1 (pc' := 2) (ls' := [(0, .ref 97), (1, .int x1), (2, .int x2)]) (st' := [.int x1, .ref 97]) (σ' := σ) hM 1 rfl ?_
  refine Pl.weak (Pl.cZ hM rfl rfl (by decide) (Mj := M_313) rfl rfl (fun w2 σ1 hw hz => ?_))
  replace h := h w2 σ1 hw hz
  refine Pl.br (c := w2 = 0) (a := 17) (b := 8) (ls' := [(0, .ref 97), (1, .int x1), (2, .int x2)]) (st' := []) (σ' := σ1) hM 1 rfl (fun c => ?_) (fun c => ?_)
  · replace h := h.1 c
    exact Pl.live (l' := []) hM lv_318 ⟨show ndL _ from (by decide : List.Nodup ([0, 1, 2] : List Nat)), show ndL _ from (by decide : List.Nodup ([] : List Nat)), by rw [lva_318_17]; exact fun _ h => absurd h List.not_mem_nil⟩ h
  · replace h := h.2 c
    refine Pl.seg (pc' := 11) (ls' := [(0, .ref 97), (1, .int x1), (2, .int x2)]) (st' := [.int (1 : Int32), .int (0 : Int32), .int x2]) (σ' := σ1) hM 3 rfl ?_
    refine Pl.weak (Pl.cZ hM rfl rfl (by decide) (Mj := M_195) rfl rfl (fun w4 σ3 hw hz => ?_))
    replace h := h w4 σ3 hw hz
    refine Pl.brN (c := w4 = 0) (a := 19) (b := 17) (ls' := [(0, .ref 97), (1, .int x1), (2, .int x2)]) (st' := []) (σ' := σ3) hM 1 rfl (fun c => ?_) (fun c => ?_)
    · replace h := h.2 c
      refine Pl.seg (pc' := 21) (ls' := [(0, .ref 97), (1, .int x1), (2, .int x2)]) (st' := [.int x1, .ref 97]) (σ' := σ3) hM 2 rfl ?_
      refine Pl.weak (Pl.cZ hM rfl rfl (by decide) (Mj := M_315) rfl rfl (fun w6 σ5 hw hz => ?_))
      replace h := h w6 σ5 hw hz
      refine Pl.br (c := w6 = 0) (a := 45) (b := 27) (ls' := [(0, .ref 97), (1, .int x1), (2, .int x2)]) (st' := []) (σ' := σ5) hM 1 rfl (fun c => ?_) (fun c => ?_)
      · replace h := h.1 c
        refine Pl.seg (pc' := 46) (ls' := [(0, .ref 97), (1, .int x1), (2, .int x2)]) (st' := [.int (0 : Int32)]) (σ' := σ5) hM 1 rfl ?_
        refine Pl.weak (Pl.ret hM rfl rfl h)
      · replace h := h.2 c
        refine Pl.brN (c := x2 = 0) (a := 36) (b := 32) (ls' := [(0, .ref 97), (1, .int x1), (2, .int x2)]) (st' := [.ref 97]) (σ' := σ5) hM 3 rfl (fun c => ?_) (fun c => ?_)
        · replace h := h.2 c
          refine Pl.seg (pc' := 39) (ls' := [(0, .ref 97), (1, .int x1), (2, .int x2)]) (st' := [.int x1, .int x1, .int (1 : Int32), .ref 97]) (σ' := σ5) hM 3 rfl ?_
          refine Pl.weak (Pl.cI hM rfl rfl (by decide) (Mj := M_317) rfl rfl (fun w8 σ7 hw => ?_))
          replace h := h w8 σ7 hw
          refine Pl.seg (pc' := 46) (ls' := [(0, .ref 97), (1, .int x1), (2, .int x2)]) (st' := [.int w8]) (σ' := σ7) hM 1 rfl ?_
          refine Pl.weak (Pl.ret hM rfl rfl h)
        · replace h := h.1 c
          refine Pl.seg (pc' := 39) (ls' := [(0, .ref 97), (1, .int x1), (2, .int x2)]) (st' := [.int x1, .int x1, .int (0 : Int32), .ref 97]) (σ' := σ5) hM 4 rfl ?_
          refine Pl.weak (Pl.cI hM rfl rfl (by decide) (Mj := M_317) rfl rfl (fun w10 σ9 hw => ?_))
          replace h := h w10 σ9 hw
          refine Pl.seg (pc' := 46) (ls' := [(0, .ref 97), (1, .int x1), (2, .int x2)]) (st' := [.int w10]) (σ' := σ9) hM 1 rfl ?_
          refine Pl.weak (Pl.ret hM rfl rfl h)
    · replace h := h.1 c
      exact Pl.live (l' := []) hM lv_318 ⟨show ndL _ from (by decide : List.Nodup ([0, 1, 2] : List Nat)), show ndL _ from (by decide : List.Nodup ([] : List Nat)), by rw [lva_318_17]; exact fun _ h => absurd h List.not_mem_nil⟩ h
set_option maxRecDepth 100000 in
theorem p_318_17 {n d : Nat} {Q : Option Value → Sg → Prop} (σ : Sg) (h : Q (some (.int (-1 : Int32))) σ) : Pl PRG (n + 1) d 318 17 [] [] σ Q := by
  have hM : PRG[318]? = some M_318 := rfl
  refine Pl.sg1 (pc' := 18) (ls' := []) (st' := [.int (-1 : Int32)]) (σ' := σ) hM 0 rfl ?_
  refine Pl.weak (Pl.ret hM rfl rfl h)
def LV_319 : List (Nat × List Nat) := [(0, [0, 1, 2]), (1, [0, 1, 2]), (2, [0, 1, 2]), (5, [0, 1, 2]), (8, [0, 1, 2]), (9, [0, 1, 2]), (10, [0, 1, 2]), (13, [0, 1, 2]), (16, [0, 1, 2]), (17, [0, 1, 2]), (18, [0, 1, 2]), (21, []), (22, []), (23, [0, 1, 2]), (24, [0, 1, 2]), (25, [0, 1, 2]), (28, [0, 1, 2]), (31, [0, 1, 2]), (32, [0, 1, 2]), (33, [0, 1, 2]), (36, [0, 1, 2]), (39, [0, 1, 2]), (40, [1, 2]), (41, [1, 2]), (42, [2]), (43, []), (46, []), (49, []), (50, [])]
set_option maxRecDepth 100000 in
theorem lv_319 : chkLv M_319 LV_319 = true := by decide +kernel
set_option maxRecDepth 100000 in
theorem lva_319_21 : lvA LV_319 21 = [] := by decide +kernel
set_option maxRecDepth 100000 in
theorem lva_319_49 : lvA LV_319 49 = [] := by decide +kernel
set_option maxRecDepth 100000 in
theorem p_319_0 {n d : Nat} {Q : Option Value → Sg → Prop} (σ : Sg) (x1 x2 : Int32) (h : (∀ w2 σ1, RCx PRG n 313 [.ref 97, .int x1] σ (some (.int w2)) σ1 → (w2 = 0 ∨ w2 = 1) → ((w2 = 0 → Pl PRG n d 319 21 [] [] σ1 Q) ∧ (¬ w2 = 0 → (∀ w4 σ3, RCx PRG n 313 [.ref 97, .int x2] σ1 (some (.int w4)) σ3 → (w4 = 0 ∨ w4 = 1) → ((w4 = 0 → Pl PRG n d 319 21 [] [] σ3 Q) ∧ (¬ w4 = 0 → ((x1 = x2 → Pl PRG n d 319 21 [] [] σ3 Q) ∧ (¬ x1 = x2 → (∀ w6 σ5, RCx PRG n 315 [.ref 97, .int x1] σ3 (some (.int w6)) σ5 → (w6 = 0 ∨ w6 = 1) → ((w6 = 0 → Pl PRG n d 319 49 [] [] σ5 Q) ∧ (¬ w6 = 0 → (∀ w8 σ7, RCx PRG n 315 [.ref 97, .int x2] σ5 (some (.int w8)) σ7 → (w8 = 0 ∨ w8 = 1) → ((w8 = 0 → Pl PRG n d 319 49 [] [] σ7 Q) ∧ (¬ w8 = 0 → (∀ w10 σ9, RCx PRG n 317 [.ref 97, .int (2 : Int32), .int x1, .int x2] σ7 (some (.int w10)) σ9 → Q (some (.int w10)) σ9)))))))))))))))) : Pl PRG (n + 1) d 319 0 [(0, .ref 97), (1, .int x1), (2, .int x2)] [] σ Q := by
  have hM : PRG[319]? = some M_319 := rfl
  refine Pl.sg1 (pc' := 2) (ls' := [(0, .ref 97), (1, .int x1), (2, .int x2)]) (st' := [.int x1, .ref 97]) (σ' := σ) hM 1 rfl ?_
  refine Pl.weak (Pl.cZ hM rfl rfl (by decide) (Mj := M_313) rfl rfl (fun w2 σ1 hw hz => ?_))
  replace h := h w2 σ1 hw hz
  refine Pl.br (c := w2 = 0) (a := 21) (b := 8) (ls' := [(0, .ref 97), (1, .int x1), (2, .int x2)]) (st' := []) (σ' := σ1) hM 1 rfl (fun c => ?_) (fun c => ?_)
  · replace h := h.1 c
    exact Pl.live (l' := []) hM lv_319 ⟨show ndL _ from (by decide : List.Nodup ([0, 1, 2] : List Nat)), show ndL _ from (by decide : List.Nodup ([] : List Nat)), by rw [lva_319_21]; exact fun _ h => absurd h List.not_mem_nil⟩ h
  · replace h := h.2 c
    refine Pl.seg (pc' := 10) (ls' := [(0, .ref 97), (1, .int x1), (2, .int x2)]) (st' := [.int x2, .ref 97]) (σ' := σ1) hM 2 rfl ?_
    refine Pl.weak (Pl.cZ hM rfl rfl (by decide) (Mj := M_313) rfl rfl (fun w4 σ3 hw hz => ?_))
    replace h := h w4 σ3 hw hz
    refine Pl.br (c := w4 = 0) (a := 21) (b := 16) (ls' := [(0, .ref 97), (1, .int x1), (2, .int x2)]) (st' := []) (σ' := σ3) hM 1 rfl (fun c => ?_) (fun c => ?_)
    · replace h := h.1 c
      exact Pl.live (l' := []) hM lv_319 ⟨show ndL _ from (by decide : List.Nodup ([0, 1, 2] : List Nat)), show ndL _ from (by decide : List.Nodup ([] : List Nat)), by rw [lva_319_21]; exact fun _ h => absurd h List.not_mem_nil⟩ h
    · replace h := h.2 c
      refine Pl.brN (c := x1 = x2) (a := 23) (b := 21) (ls' := [(0, .ref 97), (1, .int x1), (2, .int x2)]) (st' := []) (σ' := σ3) hM 3 rfl (fun c => ?_) (fun c => ?_)
      · replace h := h.2 c
        refine Pl.seg (pc' := 25) (ls' := [(0, .ref 97), (1, .int x1), (2, .int x2)]) (st' := [.int x1, .ref 97]) (σ' := σ3) hM 2 rfl ?_
        refine Pl.weak (Pl.cZ hM rfl rfl (by decide) (Mj := M_315) rfl rfl (fun w6 σ5 hw hz => ?_))
        replace h := h w6 σ5 hw hz
        refine Pl.br (c := w6 = 0) (a := 49) (b := 31) (ls' := [(0, .ref 97), (1, .int x1), (2, .int x2)]) (st' := []) (σ' := σ5) hM 1 rfl (fun c => ?_) (fun c => ?_)
        · replace h := h.1 c
          exact Pl.live (l' := []) hM lv_319 ⟨show ndL _ from (by decide : List.Nodup ([0, 1, 2] : List Nat)), show ndL _ from (by decide : List.Nodup ([] : List Nat)), by rw [lva_319_49]; exact fun _ h => absurd h List.not_mem_nil⟩ h
        · replace h := h.2 c
          refine Pl.seg (pc' := 33) (ls' := [(0, .ref 97), (1, .int x1), (2, .int x2)]) (st' := [.int x2, .ref 97]) (σ' := σ5) hM 2 rfl ?_
          refine Pl.weak (Pl.cZ hM rfl rfl (by decide) (Mj := M_315) rfl rfl (fun w8 σ7 hw hz => ?_))
          replace h := h w8 σ7 hw hz
          refine Pl.br (c := w8 = 0) (a := 49) (b := 39) (ls' := [(0, .ref 97), (1, .int x1), (2, .int x2)]) (st' := []) (σ' := σ7) hM 1 rfl (fun c => ?_) (fun c => ?_)
          · replace h := h.1 c
            exact Pl.live (l' := []) hM lv_319 ⟨show ndL _ from (by decide : List.Nodup ([0, 1, 2] : List Nat)), show ndL _ from (by decide : List.Nodup ([] : List Nat)), by rw [lva_319_49]; exact fun _ h => absurd h List.not_mem_nil⟩ h
          · replace h := h.2 c
            refine Pl.seg (pc' := 43) (ls' := [(0, .ref 97), (1, .int x1), (2, .int x2)]) (st' := [.int x2, .int x1, .int (2 : Int32), .ref 97]) (σ' := σ7) hM 4 rfl ?_
            refine Pl.weak (Pl.cI hM rfl rfl (by decide) (Mj := M_317) rfl rfl (fun w10 σ9 hw => ?_))
            replace h := h w10 σ9 hw
            refine Pl.seg (pc' := 50) (ls' := [(0, .ref 97), (1, .int x1), (2, .int x2)]) (st' := [.int w10]) (σ' := σ9) hM 1 rfl ?_
            refine Pl.weak (Pl.ret hM rfl rfl h)
      · replace h := h.1 c
        exact Pl.live (l' := []) hM lv_319 ⟨show ndL _ from (by decide : List.Nodup ([0, 1, 2] : List Nat)), show ndL _ from (by decide : List.Nodup ([] : List Nat)), by rw [lva_319_21]; exact fun _ h => absurd h List.not_mem_nil⟩ h
set_option maxRecDepth 100000 in
theorem p_319_21 {n d : Nat} {Q : Option Value → Sg → Prop} (σ : Sg) (h : Q (some (.int (-1 : Int32))) σ) : Pl PRG (n + 1) d 319 21 [] [] σ Q := by
  have hM : PRG[319]? = some M_319 := rfl
  refine Pl.sg1 (pc' := 22) (ls' := []) (st' := [.int (-1 : Int32)]) (σ' := σ) hM 0 rfl ?_
  refine Pl.weak (Pl.ret hM rfl rfl h)
set_option maxRecDepth 100000 in
theorem p_319_49 {n d : Nat} {Q : Option Value → Sg → Prop} (σ : Sg) (h : Q (some (.int (0 : Int32))) σ) : Pl PRG (n + 1) d 319 49 [] [] σ Q := by
  have hM : PRG[319]? = some M_319 := rfl
  refine Pl.sg1 (pc' := 50) (ls' := []) (st' := [.int (0 : Int32)]) (σ' := σ) hM 0 rfl ?_
  refine Pl.weak (Pl.ret hM rfl rfl h)
set_option maxRecDepth 100000 in
theorem p_320_0 {n d : Nat} {Q : Option Value → Sg → Prop} (σ : Sg) (h : (∀ w2 σ1, RCx PRG n 317 [.ref 97, .int (3 : Int32), .int (0 : Int32), .int (0 : Int32)] σ (some (.int w2)) σ1 → Q (some (.int w2)) σ1)) : Pl PRG (n + 1) d 320 0 [(0, .ref 97)] [] σ Q := by
  have hM : PRG[320]? = some M_320 := rfl
  refine Pl.sg1 (pc' := 4) (ls' := [(0, .ref 97)]) (st' := [.int (0 : Int32), .int (0 : Int32), .int (3 : Int32), .ref 97]) (σ' := σ) hM 3 rfl ?_
  refine Pl.weak (Pl.cI hM rfl rfl (by decide) (Mj := M_317) rfl rfl (fun w2 σ1 hw => ?_))
  replace h := h w2 σ1 hw
  refine Pl.weak (Pl.ret hM rfl rfl h)
