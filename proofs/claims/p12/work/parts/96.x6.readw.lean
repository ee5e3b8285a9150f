/-! what a run that ends has done: the readers (both sides) -/
def LV_101 : List (Nat × List Nat) := [(0, [0, 1]), (1, [0, 1]), (4, [0, 1]), (5, [0, 1]), (8, [0, 1]), (9, [0, 1]), (12, [0, 1]), (15, [0, 1]), (18, [0]), (19, [0]), (20, [0]), (23, [0]), (24, [0]), (25, [0]), (28, [0]), (29, [0]), (30, [0]), (33, [0]), (36, [0]), (37, []), (40, []), (41, []), (44, []), (45, []), (46, [0, 1]), (47, [0, 1]), (48, [0, 1]), (51, [0, 1]), (52, [0]), (55, [0]), (56, [0]), (59, [0]), (60, [0]), (63, [0]), (64, [0]), (65, [0]), (68, [0]), (71, [0]), (72, []), (75, []), (76, []), (79, []), (80, [])]
set_option maxRecDepth 100000 in
theorem lv_101 : chkLv M_101 LV_101 = true := by decide +kernel
set_option maxRecDepth 100000 in
theorem lva_101_46 : lvA LV_101 46 = [0, 1] := by decide +kernel
set_option maxRecDepth 100000 in
theorem p_101_0 {n d : Nat} {Q : Option Value → Sg → Prop} (σ : Sg) (x1 : Int32) (h : (((σ.1 15 5) = x1 → (((400 : Int32) ≤ (σ.1 15 4) → Pl PRG n d 101 46 [(0, .ref 15), (1, .int x1)] [] σ Q) ∧ (¬ (400 : Int32) ≤ (σ.1 15 4) → (inR ((σ.1 15 4) + (1 : Int32)) 402 = true → Q (some (.int (1 : Int32))) (s1 (s1 σ 15 4 ((σ.1 15 4) + (1 : Int32))) 15 5 (σ.1 18 ((σ.1 15 4) + (1 : Int32)).toNatClampNeg)))))) ∧ (¬ (σ.1 15 5) = x1 → Pl PRG n d 101 46 [(0, .ref 15), (1, .int x1)] [] σ Q))) : Pl PRG (n + 1) d 101 0 [(0, .ref 15), (1, .int x1)] [] σ Q := by
  have hM : PRG[101]? = some M_101 := rfl
  refine Pl.brN1 (c := (σ.1 15 5) = x1) (a := 46) (b := 8) (ls' := [(0, .ref 15), (1, .int x1)]) (st' := []) (σ' := σ) hM 3 rfl (fun c => ?_) (fun c => ?_)
  · replace h := h.2 c
    exact Pl.live (l' := [(0, .ref 15), (1, .int x1)]) hM lv_101 ⟨show ndL _ from (by decide : List.Nodup ([0, 1] : List Nat)), show ndL _ from (by decide : List.Nodup ([0, 1] : List Nat)), by rw [lva_101_46]; exact List.forall_mem_cons.mpr ⟨rfl, List.forall_mem_cons.mpr ⟨rfl, fun _ h => absurd h List.not_mem_nil⟩⟩⟩ h
  · replace h := h.1 c
    refine Pl.br (c := (400 : Int32) ≤ (σ.1 15 4)) (a := 46) (b := 18) (ls' := [(0, .ref 15), (1, .int x1)]) (st' := []) (σ' := σ) hM 4 rfl (fun c => ?_) (fun c => ?_)
    · replace h := h.1 c
      exact Pl.live (l' := [(0, .ref 15), (1, .int x1)]) hM lv_101 ⟨show ndL _ from (by decide : List.Nodup ([0, 1] : List Nat)), show ndL _ from (by decide : List.Nodup ([0, 1] : List Nat)), by rw [lva_101_46]; exact List.forall_mem_cons.mpr ⟨rfl, List.forall_mem_cons.mpr ⟨rfl, fun _ h => absurd h List.not_mem_nil⟩⟩⟩ h
    · replace h := h.2 c
      refine Pl.seg (pc' := 40) (ls' := [(0, .ref 15), (1, .int x1)]) (st' := [.int ((σ.1 15 4) + (1 : Int32)), .ref 18, .ref 15]) (σ' := (s1 σ 15 4 ((σ.1 15 4) + (1 : Int32)))) hM 12 rfl ?_
      refine Pl.weak (Pl.iald hM rfl rfl (fun hi => ?_))
      replace h := h hi
      refine Pl.seg (pc' := 45) (ls' := [(0, .ref 15), (1, .int x1)]) (st' := [.int (1 : Int32)]) (σ' := (s1 (s1 σ 15 4 ((σ.1 15 4) + (1 : Int32))) 15 5 (σ.1 18 ((σ.1 15 4) + (1 : Int32)).toNatClampNeg))) hM 2 rfl ?_
      refine Pl.weak (Pl.ret hM rfl rfl h)
set_option maxRecDepth 100000 in
theorem p_101_46 {n d : Nat} {Q : Option Value → Sg → Prop} (σ : Sg) (x1 : Int32) (h : (((σ.1 15 5) = x1 → (inR (σ.1 15 4) 402 = true → Q (some (.int (0 : Int32))) (s1 (s1 σ 15 7 (2 : Int32)) 15 8 (σ.1 19 (σ.1 15 4).toNatClampNeg)))) ∧ (¬ (σ.1 15 5) = x1 → (inR (σ.1 15 4) 402 = true → Q (some (.int (0 : Int32))) (s1 (s1 σ 15 7 (1 : Int32)) 15 8 (σ.1 19 (σ.1 15 4).toNatClampNeg)))))) : Pl PRG (n + 1) d 101 46 [(0, .ref 15), (1, .int x1)] [] σ Q := by
  have hM : PRG[101]? = some M_101 := rfl
  refine Pl.brN1 (c := (σ.1 15 5) = x1) (a := 59) (b := 55) (ls' := [(0, .ref 15), (1, .int x1)]) (st' := [.ref 15]) (σ' := σ) hM 4 rfl (fun c => ?_) (fun c => ?_)
  · replace h := h.2 c
    refine Pl.seg (pc' := 75) (ls' := [(0, .ref 15), (1, .int x1)]) (st' := [.int (σ.1 15 4), .ref 19, .ref 15]) (σ' := (s1 σ 15 7 (1 : Int32))) hM 8 rfl ?_
    refine Pl.weak (Pl.iald hM rfl rfl (fun hi => ?_))
    replace h := h hi
    refine Pl.seg (pc' := 80) (ls' := [(0, .ref 15), (1, .int x1)]) (st' := [.int (0 : Int32)]) (σ' := (s1 (s1 σ 15 7 (1 : Int32)) 15 8 (σ.1 19 (σ.1 15 4).toNatClampNeg))) hM 2 rfl ?_
    refine Pl.weak (Pl.ret hM rfl rfl h)
  · replace h := h.1 c
    refine Pl.seg (pc' := 75) (ls' := [(0, .ref 15), (1, .int x1)]) (st' := [.int (σ.1 15 4), .ref 19, .ref 15]) (σ' := (s1 σ 15 7 (2 : Int32))) hM 9 rfl ?_
    refine Pl.weak (Pl.iald hM rfl rfl (fun hi => ?_))
    replace h := h hi
    refine Pl.seg (pc' := 80) (ls' := [(0, .ref 15), (1, .int x1)]) (st' := [.int (0 : Int32)]) (σ' := (s1 (s1 σ 15 7 (2 : Int32)) 15 8 (σ.1 19 (σ.1 15 4).toNatClampNeg))) hM 2 rfl ?_
    refine Pl.weak (Pl.ret hM rfl rfl h)
def LV_102 : List (Nat × List Nat) := [(0, [0, 1, 2]), (1, [0, 1, 2]), (4, [0, 1, 2]), (7, [0, 1, 2]), (8, [0, 1, 2]), (11, [0, 1, 2]), (12, [0, 1, 2]), (13, [0, 1, 2]), (16, [0, 1, 2]), (19, [0, 1, 2]), (20, [0, 1, 2]), (23, [0, 1, 2]), (24, [0, 1, 2]), (25, [0, 2]), (28, [0, 2]), (29, [0, 2]), (30, [2]), (33, [2]), (36, [2]), (37, []), (38, []), (41, [])]
set_option maxRecDepth 100000 in
theorem lv_102 : chkLv M_102 LV_102 = true := by decide +kernel
set_option maxRecDepth 100000 in
theorem lva_102_41 : lvA LV_102 41 = [] := by decide +kernel
set_option maxRecDepth 100000 in
theorem p_102_0 {n d : Nat} {Q : Option Value → Sg → Prop} (σ : Sg) (x1 x2 : Int32) (h : (((σ.1 15 9) = 0 → ((x2 < 0 → Pl PRG n d 102 41 [] [] σ Q) ∧ (¬ x2 < 0 → (((402 : Int32) ≤ x2 → Pl PRG n d 102 41 [] [] σ Q) ∧ (¬ (402 : Int32) ≤ x2 → (inR x2 402 = true → Pl PRG n d 102 41 [] [] (s1 (s1 σ 15 9 x1) 15 10 (σ.1 19 x2.toNatClampNeg)) Q)))))) ∧ (¬ (σ.1 15 9) = 0 → Pl PRG n d 102 41 [] [] σ Q))) : Pl PRG (n + 1) d 102 0 [(0, .ref 15), (1, .int x1), (2, .int x2)] [] σ Q := by
  have hM : PRG[102]? = some M_102 := rfl
  refine Pl.brN1 (c := (σ.1 15 9) = 0) (a := 41) (b := 7) (ls' := [(0, .ref 15), (1, .int x1), (2, .int x2)]) (st' := []) (σ' := σ) hM 2 rfl (fun c => ?_) (fun c => ?_)
  · replace h := h.2 c
    exact Pl.live (l' := []) hM lv_102 ⟨show ndL _ from (by decide : List.Nodup ([0, 1, 2] : List Nat)), show ndL _ from (by decide : List.Nodup ([] : List Nat)), by rw [lva_102_41]; exact fun _ h => absurd h List.not_mem_nil⟩ h
  · replace h := h.1 c
    refine Pl.br (c := x2 < 0) (a := 41) (b := 11) (ls' := [(0, .ref 15), (1, .int x1), (2, .int x2)]) (st' := []) (σ' := σ) hM 2 rfl (fun c => ?_) (fun c => ?_)
    · replace h := h.1 c
      exact Pl.live (l' := []) hM lv_102 ⟨show ndL _ from (by decide : List.Nodup ([0, 1, 2] : List Nat)), show ndL _ from (by decide : List.Nodup ([] : List Nat)), by rw [lva_102_41]; exact fun _ h => absurd h List.not_mem_nil⟩ h
    · replace h := h.2 c
      refine Pl.br (c := (402 : Int32) ≤ x2) (a := 41) (b := 23) (ls' := [(0, .ref 15), (1, .int x1), (2, .int x2)]) (st' := []) (σ' := σ) hM 6 rfl (fun c => ?_) (fun c => ?_)
      · replace h := h.1 c
        exact Pl.live (l' := []) hM lv_102 ⟨show ndL _ from (by decide : List.Nodup ([0, 1, 2] : List Nat)), show ndL _ from (by decide : List.Nodup ([] : List Nat)), by rw [lva_102_41]; exact fun _ h => absurd h List.not_mem_nil⟩ h
      · replace h := h.2 c
        refine Pl.seg (pc' := 37) (ls' := [(0, .ref 15), (1, .int x1), (2, .int x2)]) (st' := [.int x2, .ref 19, .ref 15]) (σ' := (s1 σ 15 9 x1)) hM 8 rfl ?_
        refine Pl.weak (Pl.iald hM rfl rfl (fun hi => ?_))
        replace h := h hi
        refine Pl.seg (pc' := 41) (ls' := [(0, .ref 15), (1, .int x1), (2, .int x2)]) (st' := []) (σ' := (s1 (s1 σ 15 9 x1) 15 10 (σ.1 19 x2.toNatClampNeg))) hM 1 rfl ?_
        exact Pl.live (l' := []) hM lv_102 ⟨show ndL _ from (by decide : List.Nodup ([0, 1, 2] : List Nat)), show ndL _ from (by decide : List.Nodup ([] : List Nat)), by rw [lva_102_41]; exact fun _ h => absurd h List.not_mem_nil⟩ h
set_option maxRecDepth 100000 in
theorem p_102_41 {n d : Nat} {Q : Option Value → Sg → Prop} (σ : Sg) (h : Q none σ) : Pl PRG (n + 1) d 102 41 [] [] σ Q := by
  have hM : PRG[102]? = some M_102 := rfl
  refine Pl.ret hM rfl rfl h
def LV_103 : List (Nat × List Nat) := [(0, [0, 1, 2]), (1, [0, 1, 2]), (4, [0, 1, 2]), (7, [0, 1, 2]), (8, [0, 1, 2]), (11, [0, 1, 2]), (12, [0, 1, 2]), (13, [0, 1, 2]), (14, [0, 1, 2, 3]), (15, [0, 1, 2, 3]), (16, [0, 1, 2, 3]), (19, [0, 1, 2, 3]), (22, []), (23, []), (24, [0, 1, 2, 3]), (25, [0, 1, 2, 3]), (26, [0, 2, 3]), (29, [0, 2, 3]), (30, [0, 2, 3]), (31, [0, 3]), (34, [0, 3]), (35, [0, 3]), (36, [0, 3]), (37, [3]), (40, [3]), (41, [3]), (42, [3]), (45, [3]), (46, [])]
set_option maxRecDepth 100000 in
theorem lv_103 : chkLv M_103 LV_103 = true := by decide +kernel
set_option maxRecDepth 100000 in
theorem lva_103_34 : lvA LV_103 34 = [0, 3] := by decide +kernel
set_option maxRecDepth 100000 in
theorem lva_103_45 : lvA LV_103 45 = [3] := by decide +kernel
set_option maxRecDepth 100000 in
theorem p_103_0 {n d : Nat} {Q : Option Value → Sg → Prop} (σ : Sg) (x1 x2 : Int32) (h : (inR (σ.1 15 4) 402 = true → (∀ w2 σ1, RCx PRG n 101 [.ref 15, .int (3 : Int32)] σ (some (.int w2)) σ1 → (w2 = 0 ∨ w2 = 1) → ((w2 = 0 → Q (some (.int (-1 : Int32))) σ1) ∧ (¬ w2 = 0 → (((σ.2 20 (σ.1 15 4).toNatClampNeg).toInt32 < x1 → Pl PRG n d 103 34 [(0, .ref 15), (3, .int (σ.2 20 (σ.1 15 4).toNatClampNeg).toInt32)] [] σ1 Q) ∧ (¬ (σ.2 20 (σ.1 15 4).toNatClampNeg).toInt32 < x1 → (((σ.2 20 (σ.1 15 4).toNatClampNeg).toInt32 ≤ x2 → Pl PRG n d 103 45 [(3, .int (σ.2 20 (σ.1 15 4).toNatClampNeg).toInt32)] [] σ1 Q) ∧ (¬ (σ.2 20 (σ.1 15 4).toNatClampNeg).toInt32 ≤ x2 → Pl PRG n d 103 34 [(0, .ref 15), (3, .int (σ.2 20 (σ.1 15 4).toNatClampNeg).toInt32)] [] σ1 Q))))))))) : Pl PRG (n + 1) d 103 0 [(0, .ref 15), (1, .int x1), (2, .int x2)] [] σ Q := by
  have hM : PRG[103]? = some M_103 := rfl
  refine Pl.sg1 (pc' := 11) (ls' := [(0, .ref 15), (1, .int x1), (2, .int x2)]) (st' := [.int (σ.1 15 4), .ref 20]) (σ' := σ) hM 4 rfl ?_
  refine Pl.weak (Pl.lald hM rfl rfl (fun hi => ?_))
  replace h := h hi
  refine Pl.seg (pc' := 16) (ls' := [(3, .int (σ.2 20 (σ.1 15 4).toNatClampNeg).toInt32), (0, .ref 15), (1, .int x1), (2, .int x2)]) (st' := [.int (3 : Int32), .ref 15]) (σ' := σ) hM 4 rfl ?_
  refine Pl.weak (Pl.cZ hM rfl rfl (by decide) (Mj := M_101) rfl rfl (fun w2 σ1 hw hz => ?_))
  replace h := h w2 σ1 hw hz
  refine Pl.brN (c := w2 = 0) (a := 24) (b := 22) (ls' := [(3, .int (σ.2 20 (σ.1 15 4).toNatClampNeg).toInt32), (0, .ref 15), (1, .int x1), (2, .int x2)]) (st' := []) (σ' := σ1) hM 1 rfl (fun c => ?_) (fun c => ?_)
  · replace h := h.2 c
    refine Pl.br (c := (σ.2 20 (σ.1 15 4).toNatClampNeg).toInt32 < x1) (a := 34) (b := 29) (ls' := [(3, .int (σ.2 20 (σ.1 15 4).toNatClampNeg).toInt32), (0, .ref 15), (1, .int x1), (2, .int x2)]) (st' := []) (σ' := σ1) hM 3 rfl (fun c => ?_) (fun c => ?_)
    · replace h := h.1 c
      exact Pl.live (l' := [(0, .ref 15), (3, .int (σ.2 20 (σ.1 15 4).toNatClampNeg).toInt32)]) hM lv_103 ⟨show ndL _ from (by decide : List.Nodup ([3, 0, 1, 2] : List Nat)), show ndL _ from (by decide : List.Nodup ([0, 3] : List Nat)), by rw [lva_103_34]; exact List.forall_mem_cons.mpr ⟨rfl, List.forall_mem_cons.mpr ⟨rfl, fun _ h => absurd h List.not_mem_nil⟩⟩⟩ h
    · replace h := h.2 c
      refine Pl.br (c := (σ.2 20 (σ.1 15 4).toNatClampNeg).toInt32 ≤ x2) (a := 45) (b := 34) (ls' := [(3, .int (σ.2 20 (σ.1 15 4).toNatClampNeg).toInt32), (0, .ref 15), (1, .int x1), (2, .int x2)]) (st' := []) (σ' := σ1) hM 3 rfl (fun c => ?_) (fun c => ?_)
      · replace h := h.1 c
        exact Pl.live (l' := [(3, .int (σ.2 20 (σ.1 15 4).toNatClampNeg).toInt32)]) hM lv_103 ⟨show ndL _ from (by decide : List.Nodup ([3, 0, 1, 2] : List Nat)), show ndL _ from (by decide : List.Nodup ([3] : List Nat)), by rw [lva_103_45]; exact List.forall_mem_cons.mpr ⟨rfl, fun _ h => absurd h List.not_mem_nil⟩⟩ h
      · replace h := h.2 c
        exact Pl.live (l' := [(0, .ref 15), (3, .int (σ.2 20 (σ.1 15 4).toNatClampNeg).toInt32)]) hM lv_103 ⟨show ndL _ from (by decide : List.Nodup ([3, 0, 1, 2] : List Nat)), show ndL _ from (by decide : List.Nodup ([0, 3] : List Nat)), by rw [lva_103_34]; exact List.forall_mem_cons.mpr ⟨rfl, List.forall_mem_cons.mpr ⟨rfl, fun _ h => absurd h List.not_mem_nil⟩⟩⟩ h
  · replace h := h.1 c
    refine Pl.seg (pc' := 23) (ls' := [(3, .int (σ.2 20 (σ.1 15 4).toNatClampNeg).toInt32), (0, .ref 15), (1, .int x1), (2, .int x2)]) (st' := [.int (-1 : Int32)]) (σ' := σ1) hM 1 rfl ?_
    refine Pl.weak (Pl.ret hM rfl rfl h)
set_option maxRecDepth 100000 in
theorem p_103_34 {n d : Nat} {Q : Option Value → Sg → Prop} (σ : Sg) (x3 : Int32) (h : (∀ σ1, RCx PRG n 102 [.ref 15, .int (5 : Int32), .int ((σ.1 15 4) - (1 : Int32))] σ none σ1 → Pl PRG n d 103 45 [(3, .int x3)] [] σ1 Q)) : Pl PRG (n + 1) d 103 34 [(0, .ref 15), (3, .int x3)] [] σ Q := by
  have hM : PRG[103]? = some M_103 := rfl
  refine Pl.sg1 (pc' := 42) (ls' := [(0, .ref 15), (3, .int x3)]) (st' := [.int ((σ.1 15 4) - (1 : Int32)), .int (5 : Int32), .ref 15]) (σ' := σ) hM 5 rfl ?_
  refine Pl.weak (Pl.cV hM rfl rfl (by decide) (Mj := M_102) rfl rfl (fun σ1 hw => ?_))
  replace h := h σ1 hw
  exact Pl.live (l' := [(3, .int x3)]) hM lv_103 ⟨show ndL _ from (by decide : List.Nodup ([0, 3] : List Nat)), show ndL _ from (by decide : List.Nodup ([3] : List Nat)), by rw [lva_103_45]; exact List.forall_mem_cons.mpr ⟨rfl, fun _ h => absurd h List.not_mem_nil⟩⟩ h
set_option maxRecDepth 100000 in
theorem p_103_45 {n d : Nat} {Q : Option Value → Sg → Prop} (σ : Sg) (x3 : Int32) (h : Q (some (.int x3)) σ) : Pl PRG (n + 1) d 103 45 [(3, .int x3)] [] σ Q := by
  have hM : PRG[103]? = some M_103 := rfl
  refine Pl.sg1 (pc' := 46) (ls' := [(3, .int x3)]) (st' := [.int x3]) (σ' := σ) hM 0 rfl ?_
  refine Pl.weak (Pl.ret hM rfl rfl h)
def LV_104 : List (Nat × List Nat) := [(0, [0]), (1, [0]), (3, [0]), (6, [0]), (9, [0]), (10, [0]), (11, [0]), (12, [0]), (15, [0]), (18, [0]), (19, [0]), (20, [0, 1]), (21, [0, 1]), (24, [0, 1]), (25, [0, 1]), (26, [0, 1]), (28, [0, 1]), (31, [0, 1]), (34, [0, 1]), (35, [0, 1]), (36, [0, 1, 2]), (37, [0, 1, 2]), (40, []), (41, [0, 1, 2]), (42, [0, 1, 2]), (43, [0, 1, 2]), (44, [0, 1, 2]), (46, [0, 1, 2]), (49, [0, 1, 2]), (50, [0, 1, 2]), (51, [0, 1, 2]), (52, [0, 1, 2]), (53, [0, 1, 2]), (54, [0, 1, 2]), (57, [0, 1, 2]), (58, [0, 1, 2]), (59, [0, 1, 2]), (60, [0, 1, 2]), (63, [0, 1, 2]), (64, [0, 1, 2]), (65, [0, 1, 2]), (68, [0, 1, 2]), (69, [0, 1, 2]), (70, [0, 1, 2]), (73, [0, 1, 2]), (76, [0, 1, 2]), (77, [0, 1, 2]), (80, [0, 1, 2]), (83, [0, 1, 2]), (84, [0, 1, 2]), (87, [0, 1, 2]), (88, [0, 2]), (91, [0, 2]), (92, [2]), (95, [2]), (96, []), (99, [])]
set_option maxRecDepth 100000 in
theorem lv_104 : chkLv M_104 LV_104 = true := by decide +kernel
set_option maxRecDepth 100000 in
theorem lva_104_57 : lvA LV_104 57 = [0, 1, 2] := by decide +kernel
set_option maxRecDepth 100000 in
theorem lva_104_68 : lvA LV_104 68 = [0, 1, 2] := by decide +kernel
set_option maxRecDepth 100000 in
theorem lva_104_99 : lvA LV_104 99 = [] := by decide +kernel
set_option maxRecDepth 100000 in
theorem p_104_0 {n d : Nat} {Q : Option Value → Sg → Prop} (σ : Sg) (h : (∀ w2 σ1, RCx PRG n 101 [.ref 15, .int (15 : Int32)] σ (some (.int w2)) σ1 → (w2 = 0 ∨ w2 = 1) → ((w2 = 0 → Q none σ1) ∧ (¬ w2 = 0 → (∀ w4 σ3, RCx PRG n 103 [.ref 15, .int (1 : Int32), .int (4 : Int32)] σ1 (some (.int w4)) σ3 → ((w4 < 0 → Q none σ3) ∧ (¬ w4 < 0 → (∀ w6 σ5, RCx PRG n 103 [.ref 15, .int (1 : Int32), .int (16 : Int32)] σ3 (some (.int w6)) σ5 → ((0 ≤ w6 → (((16 : Int32) < (w4 * w6) → Pl PRG n d 104 57 [(0, .ref 15), (1, .int w4), (2, .int w6)] [] σ5 Q) ∧ (¬ (16 : Int32) < (w4 * w6) → ((((w4 * w6) - (w4 * w6) / (4 : Int32) * (4 : Int32)) = 0 → Pl PRG n d 104 68 [(0, .ref 15), (1, .int w4), (2, .int w6)] [] σ5 Q) ∧ (¬ ((w4 * w6) - (w4 * w6) / (4 : Int32) * (4 : Int32)) = 0 → Pl PRG n d 104 57 [(0, .ref 15), (1, .int w4), (2, .int w6)] [] σ5 Q))))) ∧ (¬ 0 ≤ w6 → Q none σ5)))))))))) : Pl PRG (n + 1) d 104 0 [(0, .ref 15)] [] σ Q := by
  have hM : PRG[104]? = some M_104 := rfl
  refine Pl.sg1 (pc' := 3) (ls' := [(0, .ref 15)]) (st' := [.int (15 : Int32), .ref 15]) (σ' := σ) hM 1 rfl ?_
  refine Pl.weak (Pl.cZ hM rfl rfl (by decide) (Mj := M_101) rfl rfl (fun w2 σ1 hw hz => ?_))
  replace h := h w2 σ1 hw hz
  refine Pl.br (c := w2 = 0) (a := 18) (b := 9) (ls' := [(0, .ref 15)]) (st' := []) (σ' := σ1) hM 1 rfl (fun c => ?_) (fun c => ?_)
  · replace h := h.1 c
    refine Pl.seg (pc' := 40) (ls' := [(2, .int (-1 : Int32)), (1, .int (-1 : Int32)), (0, .ref 15)]) (st' := []) (σ' := σ1) hM 8 rfl ?_
    refine Pl.weak (Pl.ret hM rfl rfl h)
  · replace h := h.2 c
    refine Pl.seg (pc' := 12) (ls' := [(0, .ref 15)]) (st' := [.int (4 : Int32), .int (1 : Int32), .ref 15]) (σ' := σ1) hM 3 rfl ?_
    refine Pl.weak (Pl.cI hM rfl rfl (by decide) (Mj := M_103) rfl rfl (fun w4 σ3 hw => ?_))
    replace h := h w4 σ3 hw
    refine Pl.br (c := w4 < 0) (a := 34) (b := 24) (ls' := [(1, .int w4), (0, .ref 15)]) (st' := []) (σ' := σ3) hM 4 rfl (fun c => ?_) (fun c => ?_)
    · replace h := h.1 c
      refine Pl.seg (pc' := 40) (ls' := [(2, .int (-1 : Int32)), (1, .int w4), (0, .ref 15)]) (st' := []) (σ' := σ3) hM 4 rfl ?_
      refine Pl.weak (Pl.ret hM rfl rfl h)
    · replace h := h.2 c
      refine Pl.seg (pc' := 28) (ls' := [(1, .int w4), (0, .ref 15)]) (st' := [.int (16 : Int32), .int (1 : Int32), .ref 15]) (σ' := σ3) hM 3 rfl ?_
      refine Pl.weak (Pl.cI hM rfl rfl (by decide) (Mj := M_103) rfl rfl (fun w6 σ5 hw => ?_))
      replace h := h w6 σ5 hw
      refine Pl.br (c := 0 ≤ w6) (a := 41) (b := 40) (ls' := [(2, .int w6), (1, .int w4), (0, .ref 15)]) (st' := []) (σ' := σ5) hM 4 rfl (fun c => ?_) (fun c => ?_)
      · replace h := h.1 c
        refine Pl.br (c := (16 : Int32) < (w4 * w6)) (a := 57) (b := 49) (ls' := [(2, .int w6), (1, .int w4), (0, .ref 15)]) (st' := []) (σ' := σ5) hM 5 rfl (fun c => ?_) (fun c => ?_)
        · replace h := h.1 c
          exact Pl.live (l' := [(0, .ref 15), (1, .int w4), (2, .int w6)]) hM lv_104 ⟨show ndL _ from (by decide : List.Nodup ([2, 1, 0] : List Nat)), show ndL _ from (by decide : List.Nodup ([0, 1, 2] : List Nat)), by rw [lva_104_57]; exact List.forall_mem_cons.mpr ⟨rfl, List.forall_mem_cons.mpr ⟨rfl, List.forall_mem_cons.mpr ⟨rfl, fun _ h => absurd h List.not_mem_nil⟩⟩⟩⟩ h
        · replace h := h.2 c
          refine Pl.br (c := ((w4 * w6) - (w4 * w6) / (4 : Int32) * (4 : Int32)) = 0) (a := 68) (b := 57) (ls' := [(2, .int w6), (1, .int w4), (0, .ref 15)]) (st' := []) (σ' := σ5) hM 6 rfl (fun c => ?_) (fun c => ?_)
          · replace h := h.1 c
            exact Pl.live (l' := [(0, .ref 15), (1, .int w4), (2, .int w6)]) hM lv_104 ⟨show ndL _ from (by decide : List.Nodup ([2, 1, 0] : List Nat)), show ndL _ from (by decide : List.Nodup ([0, 1, 2] : List Nat)), by rw [lva_104_68]; exact List.forall_mem_cons.mpr ⟨rfl, List.forall_mem_cons.mpr ⟨rfl, List.forall_mem_cons.mpr ⟨rfl, fun _ h => absurd h List.not_mem_nil⟩⟩⟩⟩ h
          · replace h := h.2 c
            exact Pl.live (l' := [(0, .ref 15), (1, .int w4), (2, .int w6)]) hM lv_104 ⟨show ndL _ from (by decide : List.Nodup ([2, 1, 0] : List Nat)), show ndL _ from (by decide : List.Nodup ([0, 1, 2] : List Nat)), by rw [lva_104_57]; exact List.forall_mem_cons.mpr ⟨rfl, List.forall_mem_cons.mpr ⟨rfl, List.forall_mem_cons.mpr ⟨rfl, fun _ h => absurd h List.not_mem_nil⟩⟩⟩⟩ h
      · replace h := h.2 c
        refine Pl.weak (Pl.ret hM rfl rfl h)
set_option maxRecDepth 100000 in
theorem p_104_57 {n d : Nat} {Q : Option Value → Sg → Prop} (σ : Sg) (x1 x2 : Int32) (h : (∀ σ1, RCx PRG n 102 [.ref 15, .int (5 : Int32), .int ((σ.1 15 4) - (1 : Int32))] σ none σ1 → Pl PRG n d 104 68 [(0, .ref 15), (1, .int x1), (2, .int x2)] [] σ1 Q)) : Pl PRG (n + 1) d 104 57 [(0, .ref 15), (1, .int x1), (2, .int x2)] [] σ Q := by
  have hM : PRG[104]? = some M_104 := rfl
  refine Pl.sg1 (pc' := 65) (ls' := [(0, .ref 15), (1, .int x1), (2, .int x2)]) (st' := [.int ((σ.1 15 4) - (1 : Int32)), .int (5 : Int32), .ref 15]) (σ' := σ) hM 5 rfl ?_
  refine Pl.weak (Pl.cV hM rfl rfl (by decide) (Mj := M_102) rfl rfl (fun σ1 hw => ?_))
  replace h := h σ1 hw
  exact Pl.live (l' := [(0, .ref 15), (1, .int x1), (2, .int x2)]) hM lv_104 ⟨show ndL _ from (by decide : List.Nodup ([0, 1, 2] : List Nat)), show ndL _ from (by decide : List.Nodup ([0, 1, 2] : List Nat)), by rw [lva_104_68]; exact List.forall_mem_cons.mpr ⟨rfl, List.forall_mem_cons.mpr ⟨rfl, List.forall_mem_cons.mpr ⟨rfl, fun _ h => absurd h List.not_mem_nil⟩⟩⟩⟩ h
set_option maxRecDepth 100000 in
theorem p_104_68 {n d : Nat} {Q : Option Value → Sg → Prop} (σ : Sg) (x1 x2 : Int32) (h : (∀ w2 σ1, RCx PRG n 101 [.ref 15, .int (4 : Int32)] σ (some (.int w2)) σ1 → (w2 = 0 ∨ w2 = 1) → ((w2 = 0 → Pl PRG n d 104 99 [] [] σ1 Q) ∧ (¬ w2 = 0 → (((σ1.1 15 3) = 0 → Pl PRG n d 104 99 [] [] σ1 Q) ∧ (¬ (σ1.1 15 3) = 0 → Pl PRG n d 104 99 [] [] (s1 (s1 σ1 3 0 x1) 3 1 x2) Q)))))) : Pl PRG (n + 1) d 104 68 [(0, .ref 15), (1, .int x1), (2, .int x2)] [] σ Q := by
  have hM : PRG[104]? = some M_104 := rfl
  refine Pl.sg1 (pc' := 70) (ls' := [(0, .ref 15), (1, .int x1), (2, .int x2)]) (st' := [.int (4 : Int32), .ref 15]) (σ' := σ) hM 1 rfl ?_
  refine Pl.weak (Pl.cZ hM rfl rfl (by decide) (Mj := M_101) rfl rfl (fun w2 σ1 hw hz => ?_))
  replace h := h w2 σ1 hw hz
  refine Pl.br (c := w2 = 0) (a := 99) (b := 76) (ls' := [(0, .ref 15), (1, .int x1), (2, .int x2)]) (st' := []) (σ' := σ1) hM 1 rfl (fun c => ?_) (fun c => ?_)
  · replace h := h.1 c
    exact Pl.live (l' := []) hM lv_104 ⟨show ndL _ from (by decide : List.Nodup ([0, 1, 2] : List Nat)), show ndL _ from (by decide : List.Nodup ([] : List Nat)), by rw [lva_104_99]; exact fun _ h => absurd h List.not_mem_nil⟩ h
  · replace h := h.2 c
    refine Pl.br (c := (σ1.1 15 3) = 0) (a := 99) (b := 83) (ls' := [(0, .ref 15), (1, .int x1), (2, .int x2)]) (st' := []) (σ' := σ1) hM 3 rfl (fun c => ?_) (fun c => ?_)
    · replace h := h.1 c
      exact Pl.live (l' := []) hM lv_104 ⟨show ndL _ from (by decide : List.Nodup ([0, 1, 2] : List Nat)), show ndL _ from (by decide : List.Nodup ([] : List Nat)), by rw [lva_104_99]; exact fun _ h => absurd h List.not_mem_nil⟩ h
    · replace h := h.2 c
      refine Pl.seg (pc' := 99) (ls' := [(0, .ref 15), (1, .int x1), (2, .int x2)]) (st' := []) (σ' := (s1 (s1 σ1 3 0 x1) 3 1 x2)) hM 8 rfl ?_
      exact Pl.live (l' := []) hM lv_104 ⟨show ndL _ from (by decide : List.Nodup ([0, 1, 2] : List Nat)), show ndL _ from (by decide : List.Nodup ([] : List Nat)), by rw [lva_104_99]; exact fun _ h => absurd h List.not_mem_nil⟩ h
set_option maxRecDepth 100000 in
theorem p_104_99 {n d : Nat} {Q : Option Value → Sg → Prop} (σ : Sg) (h : Q none σ) : Pl PRG (n + 1) d 104 99 [] [] σ Q := by
  have hM : PRG[104]? = some M_104 := rfl
  refine Pl.ret hM rfl rfl h
set_option maxRecDepth 100000 in
theorem p_105_0 {n d : Nat} {Q : Option Value → Sg → Prop} (σ : Sg) (h : (∀ w2 σ1, RCx PRG n 101 [.ref 15, .int (16 : Int32)] σ (some (.int w2)) σ1 → (w2 = 0 ∨ w2 = 1) → ((w2 = 0 → Q none σ1) ∧ (¬ w2 = 0 → (∀ w4 σ3, RCx PRG n 103 [.ref 15, .int (0 : Int32), .int (3 : Int32)] σ1 (some (.int w4)) σ3 → ((w4 < 0 → Q none σ3) ∧ (¬ w4 < 0 → (∀ w6 σ5, RCx PRG n 101 [.ref 15, .int (4 : Int32)] σ3 (some (.int w6)) σ5 → (w6 = 0 ∨ w6 = 1) → ((w6 = 0 → Q none σ5) ∧ (¬ w6 = 0 → (((σ5.1 15 3) = 0 → Q none σ5) ∧ (¬ (σ5.1 15 3) = 0 → Q none (s1 σ5 3 2 w4))))))))))))) : Pl PRG (n + 1) d 105 0 [(0, .ref 15)] [] σ Q := by
  have hM : PRG[105]? = some M_105 := rfl
  refine Pl.sg1 (pc' := 3) (ls' := [(0, .ref 15)]) (st' := [.int (16 : Int32), .ref 15]) (σ' := σ) hM 1 rfl ?_
  refine Pl.weak (Pl.cZ hM rfl rfl (by decide) (Mj := M_101) rfl rfl (fun w2 σ1 hw hz => ?_))
  replace h := h w2 σ1 hw hz
  refine Pl.br (c := w2 = 0) (a := 18) (b := 9) (ls' := [(0, .ref 15)]) (st' := []) (σ' := σ1) hM 1 rfl (fun c => ?_) (fun c => ?_)
  · replace h := h.1 c
    refine Pl.seg (pc' := 47) (ls' := [(1, .int (-1 : Int32)), (0, .ref 15)]) (st' := []) (σ' := σ1) hM 4 rfl ?_
    refine Pl.weak (Pl.ret hM rfl rfl h)
  · replace h := h.2 c
    refine Pl.seg (pc' := 12) (ls' := [(0, .ref 15)]) (st' := [.int (3 : Int32), .int (0 : Int32), .ref 15]) (σ' := σ1) hM 3 rfl ?_
    refine Pl.weak (Pl.cI hM rfl rfl (by decide) (Mj := M_103) rfl rfl (fun w4 σ3 hw => ?_))
    replace h := h w4 σ3 hw
    refine Pl.br (c := w4 < 0) (a := 47) (b := 24) (ls' := [(1, .int w4), (0, .ref 15)]) (st' := []) (σ' := σ3) hM 4 rfl (fun c => ?_) (fun c => ?_)
    · replace h := h.1 c
      refine Pl.weak (Pl.ret hM rfl rfl h)
    · replace h := h.2 c
      refine Pl.seg (pc' := 26) (ls' := [(1, .int w4), (0, .ref 15)]) (st' := [.int (4 : Int32), .ref 15]) (σ' := σ3) hM 2 rfl ?_
      refine Pl.weak (Pl.cZ hM rfl rfl (by decide) (Mj := M_101) rfl rfl (fun w6 σ5 hw hz => ?_))
      replace h := h w6 σ5 hw hz
      refine Pl.br (c := w6 = 0) (a := 47) (b := 32) (ls' := [(1, .int w4), (0, .ref 15)]) (st' := []) (σ' := σ5) hM 1 rfl (fun c => ?_) (fun c => ?_)
      · replace h := h.1 c
        refine Pl.weak (Pl.ret hM rfl rfl h)
      · replace h := h.2 c
        refine Pl.br (c := (σ5.1 15 3) = 0) (a := 47) (b := 39) (ls' := [(1, .int w4), (0, .ref 15)]) (st' := []) (σ' := σ5) hM 3 rfl (fun c => ?_) (fun c => ?_)
        · replace h := h.1 c
          refine Pl.weak (Pl.ret hM rfl rfl h)
        · replace h := h.2 c
          refine Pl.seg (pc' := 47) (ls' := [(1, .int w4), (0, .ref 15)]) (st' := []) (σ' := (s1 σ5 3 2 w4)) hM 4 rfl ?_
          refine Pl.weak (Pl.ret hM rfl rfl h)
set_option maxRecDepth 100000 in
theorem p_106_0 {n d : Nat} {Q : Option Value → Sg → Prop} (σ : Sg) (h : (inR (σ.1 15 4) 402 = true → Q (some (.int (0 : Int32))) (s1 (s1 σ 15 7 (2 : Int32)) 15 8 (σ.1 19 (σ.1 15 4).toNatClampNeg)))) : Pl PRG (n + 1) d 106 0 [(0, .ref 15)] [] σ Q := by
  have hM : PRG[106]? = some M_106 := rfl
  refine Pl.sg1 (pc' := 17) (ls' := [(0, .ref 15)]) (st' := [.int (σ.1 15 4), .ref 19, .ref 15]) (σ' := (s1 σ 15 7 (2 : Int32))) hM 8 rfl ?_
  refine Pl.weak (Pl.iald hM rfl rfl (fun hi => ?_))
  replace h := h hi
  refine Pl.seg (pc' := 22) (ls' := [(0, .ref 15)]) (st' := [.int (0 : Int32)]) (σ' := (s1 (s1 σ 15 7 (2 : Int32)) 15 8 (σ.1 19 (σ.1 15 4).toNatClampNeg))) hM 2 rfl ?_
  refine Pl.weak (Pl.ret hM rfl rfl h)
def LV_107 : List (Nat × List Nat) := [(0, [0]), (1, [0]), (4, [0]), (7, [0]), (8, [0]), (11, [0]), (12, [0]), (13, [0, 1]), (14, [0, 1]), (15, [0, 1]), (18, [0, 1]), (21, [0, 1]), (22, [0, 1]), (25, [0, 1]), (27, [0, 1]), (30, []), (31, []), (32, [0, 1]), (33, [0, 1]), (34, [0, 1, 3]), (35, [0, 1, 3]), (36, [0, 1, 3]), (39, [0, 1, 3]), (42, [0, 1, 3]), (43, [0, 1, 3]), (46, [0, 1, 3]), (47, [0, 1, 3]), (48, [0, 1, 3]), (49, [0, 1, 3]), (50, [0, 1, 3]), (53, [0, 1, 3]), (54, [0, 1, 3]), (55, [0, 1, 3]), (56, [0, 1, 3]), (59, [0, 1, 3]), (60, [0, 1, 3]), (61, [0, 1, 3]), (64, [0, 1, 3]), (67, [0, 1, 3]), (70, [0, 1]), (71, [0, 1]), (74, [0, 1]), (75, [1]), (78, [1]), (79, []), (80, []), (81, [])]
set_option maxRecDepth 100000 in
theorem lv_107 : chkLv M_107 LV_107 = true := by decide +kernel
set_option maxRecDepth 100000 in
theorem lva_107_34 : lvA LV_107 34 = [0, 1, 3] := by decide +kernel
set_option maxRecDepth 100000 in
theorem p_107_0 {n d : Nat} {Q : Option Value → Sg → Prop} (σ : Sg) (h : (inR (σ.1 15 4) 402 = true → (∀ w2 σ1, RCx PRG n 101 [.ref 15, .int (2 : Int32)] σ (some (.int w2)) σ1 → (w2 = 0 ∨ w2 = 1) → ((w2 = 0 → Q (some (.int (0 : Int32))) σ1) ∧ (¬ w2 = 0 → (((σ1.1 15 6) < (6 : Int32) → Pl PRG n d 107 34 [(0, .ref 15), (1, .long (σ.2 20 (σ.1 15 4).toNatClampNeg)), (3, .int (0 : Int32))] [] σ1 Q) ∧ (¬ (σ1.1 15 6) < (6 : Int32) → Q (some (.int (0 : Int32))) σ1))))))) : Pl PRG (n + 1) d 107 0 [(0, .ref 15)] [] σ Q := by
  have hM : PRG[107]? = some M_107 := rfl
  refine Pl.sg1 (pc' := 11) (ls' := [(0, .ref 15)]) (st' := [.int (σ.1 15 4), .ref 20]) (σ' := σ) hM 4 rfl ?_
  refine Pl.weak (Pl.lald hM rfl rfl (fun hi => ?_))
  replace h := h hi
  refine Pl.seg (pc' := 15) (ls' := [(1, .long (σ.2 20 (σ.1 15 4).toNatClampNeg)), (0, .ref 15)]) (st' := [.int (2 : Int32), .ref 15]) (σ' := σ) hM 3 rfl ?_
  refine Pl.weak (Pl.cZ hM rfl rfl (by decide) (Mj := M_101) rfl rfl (fun w2 σ1 hw hz => ?_))
  replace h := h w2 σ1 hw hz
  refine Pl.br (c := w2 = 0) (a := 30) (b := 21) (ls' := [(1, .long (σ.2 20 (σ.1 15 4).toNatClampNeg)), (0, .ref 15)]) (st' := []) (σ' := σ1) hM 1 rfl (fun c => ?_) (fun c => ?_)
  · replace h := h.1 c
    refine Pl.seg (pc' := 31) (ls' := [(1, .long (σ.2 20 (σ.1 15 4).toNatClampNeg)), (0, .ref 15)]) (st' := [.int (0 : Int32)]) (σ' := σ1) hM 1 rfl ?_
    refine Pl.weak (Pl.ret hM rfl rfl h)
  · replace h := h.2 c
    refine Pl.br (c := (σ1.1 15 6) < (6 : Int32)) (a := 32) (b := 30) (ls' := [(1, .long (σ.2 20 (σ.1 15 4).toNatClampNeg)), (0, .ref 15)]) (st' := []) (σ' := σ1) hM 4 rfl (fun c => ?_) (fun c => ?_)
    · replace h := h.1 c
      refine Pl.seg (pc' := 34) (ls' := [(3, .int (0 : Int32)), (1, .long (σ.2 20 (σ.1 15 4).toNatClampNeg)), (0, .ref 15)]) (st' := []) (σ' := σ1) hM 2 rfl ?_
      exact Pl.live (l' := [(0, .ref 15), (1, .long (σ.2 20 (σ.1 15 4).toNatClampNeg)), (3, .int (0 : Int32))]) hM lv_107 ⟨show ndL _ from (by decide : List.Nodup ([3, 1, 0] : List Nat)), show ndL _ from (by decide : List.Nodup ([0, 1, 3] : List Nat)), by rw [lva_107_34]; exact List.forall_mem_cons.mpr ⟨rfl, List.forall_mem_cons.mpr ⟨rfl, List.forall_mem_cons.mpr ⟨rfl, fun _ h => absurd h List.not_mem_nil⟩⟩⟩⟩ h
    · replace h := h.2 c
      refine Pl.seg (pc' := 31) (ls' := [(1, .long (σ.2 20 (σ.1 15 4).toNatClampNeg)), (0, .ref 15)]) (st' := [.int (0 : Int32)]) (σ' := σ1) hM 1 rfl ?_
      refine Pl.weak (Pl.ret hM rfl rfl h)
set_option maxRecDepth 100000 in
theorem p_107_34 {n d : Nat} {Q : Option Value → Sg → Prop} (σ : Sg) (x3 : Int32) (x1 : Int64) (h : (((σ.1 15 6) ≤ x3 → (inR (σ.1 15 6) 6 = true → Q (some (.int (1 : Int32))) (s2 σ 16 (σ.1 15 6).toNatClampNeg x1))) ∧ (¬ (σ.1 15 6) ≤ x3 → (inR x3 6 = true → (((lg_cmp (σ.2 16 x3.toNatClampNeg) x1) = 0 → (∀ σ1, RCx PRG n 102 [.ref 15, .int (3 : Int32), .int ((σ.1 15 4) - (1 : Int32))] σ none σ1 → Pl PRG n d 107 34 [(0, .ref 15), (1, .long x1), (3, .int (x3 + (1 : Int32)))] [] σ1 Q)) ∧ (¬ (lg_cmp (σ.2 16 x3.toNatClampNeg) x1) = 0 → Pl PRG n d 107 34 [(0, .ref 15), (1, .long x1), (3, .int (x3 + (1 : Int32)))] [] σ Q)))))) : Pl PRG (n + 1) d 107 34 [(0, .ref 15), (1, .long x1), (3, .int x3)] [] σ Q := by
  have hM : PRG[107]? = some M_107 := rfl
  refine Pl.br1 (c := (σ.1 15 6) ≤ x3) (a := 70) (b := 42) (ls' := [(0, .ref 15), (1, .long x1), (3, .int x3)]) (st' := []) (σ' := σ) hM 3 rfl (fun c => ?_) (fun c => ?_)
  · replace h := h.1 c
    refine Pl.seg (pc' := 79) (ls' := [(0, .ref 15), (1, .long x1), (3, .int x3)]) (st' := [.long x1, .int (σ.1 15 6), .ref 16]) (σ' := σ) hM 5 rfl ?_
    refine Pl.weak (Pl.last hM rfl rfl (fun hi => ?_))
    replace h := h hi
    refine Pl.seg (pc' := 81) (ls' := [(0, .ref 15), (1, .long x1), (3, .int x3)]) (st' := [.int (1 : Int32)]) (σ' := (s2 σ 16 (σ.1 15 6).toNatClampNeg x1)) hM 1 rfl ?_
    refine Pl.weak (Pl.ret hM rfl rfl h)
  · replace h := h.2 c
    refine Pl.seg (pc' := 47) (ls' := [(0, .ref 15), (1, .long x1), (3, .int x3)]) (st' := [.int x3, .ref 16]) (σ' := σ) hM 3 rfl ?_
    refine Pl.weak (Pl.lald hM rfl rfl (fun hi => ?_))
    replace h := h hi
    refine Pl.brN (c := (lg_cmp (σ.2 16 x3.toNatClampNeg) x1) = 0) (a := 64) (b := 53) (ls' := [(0, .ref 15), (1, .long x1), (3, .int x3)]) (st' := []) (σ' := σ) hM 3 rfl (fun c => ?_) (fun c => ?_)
    · replace h := h.2 c
      refine Pl.seg (pc' := 34) (ls' := [(3, .int (x3 + (1 : Int32))), (0, .ref 15), (1, .long x1)]) (st' := []) (σ' := σ) hM 2 rfl ?_
      exact Pl.live (l' := [(0, .ref 15), (1, .long x1), (3, .int (x3 + (1 : Int32)))]) hM lv_107 ⟨show ndL _ from (by decide : List.Nodup ([3, 0, 1] : List Nat)), show ndL _ from (by decide : List.Nodup ([0, 1, 3] : List Nat)), by rw [lva_107_34]; exact List.forall_mem_cons.mpr ⟨rfl, List.forall_mem_cons.mpr ⟨rfl, List.forall_mem_cons.mpr ⟨rfl, fun _ h => absurd h List.not_mem_nil⟩⟩⟩⟩ h
    · replace h := h.1 c
      refine Pl.seg (pc' := 61) (ls' := [(0, .ref 15), (1, .long x1), (3, .int x3)]) (st' := [.int ((σ.1 15 4) - (1 : Int32)), .int (3 : Int32), .ref 15]) (σ' := σ) hM 6 rfl ?_
      refine Pl.weak (Pl.cV hM rfl rfl (by decide) (Mj := M_102) rfl rfl (fun σ1 hw => ?_))
      replace h := h σ1 hw
      refine Pl.seg (pc' := 34) (ls' := [(3, .int (x3 + (1 : Int32))), (0, .ref 15), (1, .long x1)]) (st' := []) (σ' := σ1) hM 2 rfl ?_
      exact Pl.live (l' := [(0, .ref 15), (1, .long x1), (3, .int (x3 + (1 : Int32)))]) hM lv_107 ⟨show ndL _ from (by decide : List.Nodup ([3, 0, 1] : List Nat)), show ndL _ from (by decide : List.Nodup ([0, 1, 3] : List Nat)), by rw [lva_107_34]; exact List.forall_mem_cons.mpr ⟨rfl, List.forall_mem_cons.mpr ⟨rfl, List.forall_mem_cons.mpr ⟨rfl, fun _ h => absurd h List.not_mem_nil⟩⟩⟩⟩ h
set_option maxRecDepth 100000 in
theorem p_72_0 {n d : Nat} {Q : Option Value → Sg → Prop} (σ : Sg) (x1 x2 : Int32) (h : (((400 : Int32) ≤ (σ.1 3 9) → Q none σ) ∧ (¬ (400 : Int32) ≤ (σ.1 3 9) → (inR (σ.1 3 9) 400 = true → Q none (s1 (s1 σ 8 (σ.1 3 9).toNatClampNeg (x1 ||| (x2 <<< ((8 : Int32) &&& 31)))) 3 9 ((σ.1 3 9) + (1 : Int32))))))) : Pl PRG (n + 1) d 72 0 [(0, .ref 3), (1, .int x1), (2, .int x2)] [] σ Q := by
  have hM : PRG[72]? = some M_72 := rfl
  refine Pl.br1 (c := (400 : Int32) ≤ (σ.1 3 9)) (a := 37) (b := 12) (ls' := [(0, .ref 3), (1, .int x1), (2, .int x2)]) (st' := []) (σ' := σ) hM 5 rfl (fun c => ?_) (fun c => ?_)
  · replace h := h.1 c
    refine Pl.weak (Pl.ret hM rfl rfl h)
  · replace h := h.2 c
    refine Pl.seg (pc' := 26) (ls' := [(0, .ref 3), (1, .int x1), (2, .int x2)]) (st' := [.int (x1 ||| (x2 <<< ((8 : Int32) &&& 31))), .int (σ.1 3 9), .ref 8]) (σ' := σ) hM 9 rfl ?_
    refine Pl.weak (Pl.iast hM rfl rfl (fun hi => ?_))
    replace h := h hi
    refine Pl.seg (pc' := 37) (ls' := [(0, .ref 3), (1, .int x1), (2, .int x2)]) (st' := []) (σ' := (s1 (s1 σ 8 (σ.1 3 9).toNatClampNeg (x1 ||| (x2 <<< ((8 : Int32) &&& 31)))) 3 9 ((σ.1 3 9) + (1 : Int32)))) hM 6 rfl ?_
    refine Pl.weak (Pl.ret hM rfl rfl h)
set_option maxRecDepth 100000 in
theorem p_108_0 {n d : Nat} {Q : Option Value → Sg → Prop} (σ : Sg) (x1 x2 : Int32) (h : (((σ.1 15 3) = 0 → Q none σ) ∧ (¬ (σ.1 15 3) = 0 → (∀ σ1, RCx PRG n 72 [.ref 3, .int x1, .int x2] σ none σ1 → Q none σ1)))) : Pl PRG (n + 1) d 108 0 [(0, .ref 15), (1, .int x1), (2, .int x2)] [] σ Q := by
  have hM : PRG[108]? = some M_108 := rfl
  refine Pl.br1 (c := (σ.1 15 3) = 0) (a := 16) (b := 7) (ls' := [(0, .ref 15), (1, .int x1), (2, .int x2)]) (st' := []) (σ' := σ) hM 2 rfl (fun c => ?_) (fun c => ?_)
  · replace h := h.1 c
    refine Pl.weak (Pl.ret hM rfl rfl h)
  · replace h := h.2 c
    refine Pl.seg (pc' := 13) (ls' := [(0, .ref 15), (1, .int x1), (2, .int x2)]) (st' := [.int x2, .int x1, .ref 3]) (σ' := σ) hM 4 rfl ?_
    refine Pl.weak (Pl.cV hM rfl rfl (by decide) (Mj := M_72) rfl rfl (fun σ1 hw => ?_))
    replace h := h σ1 hw
    refine Pl.weak (Pl.ret hM rfl rfl h)
set_option maxRecDepth 100000 in
theorem p_109_0 {n d : Nat} {Q : Option Value → Sg → Prop} (σ : Sg) (x1 : Int32) (h : (((σ.1 15 5) = (13 : Int32) → ((x1 < (6 : Int32) → (∀ w23 σ22, RCx PRG n 101 [.ref 15, .int (13 : Int32)] σ (some (.int w23)) σ22 → (w23 = 0 ∨ w23 = 1) → ((w23 = 0 → Q (some (.int (0 : Int32))) σ22) ∧ (¬ w23 = 0 → (∀ w25 σ24, RCx PRG n 110 [.ref 15, .int (x1 + (1 : Int32))] σ22 (some (.int w25)) σ24 → (w25 = 0 ∨ w25 = 1) → ((w25 = 0 → Q (some (.int (0 : Int32))) σ24) ∧ (¬ w25 = 0 → (∀ w27 σ26, RCx PRG n 101 [.ref 15, .int (14 : Int32)] σ24 (some (.int w27)) σ26 → (w27 = 0 ∨ w27 = 1) → ((w27 = 0 → Q (some (.int (0 : Int32))) σ26) ∧ (¬ w27 = 0 → Q (some (.int (1 : Int32))) σ26)))))))))) ∧ (¬ x1 < (6 : Int32) → (∀ w29 σ28, RCx PRG n 106 [.ref 15] σ (some (.int w29)) σ28 → (w29 = 0 ∨ w29 = 1) → ((w29 = 0 ∨ w29 = 1) → Q (some (.int w29)) σ28))))) ∧ (¬ (σ.1 15 5) = (13 : Int32) → (((σ.1 15 5) < (27 : Int32) → (((σ.1 15 5) = (26 : Int32) → (∀ w5 σ4, RCx PRG n 101 [.ref 15, .int (26 : Int32)] σ (some (.int w5)) σ4 → (w5 = 0 ∨ w5 = 1) → ((w5 = 0 → (∀ σ6, RCx PRG n 108 [.ref 15, .int (27 : Int32), .int ((10 : Int32) + (-1 : Int32))] σ4 none σ6 → Q (some (.int (0 : Int32))) σ6)) ∧ (¬ w5 = 0 → (∀ w8 σ7, RCx PRG n 103 [.ref 15, .int (0 : Int32), .int (3 : Int32)] σ4 (some (.int w8)) σ7 → (∀ σ9, RCx PRG n 108 [.ref 15, .int (27 : Int32), .int ((10 : Int32) + w8)] σ7 none σ9 → ((w8 < 0 → Q (some (.int (0 : Int32))) σ9) ∧ (¬ w8 < 0 → Q (some (.int (1 : Int32))) σ9)))))))) ∧ (¬ (σ.1 15 5) = (26 : Int32) → (∀ w2 σ1, RCx PRG n 103 [.ref 15, .int (0 : Int32), .int (9999 : Int32)] σ (some (.int w2)) σ1 → (∀ σ3, RCx PRG n 108 [.ref 15, .int (3 : Int32), .int w2] σ1 none σ3 → ((w2 < 0 → Q (some (.int (0 : Int32))) σ3) ∧ (¬ w2 < 0 → Q (some (.int (1 : Int32))) σ3))))))) ∧ (¬ (σ.1 15 5) < (27 : Int32) → (((36 : Int32) < (σ.1 15 5) → (((σ.1 15 5) = (26 : Int32) → (∀ w14 σ13, RCx PRG n 101 [.ref 15, .int (26 : Int32)] σ (some (.int w14)) σ13 → (w14 = 0 ∨ w14 = 1) → ((w14 = 0 → (∀ σ15, RCx PRG n 108 [.ref 15, .int (27 : Int32), .int ((10 : Int32) + (-1 : Int32))] σ13 none σ15 → Q (some (.int (0 : Int32))) σ15)) ∧ (¬ w14 = 0 → (∀ w17 σ16, RCx PRG n 103 [.ref 15, .int (0 : Int32), .int (3 : Int32)] σ13 (some (.int w17)) σ16 → (∀ σ18, RCx PRG n 108 [.ref 15, .int (27 : Int32), .int ((10 : Int32) + w17)] σ16 none σ18 → ((w17 < 0 → Q (some (.int (0 : Int32))) σ18) ∧ (¬ w17 < 0 → Q (some (.int (1 : Int32))) σ18)))))))) ∧ (¬ (σ.1 15 5) = (26 : Int32) → (∀ w11 σ10, RCx PRG n 103 [.ref 15, .int (0 : Int32), .int (9999 : Int32)] σ (some (.int w11)) σ10 → (∀ σ12, RCx PRG n 108 [.ref 15, .int (3 : Int32), .int w11] σ10 none σ12 → ((w11 < 0 → Q (some (.int (0 : Int32))) σ12) ∧ (¬ w11 < 0 → Q (some (.int (1 : Int32))) σ12))))))) ∧ (¬ (36 : Int32) < (σ.1 15 5) → (∀ σ19, RCx PRG n 108 [.ref 15, .int (27 : Int32), .int ((σ.1 15 5) - (27 : Int32))] σ none σ19 → (∀ w21 σ20, RCx PRG n 101 [.ref 15, .int (σ19.1 15 5)] σ19 (some (.int w21)) σ20 → (w21 = 0 ∨ w21 = 1) → ((w21 = 0 ∨ w21 = 1) → Q (some (.int w21)) σ20)))))))))) : Pl PRG (n + 1) d 109 0 [(0, .ref 15), (1, .int x1)] [] σ Q := by
  have hM : PRG[109]? = some M_109 := rfl
  refine Pl.brN1 (c := (σ.1 15 5) = (13 : Int32)) (a := 54) (b := 9) (ls' := [(0, .ref 15), (1, .int x1)]) (st' := []) (σ' := σ) hM 3 rfl (fun c => ?_) (fun c => ?_)
  · replace h := h.2 c
    refine Pl.br (c := (σ.1 15 5) < (27 : Int32)) (a := 94) (b := 63) (ls' := [(0, .ref 15), (1, .int x1)]) (st' := []) (σ' := σ) hM 4 rfl (fun c => ?_) (fun c => ?_)
    · replace h := h.1 c
      refine Pl.brN (c := (σ.1 15 5) = (26 : Int32)) (a := 143) (b := 103) (ls' := [(0, .ref 15), (1, .int x1)]) (st' := []) (σ' := σ) hM 4 rfl (fun c => ?_) (fun c => ?_)
      · replace h := h.2 c
        refine Pl.seg (pc' := 148) (ls' := [(0, .ref 15), (1, .int x1)]) (st' := [.int (9999 : Int32), .int (0 : Int32), .ref 15]) (σ' := σ) hM 3 rfl ?_
        refine Pl.weak (Pl.cI hM rfl rfl (by decide) (Mj := M_103) rfl rfl (fun w2 σ1 hw => ?_))
        replace h := h w2 σ1 hw
        refine Pl.seg (pc' := 155) (ls' := [(2, .int w2), (0, .ref 15), (1, .int x1)]) (st' := [.int w2, .int (3 : Int32), .ref 15]) (σ' := σ1) hM 4 rfl ?_
        refine Pl.weak (Pl.cV hM rfl rfl (by decide) (Mj := M_108) rfl rfl (fun σ3 hw => ?_))
        replace h := h σ3 hw
        refine Pl.br (c := w2 < 0) (a := 166) (b := 162) (ls' := [(2, .int w2), (0, .ref 15), (1, .int x1)]) (st' := []) (σ' := σ3) hM 2 rfl (fun c => ?_) (fun c => ?_)
        · replace h := h.1 c
          refine Pl.seg (pc' := 167) (ls' := [(2, .int w2), (0, .ref 15), (1, .int x1)]) (st' := [.int (0 : Int32)]) (σ' := σ3) hM 1 rfl ?_
          refine Pl.weak (Pl.ret hM rfl rfl h)
        · replace h := h.2 c
          refine Pl.seg (pc' := 167) (ls' := [(2, .int w2), (0, .ref 15), (1, .int x1)]) (st' := [.int (1 : Int32)]) (σ' := σ3) hM 2 rfl ?_
          refine Pl.weak (Pl.ret hM rfl rfl h)
      · replace h := h.1 c
        refine Pl.seg (pc' := 106) (ls' := [(0, .ref 15), (1, .int x1)]) (st' := [.int (26 : Int32), .ref 15]) (σ' := σ) hM 2 rfl ?_
        refine Pl.weak (Pl.cZ hM rfl rfl (by decide) (Mj := M_101) rfl rfl (fun w5 σ4 hw hz => ?_))
        replace h := h w5 σ4 hw hz
        refine Pl.br (c := w5 = 0) (a := 121) (b := 112) (ls' := [(0, .ref 15), (1, .int x1)]) (st' := []) (σ' := σ4) hM 1 rfl (fun c => ?_) (fun c => ?_)
        · replace h := h.1 c
          refine Pl.seg (pc' := 130) (ls' := [(2, .int (-1 : Int32)), (0, .ref 15), (1, .int x1)]) (st' := [.int ((10 : Int32) + (-1 : Int32)), .int (27 : Int32), .ref 15]) (σ' := σ4) hM 7 rfl ?_
          refine Pl.weak (Pl.cV hM rfl rfl (by decide) (Mj := M_108) rfl rfl (fun σ6 hw => ?_))
          replace h := h σ6 hw
          refine Pl.seg (pc' := 142) (ls' := [(2, .int (-1 : Int32)), (0, .ref 15), (1, .int x1)]) (st' := [.int (0 : Int32)]) (σ' := σ6) hM 3 rfl ?_
          refine Pl.weak (Pl.ret hM rfl rfl h)
        · replace h := h.2 c
          refine Pl.seg (pc' := 115) (ls' := [(0, .ref 15), (1, .int x1)]) (st' := [.int (3 : Int32), .int (0 : Int32), .ref 15]) (σ' := σ4) hM 3 rfl ?_
          refine Pl.weak (Pl.cI hM rfl rfl (by decide) (Mj := M_103) rfl rfl (fun w8 σ7 hw => ?_))
          replace h := h w8 σ7 hw
          refine Pl.seg (pc' := 130) (ls' := [(2, .int w8), (0, .ref 15), (1, .int x1)]) (st' := [.int ((10 : Int32) + w8), .int (27 : Int32), .ref 15]) (σ' := σ7) hM 7 rfl ?_
          refine Pl.weak (Pl.cV hM rfl rfl (by decide) (Mj := M_108) rfl rfl (fun σ9 hw => ?_))
          replace h := h σ9 hw
          refine Pl.br (c := w8 < 0) (a := 141) (b := 137) (ls' := [(2, .int w8), (0, .ref 15), (1, .int x1)]) (st' := []) (σ' := σ9) hM 2 rfl (fun c => ?_) (fun c => ?_)
          · replace h := h.1 c
            refine Pl.seg (pc' := 142) (ls' := [(2, .int w8), (0, .ref 15), (1, .int x1)]) (st' := [.int (0 : Int32)]) (σ' := σ9) hM 1 rfl ?_
            refine Pl.weak (Pl.ret hM rfl rfl h)
          · replace h := h.2 c
            refine Pl.seg (pc' := 142) (ls' := [(2, .int w8), (0, .ref 15), (1, .int x1)]) (st' := [.int (1 : Int32)]) (σ' := σ9) hM 2 rfl ?_
            refine Pl.weak (Pl.ret hM rfl rfl h)
    · replace h := h.2 c
      refine Pl.br (c := (36 : Int32) < (σ.1 15 5)) (a := 94) (b := 72) (ls' := [(0, .ref 15), (1, .int x1)]) (st' := []) (σ' := σ) hM 4 rfl (fun c => ?_) (fun c => ?_)
      · replace h := h.1 c
        refine Pl.brN (c := (σ.1 15 5) = (26 : Int32)) (a := 143) (b := 103) (ls' := [(0, .ref 15), (1, .int x1)]) (st' := []) (σ' := σ) hM 4 rfl (fun c => ?_) (fun c => ?_)
        · replace h := h.2 c
          refine Pl.seg (pc' := 148) (ls' := [(0, .ref 15), (1, .int x1)]) (st' := [.int (9999 : Int32), .int (0 : Int32), .ref 15]) (σ' := σ) hM 3 rfl ?_
          refine Pl.weak (Pl.cI hM rfl rfl (by decide) (Mj := M_103) rfl rfl (fun w11 σ10 hw => ?_))
          replace h := h w11 σ10 hw
          refine Pl.seg (pc' := 155) (ls' := [(2, .int w11), (0, .ref 15), (1, .int x1)]) (st' := [.int w11, .int (3 : Int32), .ref 15]) (σ' := σ10) hM 4 rfl ?_
          refine Pl.weak (Pl.cV hM rfl rfl (by decide) (Mj := M_108) rfl rfl (fun σ12 hw => ?_))
          replace h := h σ12 hw
          refine Pl.br (c := w11 < 0) (a := 166) (b := 162) (ls' := [(2, .int w11), (0, .ref 15), (1, .int x1)]) (st' := []) (σ' := σ12) hM 2 rfl (fun c => ?_) (fun c => ?_)
          · replace h := h.1 c
            refine Pl.seg (pc' := 167) (ls' := [(2, .int w11), (0, .ref 15), (1, .int x1)]) (st' := [.int (0 : Int32)]) (σ' := σ12) hM 1 rfl ?_
            refine Pl.weak (Pl.ret hM rfl rfl h)
          · replace h := h.2 c
            refine Pl.seg (pc' := 167) (ls' := [(2, .int w11), (0, .ref 15), (1, .int x1)]) (st' := [.int (1 : Int32)]) (σ' := σ12) hM 2 rfl ?_
            refine Pl.weak (Pl.ret hM rfl rfl h)
        · replace h := h.1 c
          refine Pl.seg (pc' := 106) (ls' := [(0, .ref 15), (1, .int x1)]) (st' := [.int (26 : Int32), .ref 15]) (σ' := σ) hM 2 rfl ?_
          refine Pl.weak (Pl.cZ hM rfl rfl (by decide) (Mj := M_101) rfl rfl (fun w14 σ13 hw hz => ?_))
          replace h := h w14 σ13 hw hz
          refine Pl.br (c := w14 = 0) (a := 121) (b := 112) (ls' := [(0, .ref 15), (1, .int x1)]) (st' := []) (σ' := σ13) hM 1 rfl (fun c => ?_) (fun c => ?_)
          · replace h := h.1 c
            refine Pl.seg (pc' := 130) (ls' := [(2, .int (-1 : Int32)), (0, .ref 15), (1, .int x1)]) (st' := [.int ((10 : Int32) + (-1 : Int32)), .int (27 : Int32), .ref 15]) (σ' := σ13) hM 7 rfl ?_
            refine Pl.weak (Pl.cV hM rfl rfl (by decide) (Mj := M_108) rfl rfl (fun σ15 hw => ?_))
            replace h := h σ15 hw
            refine Pl.seg (pc' := 142) (ls' := [(2, .int (-1 : Int32)), (0, .ref 15), (1, .int x1)]) (st' := [.int (0 : Int32)]) (σ' := σ15) hM 3 rfl ?_
            refine Pl.weak (Pl.ret hM rfl rfl h)
          · replace h := h.2 c
            refine Pl.seg (pc' := 115) (ls' := [(0, .ref 15), (1, .int x1)]) (st' := [.int (3 : Int32), .int (0 : Int32), .ref 15]) (σ' := σ13) hM 3 rfl ?_
            refine Pl.weak (Pl.cI hM rfl rfl (by decide) (Mj := M_103) rfl rfl (fun w17 σ16 hw => ?_))
            replace h := h w17 σ16 hw
            refine Pl.seg (pc' := 130) (ls' := [(2, .int w17), (0, .ref 15), (1, .int x1)]) (st' := [.int ((10 : Int32) + w17), .int (27 : Int32), .ref 15]) (σ' := σ16) hM 7 rfl ?_
            refine Pl.weak (Pl.cV hM rfl rfl (by decide) (Mj := M_108) rfl rfl (fun σ18 hw => ?_))
            replace h := h σ18 hw
            refine Pl.br (c := w17 < 0) (a := 141) (b := 137) (ls' := [(2, .int w17), (0, .ref 15), (1, .int x1)]) (st' := []) (σ' := σ18) hM 2 rfl (fun c => ?_) (fun c => ?_)
            · replace h := h.1 c
              refine Pl.seg (pc' := 142) (ls' := [(2, .int w17), (0, .ref 15), (1, .int x1)]) (st' := [.int (0 : Int32)]) (σ' := σ18) hM 1 rfl ?_
              refine Pl.weak (Pl.ret hM rfl rfl h)
            · replace h := h.2 c
              refine Pl.seg (pc' := 142) (ls' := [(2, .int w17), (0, .ref 15), (1, .int x1)]) (st' := [.int (1 : Int32)]) (σ' := σ18) hM 2 rfl ?_
              refine Pl.weak (Pl.ret hM rfl rfl h)
      · replace h := h.2 c
        refine Pl.seg (pc' := 82) (ls' := [(0, .ref 15), (1, .int x1)]) (st' := [.int ((σ.1 15 5) - (27 : Int32)), .int (27 : Int32), .ref 15]) (σ' := σ) hM 6 rfl ?_
        refine Pl.weak (Pl.cV hM rfl rfl (by decide) (Mj := M_108) rfl rfl (fun σ19 hw => ?_))
        replace h := h σ19 hw
        refine Pl.seg (pc' := 90) (ls' := [(0, .ref 15), (1, .int x1)]) (st' := [.int (σ19.1 15 5), .ref 15]) (σ' := σ19) hM 3 rfl ?_
        refine Pl.weak (Pl.cZ hM rfl rfl (by decide) (Mj := M_101) rfl rfl (fun w21 σ20 hw hz => ?_))
        replace h := h w21 σ20 hw hz
        refine Pl.weak (Pl.retZ hM rfl rfl h)
  · replace h := h.1 c
    refine Pl.br (c := x1 < (6 : Int32)) (a := 20) (b := 15) (ls' := [(0, .ref 15), (1, .int x1)]) (st' := []) (σ' := σ) hM 3 rfl (fun c => ?_) (fun c => ?_)
    · replace h := h.1 c
      refine Pl.seg (pc' := 23) (ls' := [(0, .ref 15), (1, .int x1)]) (st' := [.int (13 : Int32), .ref 15]) (σ' := σ) hM 2 rfl ?_
      refine Pl.weak (Pl.cZ hM rfl rfl (by decide) (Mj := M_101) rfl rfl (fun w23 σ22 hw hz => ?_))
      replace h := h w23 σ22 hw hz
      refine Pl.br (c := w23 = 0) (a := 52) (b := 29) (ls' := [(0, .ref 15), (1, .int x1)]) (st' := []) (σ' := σ22) hM 1 rfl (fun c => ?_) (fun c => ?_)
      · replace h := h.1 c
        refine Pl.seg (pc' := 53) (ls' := [(0, .ref 15), (1, .int x1)]) (st' := [.int (0 : Int32)]) (σ' := σ22) hM 1 rfl ?_
        refine Pl.weak (Pl.ret hM rfl rfl h)
      · replace h := h.2 c
        refine Pl.seg (pc' := 33) (ls' := [(0, .ref 15), (1, .int x1)]) (st' := [.int (x1 + (1 : Int32)), .ref 15]) (σ' := σ22) hM 4 rfl ?_
        refine Pl.weak (Pl.cZ hM rfl rfl (by decide) (Mj := M_110) rfl rfl (fun w25 σ24 hw hz => ?_))
        replace h := h w25 σ24 hw hz
        refine Pl.br (c := w25 = 0) (a := 52) (b := 39) (ls' := [(0, .ref 15), (1, .int x1)]) (st' := []) (σ' := σ24) hM 1 rfl (fun c => ?_) (fun c => ?_)
        · replace h := h.1 c
          refine Pl.seg (pc' := 53) (ls' := [(0, .ref 15), (1, .int x1)]) (st' := [.int (0 : Int32)]) (σ' := σ24) hM 1 rfl ?_
          refine Pl.weak (Pl.ret hM rfl rfl h)
        · replace h := h.2 c
          refine Pl.seg (pc' := 42) (ls' := [(0, .ref 15), (1, .int x1)]) (st' := [.int (14 : Int32), .ref 15]) (σ' := σ24) hM 2 rfl ?_
          refine Pl.weak (Pl.cZ hM rfl rfl (by decide) (Mj := M_101) rfl rfl (fun w27 σ26 hw hz => ?_))
          replace h := h w27 σ26 hw hz
          refine Pl.br (c := w27 = 0) (a := 52) (b := 48) (ls' := [(0, .ref 15), (1, .int x1)]) (st' := []) (σ' := σ26) hM 1 rfl (fun c => ?_) (fun c => ?_)
          · replace h := h.1 c
            refine Pl.seg (pc' := 53) (ls' := [(0, .ref 15), (1, .int x1)]) (st' := [.int (0 : Int32)]) (σ' := σ26) hM 1 rfl ?_
            refine Pl.weak (Pl.ret hM rfl rfl h)
          · replace h := h.2 c
            refine Pl.seg (pc' := 53) (ls' := [(0, .ref 15), (1, .int x1)]) (st' := [.int (1 : Int32)]) (σ' := σ26) hM 2 rfl ?_
            refine Pl.weak (Pl.ret hM rfl rfl h)
    · replace h := h.2 c
      refine Pl.seg (pc' := 16) (ls' := [(0, .ref 15), (1, .int x1)]) (st' := [.ref 15]) (σ' := σ) hM 1 rfl ?_
      refine Pl.weak (Pl.cZ hM rfl rfl (by decide) (Mj := M_106) rfl rfl (fun w29 σ28 hw hz => ?_))
      replace h := h w29 σ28 hw hz
      refine Pl.weak (Pl.retZ hM rfl rfl h)
def LV_110 : List (Nat × List Nat) := [(0, [0, 1]), (1, [0, 1]), (2, [0, 1, 2]), (3, [0, 1, 2]), (4, [0, 1, 2]), (7, [0, 1, 2]), (8, [0, 1, 2, 3]), (9, [0, 1, 2, 3]), (11, [0, 1, 2, 3, 4]), (13, [0, 1, 2, 3, 4]), (16, [0, 1, 2, 3, 4]), (19, [0, 1, 2, 3, 4]), (20, [0, 1, 2, 3, 4]), (23, [0, 1, 2, 3, 4]), (24, [0, 1, 2, 3, 4]), (27, [0, 1, 2, 3, 4]), (28, [0, 1, 2, 3, 4]), (31, [0, 1, 2, 3, 4]), (32, [0, 1, 2, 3, 4]), (35, [0, 1, 2, 3, 4]), (37, [0, 1, 2, 3, 4]), (40, [0, 1, 2, 4]), (41, [0, 1, 2, 4]), (44, [0, 1, 2, 4]), (46, [0, 1, 2, 4, 5]), (48, [0, 1, 2, 4, 5]), (49, [0, 1, 2, 4, 5]), (52, [0, 1, 2, 4, 5]), (54, [0, 1, 2, 4, 5]), (56, [0, 1, 2, 4, 5]), (59, [0, 1, 2, 4, 5]), (60, [0, 1, 2, 4, 5]), (63, [0, 1, 2, 4, 5]), (64, [0, 1, 2, 4, 5]), (66, [0, 1, 2, 4, 5, 6]), (68, [0, 1, 2, 4, 5, 6]), (71, [0, 1, 2, 4, 5, 6]), (72, [0, 1, 2, 4, 5, 6]), (75, [0, 1, 2, 4, 5, 6]), (76, [0, 1, 2, 4, 5, 6]), (77, [0, 1, 2, 4, 5, 6]), (78, [0, 1, 2, 4, 5, 6]), (81, [0, 1, 2, 4, 5, 6]), (82, [0, 1, 2, 4, 5, 6]), (84, [0, 1, 2, 4, 5, 6]), (87, [0, 1, 2, 4, 5, 6]), (90, [0, 1, 2, 4, 5, 6]), (91, [0, 1, 2, 4, 5, 6]), (92, [0, 1, 2, 4, 5, 6]), (95, [0, 1, 2, 4, 5, 6]), (98, [0, 1, 2, 4, 5, 6]), (99, [0, 1, 2, 4, 5, 6]), (102, [0, 1, 2, 4, 5, 6]), (103, [0, 1, 2, 4, 5, 6]), (104, [0, 1, 2, 3, 4, 5, 6]), (106, [0, 1, 2, 3, 4, 5]), (109, [0, 1, 3, 4, 5]), (111, [0, 1, 3, 4]), (112, [0, 1, 2, 3, 4]), (115, [0, 1, 2, 3, 4, 5]), (116, [0, 1, 2, 3, 4, 5]), (118, [0, 1, 2, 3, 4]), (119, [0, 1, 2, 3, 4]), (122, [0, 1, 2, 3, 4]), (125, [0, 1, 2, 3, 4]), (128, [0, 2, 3]), (129, [0, 2, 3]), (132, [0, 2, 3]), (133, [2, 3]), (134, [3]), (135, [3]), (138, [3]), (139, [])]
set_option maxRecDepth 100000 in
theorem lv_110 : chkLv M_110 LV_110 = true := by decide +kernel
set_option maxRecDepth 100000 in
theorem lva_110_11 : lvA LV_110 11 = [0, 1, 2, 3, 4] := by decide +kernel
set_option maxRecDepth 100000 in
theorem lva_110_59 : lvA LV_110 59 = [0, 1, 2, 4, 5] := by decide +kernel
set_option maxRecDepth 100000 in
theorem lva_110_81 : lvA LV_110 81 = [0, 1, 2, 4, 5, 6] := by decide +kernel
set_option maxRecDepth 100000 in
theorem lva_110_102 : lvA LV_110 102 = [0, 1, 2, 4, 5, 6] := by decide +kernel
set_option maxRecDepth 100000 in
theorem lva_110_122 : lvA LV_110 122 = [0, 1, 2, 3, 4] := by decide +kernel
set_option maxRecDepth 100000 in
theorem lva_110_128 : lvA LV_110 128 = [0, 2, 3] := by decide +kernel
set_option maxRecDepth 100000 in
theorem lva_110_138 : lvA LV_110 138 = [3] := by decide +kernel
set_option maxRecDepth 100000 in
theorem p_110_0 {n d : Nat} {Q : Option Value → Sg → Prop} (σ : Sg) (x1 : Int32) (h : (∀ w2 σ1, RCx PRG n 109 [.ref 15, .int x1] σ (some (.int w2)) σ1 → (w2 = 0 ∨ w2 = 1) → Pl PRG n d 110 11 [(0, .ref 15), (1, .int x1), (2, .int (0 : Int32)), (3, .int w2), (4, .int (0 : Int32))] [] σ1 Q)) : Pl PRG (n + 1) d 110 0 [(0, .ref 15), (1, .int x1)] [] σ Q := by
  have hM : PRG[110]? = some M_110 := rfl
  refine Pl.sg1 (pc' := 4) (ls' := [(2, .int (0 : Int32)), (0, .ref 15), (1, .int x1)]) (st' := [.int x1, .ref 15]) (σ' := σ) hM 3 rfl ?_
  refine Pl.weak (Pl.cZ hM rfl rfl (by decide) (Mj := M_109) rfl rfl (fun w2 σ1 hw hz => ?_))
  replace h := h w2 σ1 hw hz
  refine Pl.seg (pc' := 11) (ls' := [(4, .int (0 : Int32)), (3, .int w2), (2, .int (0 : Int32)), (0, .ref 15), (1, .int x1)]) (st' := []) (σ' := σ1) hM 3 rfl ?_
  exact Pl.live (l' := [(0, .ref 15), (1, .int x1), (2, .int (0 : Int32)), (3, .int w2), (4, .int (0 : Int32))]) hM lv_110 ⟨show ndL _ from (by decide : List.Nodup ([4, 3, 2, 0, 1] : List Nat)), show ndL _ from (by decide : List.Nodup ([0, 1, 2, 3, 4] : List Nat)), by rw [lva_110_11]; exact List.forall_mem_cons.mpr ⟨rfl, List.forall_mem_cons.mpr ⟨rfl, List.forall_mem_cons.mpr ⟨rfl, List.forall_mem_cons.mpr ⟨rfl, List.forall_mem_cons.mpr ⟨rfl, fun _ h => absurd h List.not_mem_nil⟩⟩⟩⟩⟩⟩ h
set_option maxRecDepth 100000 in
theorem p_110_11 {n d : Nat} {Q : Option Value → Sg → Prop} (σ : Sg) (x1 x2 x3 x4 : Int32) (h : (((400 : Int32) ≤ x4 → Pl PRG n d 110 128 [(0, .ref 15), (2, .int x2), (3, .int x3)] [] σ Q) ∧ (¬ (400 : Int32) ≤ x4 → ((x3 = 0 → Pl PRG n d 110 128 [(0, .ref 15), (2, .int x2), (3, .int x3)] [] σ Q) ∧ (¬ x3 = 0 → (((σ.1 15 5) < (5 : Int32) → Pl PRG n d 110 128 [(0, .ref 15), (2, .int x2), (3, .int x3)] [] σ Q) ∧ (¬ (σ.1 15 5) < (5 : Int32) → (((8 : Int32) < (σ.1 15 5) → Pl PRG n d 110 128 [(0, .ref 15), (2, .int x2), (3, .int x3)] [] σ Q) ∧ (¬ (8 : Int32) < (σ.1 15 5) → (((σ.1 15 5) = (5 : Int32) → Pl PRG n d 110 59 [(0, .ref 15), (1, .int x1), (2, .int x2), (4, .int x4), (5, .int (σ.1 15 5))] [] σ Q) ∧ (¬ (σ.1 15 5) = (5 : Int32) → (((σ.1 15 5) = (6 : Int32) → Pl PRG n d 110 59 [(0, .ref 15), (1, .int x1), (2, .int x2), (4, .int x4), (5, .int (σ.1 15 5))] [] σ Q) ∧ (¬ (σ.1 15 5) = (6 : Int32) → Pl PRG n d 110 81 [(0, .ref 15), (1, .int x1), (2, .int x2), (4, .int x4), (5, .int (σ.1 15 5)), (6, .int (0 : Int32))] [] σ Q))))))))))))) : Pl PRG (n + 1) d 110 11 [(0, .ref 15), (1, .int x1), (2, .int x2), (3, .int x3), (4, .int x4)] [] σ Q := by
  have hM : PRG[110]? = some M_110 := rfl
  refine Pl.br1 (c := (400 : Int32) ≤ x4) (a := 128) (b := 19) (ls' := [(0, .ref 15), (1, .int x1), (2, .int x2), (3, .int x3), (4, .int x4)]) (st' := []) (σ' := σ) hM 2 rfl (fun c => ?_) (fun c => ?_)
  · replace h := h.1 c
    exact Pl.live (l' := [(0, .ref 15), (2, .int x2), (3, .int x3)]) hM lv_110 ⟨show ndL _ from (by decide : List.Nodup ([0, 1, 2, 3, 4] : List Nat)), show ndL _ from (by decide : List.Nodup ([0, 2, 3] : List Nat)), by rw [lva_110_128]; exact List.forall_mem_cons.mpr ⟨rfl, List.forall_mem_cons.mpr ⟨rfl, List.forall_mem_cons.mpr ⟨rfl, fun _ h => absurd h List.not_mem_nil⟩⟩⟩⟩ h
  · replace h := h.2 c
    refine Pl.br (c := x3 = 0) (a := 128) (b := 23) (ls' := [(0, .ref 15), (1, .int x1), (2, .int x2), (3, .int x3), (4, .int x4)]) (st' := []) (σ' := σ) hM 2 rfl (fun c => ?_) (fun c => ?_)
    · replace h := h.1 c
      exact Pl.live (l' := [(0, .ref 15), (2, .int x2), (3, .int x3)]) hM lv_110 ⟨show ndL _ from (by decide : List.Nodup ([0, 1, 2, 3, 4] : List Nat)), show ndL _ from (by decide : List.Nodup ([0, 2, 3] : List Nat)), by rw [lva_110_128]; exact List.forall_mem_cons.mpr ⟨rfl, List.forall_mem_cons.mpr ⟨rfl, List.forall_mem_cons.mpr ⟨rfl, fun _ h => absurd h List.not_mem_nil⟩⟩⟩⟩ h
    · replace h := h.2 c
      refine Pl.br (c := (σ.1 15 5) < (5 : Int32)) (a := 128) (b := 31) (ls' := [(0, .ref 15), (1, .int x1), (2, .int x2), (3, .int x3), (4, .int x4)]) (st' := []) (σ' := σ) hM 4 rfl (fun c => ?_) (fun c => ?_)
      · replace h := h.1 c
        exact Pl.live (l' := [(0, .ref 15), (2, .int x2), (3, .int x3)]) hM lv_110 ⟨show ndL _ from (by decide : List.Nodup ([0, 1, 2, 3, 4] : List Nat)), show ndL _ from (by decide : List.Nodup ([0, 2, 3] : List Nat)), by rw [lva_110_128]; exact List.forall_mem_cons.mpr ⟨rfl, List.forall_mem_cons.mpr ⟨rfl, List.forall_mem_cons.mpr ⟨rfl, fun _ h => absurd h List.not_mem_nil⟩⟩⟩⟩ h
      · replace h := h.2 c
        refine Pl.br (c := (8 : Int32) < (σ.1 15 5)) (a := 128) (b := 40) (ls' := [(0, .ref 15), (1, .int x1), (2, .int x2), (3, .int x3), (4, .int x4)]) (st' := []) (σ' := σ) hM 4 rfl (fun c => ?_) (fun c => ?_)
        · replace h := h.1 c
          exact Pl.live (l' := [(0, .ref 15), (2, .int x2), (3, .int x3)]) hM lv_110 ⟨show ndL _ from (by decide : List.Nodup ([0, 1, 2, 3, 4] : List Nat)), show ndL _ from (by decide : List.Nodup ([0, 2, 3] : List Nat)), by rw [lva_110_128]; exact List.forall_mem_cons.mpr ⟨rfl, List.forall_mem_cons.mpr ⟨rfl, List.forall_mem_cons.mpr ⟨rfl, fun _ h => absurd h List.not_mem_nil⟩⟩⟩⟩ h
        · replace h := h.2 c
          refine Pl.br (c := (σ.1 15 5) = (5 : Int32)) (a := 59) (b := 52) (ls' := [(5, .int (σ.1 15 5)), (0, .ref 15), (1, .int x1), (2, .int x2), (3, .int x3), (4, .int x4)]) (st' := []) (σ' := σ) hM 6 rfl (fun c => ?_) (fun c => ?_)
          · replace h := h.1 c
            exact Pl.live (l' := [(0, .ref 15), (1, .int x1), (2, .int x2), (4, .int x4), (5, .int (σ.1 15 5))]) hM lv_110 ⟨show ndL _ from (by decide : List.Nodup ([5, 0, 1, 2, 3, 4] : List Nat)), show ndL _ from (by decide : List.Nodup ([0, 1, 2, 4, 5] : List Nat)), by rw [lva_110_59]; exact List.forall_mem_cons.mpr ⟨rfl, List.forall_mem_cons.mpr ⟨rfl, List.forall_mem_cons.mpr ⟨rfl, List.forall_mem_cons.mpr ⟨rfl, List.forall_mem_cons.mpr ⟨rfl, fun _ h => absurd h List.not_mem_nil⟩⟩⟩⟩⟩⟩ h
          · replace h := h.2 c
            refine Pl.brN (c := (σ.1 15 5) = (6 : Int32)) (a := 63) (b := 59) (ls' := [(5, .int (σ.1 15 5)), (0, .ref 15), (1, .int x1), (2, .int x2), (3, .int x3), (4, .int x4)]) (st' := []) (σ' := σ) hM 3 rfl (fun c => ?_) (fun c => ?_)
            · replace h := h.2 c
              refine Pl.seg (pc' := 81) (ls' := [(6, .int (0 : Int32)), (5, .int (σ.1 15 5)), (0, .ref 15), (1, .int x1), (2, .int x2), (3, .int x3), (4, .int x4)]) (st' := []) (σ' := σ) hM 4 rfl ?_
              exact Pl.live (l' := [(0, .ref 15), (1, .int x1), (2, .int x2), (4, .int x4), (5, .int (σ.1 15 5)), (6, .int (0 : Int32))]) hM lv_110 ⟨show ndL _ from (by decide : List.Nodup ([6, 5, 0, 1, 2, 3, 4] : List Nat)), show ndL _ from (by decide : List.Nodup ([0, 1, 2, 4, 5, 6] : List Nat)), by rw [lva_110_81]; exact List.forall_mem_cons.mpr ⟨rfl, List.forall_mem_cons.mpr ⟨rfl, List.forall_mem_cons.mpr ⟨rfl, List.forall_mem_cons.mpr ⟨rfl, List.forall_mem_cons.mpr ⟨rfl, List.forall_mem_cons.mpr ⟨rfl, fun _ h => absurd h List.not_mem_nil⟩⟩⟩⟩⟩⟩⟩ h
            · replace h := h.1 c
              exact Pl.live (l' := [(0, .ref 15), (1, .int x1), (2, .int x2), (4, .int x4), (5, .int (σ.1 15 5))]) hM lv_110 ⟨show ndL _ from (by decide : List.Nodup ([5, 0, 1, 2, 3, 4] : List Nat)), show ndL _ from (by decide : List.Nodup ([0, 1, 2, 4, 5] : List Nat)), by rw [lva_110_59]; exact List.forall_mem_cons.mpr ⟨rfl, List.forall_mem_cons.mpr ⟨rfl, List.forall_mem_cons.mpr ⟨rfl, List.forall_mem_cons.mpr ⟨rfl, List.forall_mem_cons.mpr ⟨rfl, fun _ h => absurd h List.not_mem_nil⟩⟩⟩⟩⟩⟩ h
set_option maxRecDepth 100000 in
theorem p_110_128 {n d : Nat} {Q : Option Value → Sg → Prop} (σ : Sg) (x2 x3 : Int32) (h : ((x2 = 0 → Pl PRG n d 110 138 [(3, .int x3)] [] σ Q) ∧ (¬ x2 = 0 → (∀ σ1, RCx PRG n 108 [.ref 15, .int x2, .int (0 : Int32)] σ none σ1 → Pl PRG n d 110 138 [(3, .int x3)] [] σ1 Q)))) : Pl PRG (n + 1) d 110 128 [(0, .ref 15), (2, .int x2), (3, .int x3)] [] σ Q := by
  have hM : PRG[110]? = some M_110 := rfl
  refine Pl.br1 (c := x2 = 0) (a := 138) (b := 132) (ls' := [(0, .ref 15), (2, .int x2), (3, .int x3)]) (st' := []) (σ' := σ) hM 1 rfl (fun c => ?_) (fun c => ?_)
  · replace h := h.1 c
    exact Pl.live (l' := [(3, .int x3)]) hM lv_110 ⟨show ndL _ from (by decide : List.Nodup ([0, 2, 3] : List Nat)), show ndL _ from (by decide : List.Nodup ([3] : List Nat)), by rw [lva_110_138]; exact List.forall_mem_cons.mpr ⟨rfl, fun _ h => absurd h List.not_mem_nil⟩⟩ h
  · replace h := h.2 c
    refine Pl.seg (pc' := 135) (ls' := [(0, .ref 15), (2, .int x2), (3, .int x3)]) (st' := [.int (0 : Int32), .int x2, .ref 15]) (σ' := σ) hM 3 rfl ?_
    refine Pl.weak (Pl.cV hM rfl rfl (by decide) (Mj := M_108) rfl rfl (fun σ1 hw => ?_))
    replace h := h σ1 hw
    exact Pl.live (l' := [(3, .int x3)]) hM lv_110 ⟨show ndL _ from (by decide : List.Nodup ([0, 2, 3] : List Nat)), show ndL _ from (by decide : List.Nodup ([3] : List Nat)), by rw [lva_110_138]; exact List.forall_mem_cons.mpr ⟨rfl, fun _ h => absurd h List.not_mem_nil⟩⟩ h
set_option maxRecDepth 100000 in
theorem p_110_59 {n d : Nat} {Q : Option Value → Sg → Prop} (σ : Sg) (x1 x2 x4 x5 : Int32) (h : ((x2 = 0 → Pl PRG n d 110 81 [(0, .ref 15), (1, .int x1), (2, .int x2), (4, .int x4), (5, .int x5), (6, .int (1 : Int32))] [] σ Q) ∧ (¬ x2 = 0 → (∀ σ1, RCx PRG n 108 [.ref 15, .int x2, .int (0 : Int32)] σ none σ1 → Pl PRG n d 110 81 [(0, .ref 15), (1, .int x1), (2, .int x2), (4, .int x4), (5, .int x5), (6, .int (1 : Int32))] [] σ1 Q)))) : Pl PRG (n + 1) d 110 59 [(0, .ref 15), (1, .int x1), (2, .int x2), (4, .int x4), (5, .int x5)] [] σ Q := by
  have hM : PRG[110]? = some M_110 := rfl
  refine Pl.br1 (c := x2 = 0) (a := 81) (b := 75) (ls' := [(6, .int (1 : Int32)), (0, .ref 15), (1, .int x1), (2, .int x2), (4, .int x4), (5, .int x5)]) (st' := []) (σ' := σ) hM 6 rfl (fun c => ?_) (fun c => ?_)
  · replace h := h.1 c
    exact Pl.live (l' := [(0, .ref 15), (1, .int x1), (2, .int x2), (4, .int x4), (5, .int x5), (6, .int (1 : Int32))]) hM lv_110 ⟨show ndL _ from (by decide : List.Nodup ([6, 0, 1, 2, 4, 5] : List Nat)), show ndL _ from (by decide : List.Nodup ([0, 1, 2, 4, 5, 6] : List Nat)), by rw [lva_110_81]; exact List.forall_mem_cons.mpr ⟨rfl, List.forall_mem_cons.mpr ⟨rfl, List.forall_mem_cons.mpr ⟨rfl, List.forall_mem_cons.mpr ⟨rfl, List.forall_mem_cons.mpr ⟨rfl, List.forall_mem_cons.mpr ⟨rfl, fun _ h => absurd h List.not_mem_nil⟩⟩⟩⟩⟩⟩⟩ h
  · replace h := h.2 c
    refine Pl.seg (pc' := 78) (ls' := [(6, .int (1 : Int32)), (0, .ref 15), (1, .int x1), (2, .int x2), (4, .int x4), (5, .int x5)]) (st' := [.int (0 : Int32), .int x2, .ref 15]) (σ' := σ) hM 3 rfl ?_
    refine Pl.weak (Pl.cV hM rfl rfl (by decide) (Mj := M_108) rfl rfl (fun σ1 hw => ?_))
    replace h := h σ1 hw
    exact Pl.live (l' := [(0, .ref 15), (1, .int x1), (2, .int x2), (4, .int x4), (5, .int x5), (6, .int (1 : Int32))]) hM lv_110 ⟨show ndL _ from (by decide : List.Nodup ([6, 0, 1, 2, 4, 5] : List Nat)), show ndL _ from (by decide : List.Nodup ([0, 1, 2, 4, 5, 6] : List Nat)), by rw [lva_110_81]; exact List.forall_mem_cons.mpr ⟨rfl, List.forall_mem_cons.mpr ⟨rfl, List.forall_mem_cons.mpr ⟨rfl, List.forall_mem_cons.mpr ⟨rfl, List.forall_mem_cons.mpr ⟨rfl, List.forall_mem_cons.mpr ⟨rfl, fun _ h => absurd h List.not_mem_nil⟩⟩⟩⟩⟩⟩⟩ h
set_option maxRecDepth 100000 in
theorem p_110_81 {n d : Nat} {Q : Option Value → Sg → Prop} (σ : Sg) (x1 x2 x4 x5 x6 : Int32) (h : (∀ w2 σ1, RCx PRG n 101 [.ref 15, .int x5] σ (some (.int w2)) σ1 → (w2 = 0 ∨ w2 = 1) → ((w2 = 0 → Pl PRG n d 110 102 [(0, .ref 15), (1, .int x1), (2, .int x2), (4, .int x4), (5, .int x5), (6, .int x6)] [] σ1 Q) ∧ (¬ w2 = 0 → (∀ w4 σ3, RCx PRG n 109 [.ref 15, .int x1] σ1 (some (.int w4)) σ3 → (w4 = 0 ∨ w4 = 1) → ((w4 = 0 → Pl PRG n d 110 102 [(0, .ref 15), (1, .int x1), (2, .int x2), (4, .int x4), (5, .int x5), (6, .int x6)] [] σ3 Q) ∧ (¬ w4 = 0 → ((x6 = 0 → (∀ σ5, RCx PRG n 108 [.ref 15, .int x5, .int (0 : Int32)] σ3 none σ5 → Pl PRG n d 110 122 [(0, .ref 15), (1, .int x1), (2, .int x2), (3, .int (1 : Int32)), (4, .int x4)] [] σ5 Q)) ∧ (¬ x6 = 0 → Pl PRG n d 110 122 [(0, .ref 15), (1, .int x1), (2, .int x5), (3, .int (1 : Int32)), (4, .int x4)] [] σ3 Q))))))))) : Pl PRG (n + 1) d 110 81 [(0, .ref 15), (1, .int x1), (2, .int x2), (4, .int x4), (5, .int x5), (6, .int x6)] [] σ Q := by
  have hM : PRG[110]? = some M_110 := rfl
  refine Pl.sg1 (pc' := 84) (ls' := [(0, .ref 15), (1, .int x1), (2, .int x2), (4, .int x4), (5, .int x5), (6, .int x6)]) (st' := [.int x5, .ref 15]) (σ' := σ) hM 1 rfl ?_
  refine Pl.weak (Pl.cZ hM rfl rfl (by decide) (Mj := M_101) rfl rfl (fun w2 σ1 hw hz => ?_))
  replace h := h w2 σ1 hw hz
  refine Pl.br (c := w2 = 0) (a := 102) (b := 90) (ls' := [(0, .ref 15), (1, .int x1), (2, .int x2), (4, .int x4), (5, .int x5), (6, .int x6)]) (st' := []) (σ' := σ1) hM 1 rfl (fun c => ?_) (fun c => ?_)
  · replace h := h.1 c
    exact Pl.live (l' := [(0, .ref 15), (1, .int x1), (2, .int x2), (4, .int x4), (5, .int x5), (6, .int x6)]) hM lv_110 ⟨show ndL _ from (by decide : List.Nodup ([0, 1, 2, 4, 5, 6] : List Nat)), show ndL _ from (by decide : List.Nodup ([0, 1, 2, 4, 5, 6] : List Nat)), by rw [lva_110_102]; exact List.forall_mem_cons.mpr ⟨rfl, List.forall_mem_cons.mpr ⟨rfl, List.forall_mem_cons.mpr ⟨rfl, List.forall_mem_cons.mpr ⟨rfl, List.forall_mem_cons.mpr ⟨rfl, List.forall_mem_cons.mpr ⟨rfl, fun _ h => absurd h List.not_mem_nil⟩⟩⟩⟩⟩⟩⟩ h
  · replace h := h.2 c
    refine Pl.seg (pc' := 92) (ls' := [(0, .ref 15), (1, .int x1), (2, .int x2), (4, .int x4), (5, .int x5), (6, .int x6)]) (st' := [.int x1, .ref 15]) (σ' := σ1) hM 2 rfl ?_
    refine Pl.weak (Pl.cZ hM rfl rfl (by decide) (Mj := M_109) rfl rfl (fun w4 σ3 hw hz => ?_))
    replace h := h w4 σ3 hw hz
    refine Pl.br (c := w4 = 0) (a := 102) (b := 98) (ls' := [(0, .ref 15), (1, .int x1), (2, .int x2), (4, .int x4), (5, .int x5), (6, .int x6)]) (st' := []) (σ' := σ3) hM 1 rfl (fun c => ?_) (fun c => ?_)
    · replace h := h.1 c
      exact Pl.live (l' := [(0, .ref 15), (1, .int x1), (2, .int x2), (4, .int x4), (5, .int x5), (6, .int x6)]) hM lv_110 ⟨show ndL _ from (by decide : List.Nodup ([0, 1, 2, 4, 5, 6] : List Nat)), show ndL _ from (by decide : List.Nodup ([0, 1, 2, 4, 5, 6] : List Nat)), by rw [lva_110_102]; exact List.forall_mem_cons.mpr ⟨rfl, List.forall_mem_cons.mpr ⟨rfl, List.forall_mem_cons.mpr ⟨rfl, List.forall_mem_cons.mpr ⟨rfl, List.forall_mem_cons.mpr ⟨rfl, List.forall_mem_cons.mpr ⟨rfl, fun _ h => absurd h List.not_mem_nil⟩⟩⟩⟩⟩⟩⟩ h
    · replace h := h.2 c
      refine Pl.br (c := x6 = 0) (a := 115) (b := 109) (ls' := [(3, .int (1 : Int32)), (0, .ref 15), (1, .int x1), (2, .int x2), (4, .int x4), (5, .int x5), (6, .int x6)]) (st' := []) (σ' := σ3) hM 5 rfl (fun c => ?_) (fun c => ?_)
      · replace h := h.1 c
        refine Pl.seg (pc' := 119) (ls' := [(3, .int (1 : Int32)), (0, .ref 15), (1, .int x1), (2, .int x2), (4, .int x4), (5, .int x5), (6, .int x6)]) (st' := [.int (0 : Int32), .int x5, .ref 15]) (σ' := σ3) hM 3 rfl ?_
        refine Pl.weak (Pl.cV hM rfl rfl (by decide) (Mj := M_108) rfl rfl (fun σ5 hw => ?_))
        replace h := h σ5 hw
        exact Pl.live (l' := [(0, .ref 15), (1, .int x1), (2, .int x2), (3, .int (1 : Int32)), (4, .int x4)]) hM lv_110 ⟨show ndL _ from (by decide : List.Nodup ([3, 0, 1, 2, 4, 5, 6] : List Nat)), show ndL _ from (by decide : List.Nodup ([0, 1, 2, 3, 4] : List Nat)), by rw [lva_110_122]; exact List.forall_mem_cons.mpr ⟨rfl, List.forall_mem_cons.mpr ⟨rfl, List.forall_mem_cons.mpr ⟨rfl, List.forall_mem_cons.mpr ⟨rfl, List.forall_mem_cons.mpr ⟨rfl, fun _ h => absurd h List.not_mem_nil⟩⟩⟩⟩⟩⟩ h
      · replace h := h.2 c
        refine Pl.seg (pc' := 122) (ls' := [(2, .int x5), (3, .int (1 : Int32)), (0, .ref 15), (1, .int x1), (4, .int x4), (5, .int x5), (6, .int x6)]) (st' := []) (σ' := σ3) hM 3 rfl ?_
        exact Pl.live (l' := [(0, .ref 15), (1, .int x1), (2, .int x5), (3, .int (1 : Int32)), (4, .int x4)]) hM lv_110 ⟨show ndL _ from (by decide : List.Nodup ([2, 3, 0, 1, 4, 5, 6] : List Nat)), show ndL _ from (by decide : List.Nodup ([0, 1, 2, 3, 4] : List Nat)), by rw [lva_110_122]; exact List.forall_mem_cons.mpr ⟨rfl, List.forall_mem_cons.mpr ⟨rfl, List.forall_mem_cons.mpr ⟨rfl, List.forall_mem_cons.mpr ⟨rfl, List.forall_mem_cons.mpr ⟨rfl, fun _ h => absurd h List.not_mem_nil⟩⟩⟩⟩⟩⟩ h
set_option maxRecDepth 100000 in
theorem p_110_138 {n d : Nat} {Q : Option Value → Sg → Prop} (σ : Sg) (x3 : Int32) (h : ((x3 = 0 ∨ x3 = 1) → Q (some (.int x3)) σ)) : Pl PRG (n + 1) d 110 138 [(3, .int x3)] [] σ Q := by
  have hM : PRG[110]? = some M_110 := rfl
  refine Pl.sg1 (pc' := 139) (ls' := [(3, .int x3)]) (st' := [.int x3]) (σ' := σ) hM 0 rfl ?_
  refine Pl.weak (Pl.retZ hM rfl rfl h)
set_option maxRecDepth 100000 in
theorem p_110_102 {n d : Nat} {Q : Option Value → Sg → Prop} (σ : Sg) (x1 x2 x4 x5 x6 : Int32) (h : ((x6 = 0 → (∀ σ1, RCx PRG n 108 [.ref 15, .int x5, .int (0 : Int32)] σ none σ1 → Pl PRG n d 110 122 [(0, .ref 15), (1, .int x1), (2, .int x2), (3, .int (0 : Int32)), (4, .int x4)] [] σ1 Q)) ∧ (¬ x6 = 0 → Pl PRG n d 110 122 [(0, .ref 15), (1, .int x1), (2, .int x5), (3, .int (0 : Int32)), (4, .int x4)] [] σ Q))) : Pl PRG (n + 1) d 110 102 [(0, .ref 15), (1, .int x1), (2, .int x2), (4, .int x4), (5, .int x5), (6, .int x6)] [] σ Q := by
  have hM : PRG[110]? = some M_110 := rfl
  refine Pl.br1 (c := x6 = 0) (a := 115) (b := 109) (ls' := [(3, .int (0 : Int32)), (0, .ref 15), (1, .int x1), (2, .int x2), (4, .int x4), (5, .int x5), (6, .int x6)]) (st' := []) (σ' := σ) hM 3 rfl (fun c => ?_) (fun c => ?_)
  · replace h := h.1 c
    refine Pl.seg (pc' := 119) (ls' := [(3, .int (0 : Int32)), (0, .ref 15), (1, .int x1), (2, .int x2), (4, .int x4), (5, .int x5), (6, .int x6)]) (st' := [.int (0 : Int32), .int x5, .ref 15]) (σ' := σ) hM 3 rfl ?_
    refine Pl.weak (Pl.cV hM rfl rfl (by decide) (Mj := M_108) rfl rfl (fun σ1 hw => ?_))
    replace h := h σ1 hw
    exact Pl.live (l' := [(0, .ref 15), (1, .int x1), (2, .int x2), (3, .int (0 : Int32)), (4, .int x4)]) hM lv_110 ⟨show ndL _ from (by decide : List.Nodup ([3, 0, 1, 2, 4, 5, 6] : List Nat)), show ndL _ from (by decide : List.Nodup ([0, 1, 2, 3, 4] : List Nat)), by rw [lva_110_122]; exact List.forall_mem_cons.mpr ⟨rfl, List.forall_mem_cons.mpr ⟨rfl, List.forall_mem_cons.mpr ⟨rfl, List.forall_mem_cons.mpr ⟨rfl, List.forall_mem_cons.mpr ⟨rfl, fun _ h => absurd h List.not_mem_nil⟩⟩⟩⟩⟩⟩ h
  · replace h := h.2 c
    refine Pl.seg (pc' := 122) (ls' := [(2, .int x5), (3, .int (0 : Int32)), (0, .ref 15), (1, .int x1), (4, .int x4), (5, .int x5), (6, .int x6)]) (st' := []) (σ' := σ) hM 3 rfl ?_
    exact Pl.live (l' := [(0, .ref 15), (1, .int x1), (2, .int x5), (3, .int (0 : Int32)), (4, .int x4)]) hM lv_110 ⟨show ndL _ from (by decide : List.Nodup ([2, 3, 0, 1, 4, 5, 6] : List Nat)), show ndL _ from (by decide : List.Nodup ([0, 1, 2, 3, 4] : List Nat)), by rw [lva_110_122]; exact List.forall_mem_cons.mpr ⟨rfl, List.forall_mem_cons.mpr ⟨rfl, List.forall_mem_cons.mpr ⟨rfl, List.forall_mem_cons.mpr ⟨rfl, List.forall_mem_cons.mpr ⟨rfl, fun _ h => absurd h List.not_mem_nil⟩⟩⟩⟩⟩⟩ h
set_option maxRecDepth 100000 in
theorem p_110_122 {n d : Nat} {Q : Option Value → Sg → Prop} (σ : Sg) (x1 x2 x3 x4 : Int32) (h : Pl PRG n d 110 11 [(0, .ref 15), (1, .int x1), (2, .int x2), (3, .int x3), (4, .int (x4 + (1 : Int32)))] [] σ Q) : Pl PRG (n + 1) d 110 122 [(0, .ref 15), (1, .int x1), (2, .int x2), (3, .int x3), (4, .int x4)] [] σ Q := by
  have hM : PRG[110]? = some M_110 := rfl
  refine Pl.sg1 (pc' := 11) (ls' := [(4, .int (x4 + (1 : Int32))), (0, .ref 15), (1, .int x1), (2, .int x2), (3, .int x3)]) (st' := []) (σ' := σ) hM 1 rfl ?_
  exact Pl.live (l' := [(0, .ref 15), (1, .int x1), (2, .int x2), (3, .int x3), (4, .int (x4 + (1 : Int32)))]) hM lv_110 ⟨show ndL _ from (by decide : List.Nodup ([4, 0, 1, 2, 3] : List Nat)), show ndL _ from (by decide : List.Nodup ([0, 1, 2, 3, 4] : List Nat)), by rw [lva_110_11]; exact List.forall_mem_cons.mpr ⟨rfl, List.forall_mem_cons.mpr ⟨rfl, List.forall_mem_cons.mpr ⟨rfl, List.forall_mem_cons.mpr ⟨rfl, List.forall_mem_cons.mpr ⟨rfl, fun _ h => absurd h List.not_mem_nil⟩⟩⟩⟩⟩⟩ h
def LV_111 : List (Nat × List Nat) := [(0, [0]), (1, [0]), (2, [0, 1]), (3, [0, 1]), (4, [0, 1, 2]), (5, [0, 1, 2]), (8, [0, 1, 2]), (11, [0, 1, 2]), (12, [0, 1, 2]), (15, [0, 1, 2]), (17, [0, 1, 2]), (20, [0, 1, 2]), (21, [0, 2]), (24, [0, 2]), (25, [0, 2]), (28, [0, 2]), (29, [0, 2]), (30, [0, 1, 2]), (31, [0, 1, 2]), (33, [0, 1, 2]), (36, [0, 1, 2]), (39, []), (40, []), (41, [0, 1, 2]), (44, [0, 1, 2]), (47, [0, 1]), (48, [0, 1]), (49, [0, 1]), (52, [0, 1]), (55, []), (56, []), (57, [0, 1]), (59, [0, 1]), (61, [0, 1]), (62, [0, 1]), (65, [0, 1]), (68, [0, 1]), (71, [0, 1]), (72, [0, 1, 2]), (73, [0, 1, 2]), (74, [0, 1, 2]), (77, [0, 1, 2]), (80, [0, 1, 2]), (81, [0, 1, 2]), (82, [0, 1, 2]), (85, [0, 1, 2]), (88, []), (89, []), (90, [0, 1, 2]), (91, [0, 1, 2]), (92, [0, 1]), (93, [0, 1]), (96, [0, 1]), (97, [0]), (100, [0]), (101, []), (103, []), (104, []), (107, []), (108, [])]
set_option maxRecDepth 100000 in
theorem lv_111 : chkLv M_111 LV_111 = true := by decide +kernel
set_option maxRecDepth 100000 in
theorem lva_111_4 : lvA LV_111 4 = [0, 1, 2] := by decide +kernel
set_option maxRecDepth 100000 in
theorem lva_111_47 : lvA LV_111 47 = [0, 1] := by decide +kernel
set_option maxRecDepth 100000 in
theorem lva_111_88 : lvA LV_111 88 = [] := by decide +kernel
set_option maxRecDepth 100000 in
theorem lva_111_107 : lvA LV_111 107 = [] := by decide +kernel
set_option maxRecDepth 100000 in
theorem p_111_0 {n d : Nat} {Q : Option Value → Sg → Prop} (σ : Sg) (h : Pl PRG n d 111 4 [(0, .ref 15), (1, .int (0 : Int32)), (2, .int (0 : Int32))] [] σ Q) : Pl PRG (n + 1) d 111 0 [(0, .ref 15)] [] σ Q := by
  have hM : PRG[111]? = some M_111 := rfl
  refine Pl.sg1 (pc' := 4) (ls' := [(2, .int (0 : Int32)), (1, .int (0 : Int32)), (0, .ref 15)]) (st' := []) (σ' := σ) hM 3 rfl ?_
  exact Pl.live (l' := [(0, .ref 15), (1, .int (0 : Int32)), (2, .int (0 : Int32))]) hM lv_111 ⟨show ndL _ from (by decide : List.Nodup ([2, 1, 0] : List Nat)), show ndL _ from (by decide : List.Nodup ([0, 1, 2] : List Nat)), by rw [lva_111_4]; exact List.forall_mem_cons.mpr ⟨rfl, List.forall_mem_cons.mpr ⟨rfl, List.forall_mem_cons.mpr ⟨rfl, fun _ h => absurd h List.not_mem_nil⟩⟩⟩⟩ h
set_option maxRecDepth 100000 in
theorem p_111_4 {n d : Nat} {Q : Option Value → Sg → Prop} (σ : Sg) (x1 x2 : Int32) (h : (((400 : Int32) < x2 → Pl PRG n d 111 47 [(0, .ref 15), (1, .int x1)] [] σ Q) ∧ (¬ (400 : Int32) < x2 → (((σ.1 15 5) = (25 : Int32) → ((x1 = 0 → (∀ w4 σ3, RCx PRG n 101 [.ref 15, .int (25 : Int32)] σ (some (.int w4)) σ3 → (w4 = 0 ∨ w4 = 1) → ((w4 = 0 → Q (some (.int (0 : Int32))) σ3) ∧ (¬ w4 = 0 → Pl PRG n d 111 4 [(0, .ref 15), (1, .int (1 : Int32)), (2, .int (x2 + (1 : Int32)))] [] σ3 Q)))) ∧ (¬ x1 = 0 → (∀ w2 σ1, RCx PRG n 101 [.ref 15, .int (25 : Int32)] σ (some (.int w2)) σ1 → (w2 = 0 ∨ w2 = 1) → ((w2 = 0 → Q (some (.int (0 : Int32))) σ1) ∧ (¬ w2 = 0 → Pl PRG n d 111 4 [(0, .ref 15), (1, .int (0 : Int32)), (2, .int (x2 + (1 : Int32)))] [] σ1 Q)))))) ∧ (¬ (σ.1 15 5) = (25 : Int32) → Pl PRG n d 111 47 [(0, .ref 15), (1, .int x1)] [] σ Q))))) : Pl PRG (n + 1) d 111 4 [(0, .ref 15), (1, .int x1), (2, .int x2)] [] σ Q := by
  have hM : PRG[111]? = some M_111 := rfl
  refine Pl.br1 (c := (400 : Int32) < x2) (a := 47) (b := 11) (ls' := [(0, .ref 15), (1, .int x1), (2, .int x2)]) (st' := []) (σ' := σ) hM 2 rfl (fun c => ?_) (fun c => ?_)
  · replace h := h.1 c
    exact Pl.live (l' := [(0, .ref 15), (1, .int x1)]) hM lv_111 ⟨show ndL _ from (by decide : List.Nodup ([0, 1, 2] : List Nat)), show ndL _ from (by decide : List.Nodup ([0, 1] : List Nat)), by rw [lva_111_47]; exact List.forall_mem_cons.mpr ⟨rfl, List.forall_mem_cons.mpr ⟨rfl, fun _ h => absurd h List.not_mem_nil⟩⟩⟩ h
  · replace h := h.2 c
    refine Pl.brN (c := (σ.1 15 5) = (25 : Int32)) (a := 47) (b := 20) (ls' := [(0, .ref 15), (1, .int x1), (2, .int x2)]) (st' := []) (σ' := σ) hM 4 rfl (fun c => ?_) (fun c => ?_)
    · replace h := h.2 c
      exact Pl.live (l' := [(0, .ref 15), (1, .int x1)]) hM lv_111 ⟨show ndL _ from (by decide : List.Nodup ([0, 1, 2] : List Nat)), show ndL _ from (by decide : List.Nodup ([0, 1] : List Nat)), by rw [lva_111_47]; exact List.forall_mem_cons.mpr ⟨rfl, List.forall_mem_cons.mpr ⟨rfl, fun _ h => absurd h List.not_mem_nil⟩⟩⟩ h
    · replace h := h.1 c
      refine Pl.brN (c := x1 = 0) (a := 28) (b := 24) (ls' := [(0, .ref 15), (1, .int x1), (2, .int x2)]) (st' := []) (σ' := σ) hM 2 rfl (fun c => ?_) (fun c => ?_)
      · replace h := h.2 c
        refine Pl.seg (pc' := 33) (ls' := [(1, .int (0 : Int32)), (0, .ref 15), (2, .int x2)]) (st' := [.int (25 : Int32), .ref 15]) (σ' := σ) hM 4 rfl ?_
        refine Pl.weak (Pl.cZ hM rfl rfl (by decide) (Mj := M_101) rfl rfl (fun w2 σ1 hw hz => ?_))
        replace h := h w2 σ1 hw hz
        refine Pl.brN (c := w2 = 0) (a := 41) (b := 39) (ls' := [(1, .int (0 : Int32)), (0, .ref 15), (2, .int x2)]) (st' := []) (σ' := σ1) hM 1 rfl (fun c => ?_) (fun c => ?_)
        · replace h := h.2 c
          refine Pl.seg (pc' := 4) (ls' := [(2, .int (x2 + (1 : Int32))), (1, .int (0 : Int32)), (0, .ref 15)]) (st' := []) (σ' := σ1) hM 2 rfl ?_
          exact Pl.live (l' := [(0, .ref 15), (1, .int (0 : Int32)), (2, .int (x2 + (1 : Int32)))]) hM lv_111 ⟨show ndL _ from (by decide : List.Nodup ([2, 1, 0] : List Nat)), show ndL _ from (by decide : List.Nodup ([0, 1, 2] : List Nat)), by rw [lva_111_4]; exact List.forall_mem_cons.mpr ⟨rfl, List.forall_mem_cons.mpr ⟨rfl, List.forall_mem_cons.mpr ⟨rfl, fun _ h => absurd h List.not_mem_nil⟩⟩⟩⟩ h
        · replace h := h.1 c
          refine Pl.seg (pc' := 40) (ls' := [(1, .int (0 : Int32)), (0, .ref 15), (2, .int x2)]) (st' := [.int (0 : Int32)]) (σ' := σ1) hM 1 rfl ?_
          refine Pl.weak (Pl.ret hM rfl rfl h)
      · replace h := h.1 c
        refine Pl.seg (pc' := 33) (ls' := [(1, .int (1 : Int32)), (0, .ref 15), (2, .int x2)]) (st' := [.int (25 : Int32), .ref 15]) (σ' := σ) hM 5 rfl ?_
        refine Pl.weak (Pl.cZ hM rfl rfl (by decide) (Mj := M_101) rfl rfl (fun w4 σ3 hw hz => ?_))
        replace h := h w4 σ3 hw hz
        refine Pl.brN (c := w4 = 0) (a := 41) (b := 39) (ls' := [(1, .int (1 : Int32)), (0, .ref 15), (2, .int x2)]) (st' := []) (σ' := σ3) hM 1 rfl (fun c => ?_) (fun c => ?_)
        · replace h := h.2 c
          refine Pl.seg (pc' := 4) (ls' := [(2, .int (x2 + (1 : Int32))), (1, .int (1 : Int32)), (0, .ref 15)]) (st' := []) (σ' := σ3) hM 2 rfl ?_
          exact Pl.live (l' := [(0, .ref 15), (1, .int (1 : Int32)), (2, .int (x2 + (1 : Int32)))]) hM lv_111 ⟨show ndL _ from (by decide : List.Nodup ([2, 1, 0] : List Nat)), show ndL _ from (by decide : List.Nodup ([0, 1, 2] : List Nat)), by rw [lva_111_4]; exact List.forall_mem_cons.mpr ⟨rfl, List.forall_mem_cons.mpr ⟨rfl, List.forall_mem_cons.mpr ⟨rfl, fun _ h => absurd h List.not_mem_nil⟩⟩⟩⟩ h
        · replace h := h.1 c
          refine Pl.seg (pc' := 40) (ls' := [(1, .int (1 : Int32)), (0, .ref 15), (2, .int x2)]) (st' := [.int (0 : Int32)]) (σ' := σ3) hM 1 rfl ?_
          refine Pl.weak (Pl.ret hM rfl rfl h)
set_option maxRecDepth 100000 in
theorem p_111_47 {n d : Nat} {Q : Option Value → Sg → Prop} (σ : Sg) (x1 : Int32) (h : (∀ w2 σ1, RCx PRG n 110 [.ref 15, .int (0 : Int32)] σ (some (.int w2)) σ1 → (w2 = 0 ∨ w2 = 1) → ((w2 = 0 → Q (some (.int (0 : Int32))) σ1) ∧ (¬ w2 = 0 → (∀ w4 σ3, RCx PRG n 101 [.ref 15, .int (if (9 : Int32) < (if (σ1.1 15 5) < (12 : Int32) then (σ1.1 15 5) else (12 : Int32)) then (if (σ1.1 15 5) < (12 : Int32) then (σ1.1 15 5) else (12 : Int32)) else (9 : Int32))] σ1 (some (.int w4)) σ3 → (w4 = 0 ∨ w4 = 1) → ((w4 = 0 → Pl PRG n d 111 88 [] [] σ3 Q) ∧ (¬ w4 = 0 → (∀ w6 σ5, RCx PRG n 110 [.ref 15, .int (0 : Int32)] σ3 (some (.int w6)) σ5 → (w6 = 0 ∨ w6 = 1) → ((w6 = 0 → Pl PRG n d 111 88 [] [] σ5 Q) ∧ (¬ w6 = 0 → (∀ σ7, RCx PRG n 108 [.ref 15, .int (if (9 : Int32) < (if (σ1.1 15 5) < (12 : Int32) then (σ1.1 15 5) else (12 : Int32)) then (if (σ1.1 15 5) < (12 : Int32) then (σ1.1 15 5) else (12 : Int32)) else (9 : Int32)), .int (0 : Int32)] σ5 none σ7 → ((x1 = 0 → Pl PRG n d 111 107 [] [] σ7 Q) ∧ (¬ x1 = 0 → (∀ σ8, RCx PRG n 108 [.ref 15, .int (25 : Int32), .int (0 : Int32)] σ7 none σ8 → Pl PRG n d 111 107 [] [] σ8 Q)))))))))))))) : Pl PRG (n + 1) d 111 47 [(0, .ref 15), (1, .int x1)] [] σ Q := by
  have hM : PRG[111]? = some M_111 := rfl
  refine Pl.sg1 (pc' := 49) (ls' := [(0, .ref 15), (1, .int x1)]) (st' := [.int (0 : Int32), .ref 15]) (σ' := σ) hM 1 rfl ?_
  refine Pl.weak (Pl.cZ hM rfl rfl (by decide) (Mj := M_110) rfl rfl (fun w2 σ1 hw hz => ?_))
  replace h := h w2 σ1 hw hz
  refine Pl.brN (c := w2 = 0) (a := 57) (b := 55) (ls' := [(0, .ref 15), (1, .int x1)]) (st' := []) (σ' := σ1) hM 1 rfl (fun c => ?_) (fun c => ?_)
  · replace h := h.2 c
    refine Pl.seg (pc' := 65) (ls' := [(0, .ref 15), (1, .int x1)]) (st' := [.int (σ1.1 15 5), .int (12 : Int32), .int (9 : Int32)]) (σ' := σ1) hM 4 rfl ?_
    refine Pl.weak (Pl.mm hM rfl rfl rfl ?_)
    refine Pl.weak (Pl.mm hM rfl rfl rfl ?_)
    refine Pl.seg (pc' := 74) (ls' := [(2, .int (if (9 : Int32) < (if (σ1.1 15 5) < (12 : Int32) then (σ1.1 15 5) else (12 : Int32)) then (if (σ1.1 15 5) < (12 : Int32) then (σ1.1 15 5) else (12 : Int32)) else (9 : Int32))), (0, .ref 15), (1, .int x1)]) (st' := [.int (if (9 : Int32) < (if (σ1.1 15 5) < (12 : Int32) then (σ1.1 15 5) else (12 : Int32)) then (if (σ1.1 15 5) < (12 : Int32) then (σ1.1 15 5) else (12 : Int32)) else (9 : Int32)), .ref 15]) (σ' := σ1) hM 3 rfl ?_
    refine Pl.weak (Pl.cZ hM rfl rfl (by decide) (Mj := M_101) rfl rfl (fun w4 σ3 hw hz => ?_))
    replace h := h w4 σ3 hw hz
    refine Pl.br (c := w4 = 0) (a := 88) (b := 80) (ls' := [(2, .int (if (9 : Int32) < (if (σ1.1 15 5) < (12 : Int32) then (σ1.1 15 5) else (12 : Int32)) then (if (σ1.1 15 5) < (12 : Int32) then (σ1.1 15 5) else (12 : Int32)) else (9 : Int32))), (0, .ref 15), (1, .int x1)]) (st' := []) (σ' := σ3) hM 1 rfl (fun c => ?_) (fun c => ?_)
    · replace h := h.1 c
      exact Pl.live (l' := []) hM lv_111 ⟨show ndL _ from (by decide : List.Nodup ([2, 0, 1] : List Nat)), show ndL _ from (by decide : List.Nodup ([] : List Nat)), by rw [lva_111_88]; exact fun _ h => absurd h List.not_mem_nil⟩ h
    · replace h := h.2 c
      refine Pl.seg (pc' := 82) (ls' := [(2, .int (if (9 : Int32) < (if (σ1.1 15 5) < (12 : Int32) then (σ1.1 15 5) else (12 : Int32)) then (if (σ1.1 15 5) < (12 : Int32) then (σ1.1 15 5) else (12 : Int32)) else (9 : Int32))), (0, .ref 15), (1, .int x1)]) (st' := [.int (0 : Int32), .ref 15]) (σ' := σ3) hM 2 rfl ?_
      refine Pl.weak (Pl.cZ hM rfl rfl (by decide) (Mj := M_110) rfl rfl (fun w6 σ5 hw hz => ?_))
      replace h := h w6 σ5 hw hz
      refine Pl.brN (c := w6 = 0) (a := 90) (b := 88) (ls' := [(2, .int (if (9 : Int32) < (if (σ1.1 15 5) < (12 : Int32) then (σ1.1 15 5) else (12 : Int32)) then (if (σ1.1 15 5) < (12 : Int32) then (σ1.1 15 5) else (12 : Int32)) else (9 : Int32))), (0, .ref 15), (1, .int x1)]) (st' := []) (σ' := σ5) hM 1 rfl (fun c => ?_) (fun c => ?_)
      · replace h := h.2 c
        refine Pl.seg (pc' := 93) (ls' := [(2, .int (if (9 : Int32) < (if (σ1.1 15 5) < (12 : Int32) then (σ1.1 15 5) else (12 : Int32)) then (if (σ1.1 15 5) < (12 : Int32) then (σ1.1 15 5) else (12 : Int32)) else (9 : Int32))), (0, .ref 15), (1, .int x1)]) (st' := [.int (0 : Int32), .int (if (9 : Int32) < (if (σ1.1 15 5) < (12 : Int32) then (σ1.1 15 5) else (12 : Int32)) then (if (σ1.1 15 5) < (12 : Int32) then (σ1.1 15 5) else (12 : Int32)) else (9 : Int32)), .ref 15]) (σ' := σ5) hM 3 rfl ?_
        refine Pl.weak (Pl.cV hM rfl rfl (by decide) (Mj := M_108) rfl rfl (fun σ7 hw => ?_))
        replace h := h σ7 hw
        refine Pl.br (c := x1 = 0) (a := 107) (b := 100) (ls' := [(2, .int (if (9 : Int32) < (if (σ1.1 15 5) < (12 : Int32) then (σ1.1 15 5) else (12 : Int32)) then (if (σ1.1 15 5) < (12 : Int32) then (σ1.1 15 5) else (12 : Int32)) else (9 : Int32))), (0, .ref 15), (1, .int x1)]) (st' := []) (σ' := σ7) hM 2 rfl (fun c => ?_) (fun c => ?_)
        · replace h := h.1 c
          exact Pl.live (l' := []) hM lv_111 ⟨show ndL _ from (by decide : List.Nodup ([2, 0, 1] : List Nat)), show ndL _ from (by decide : List.Nodup ([] : List Nat)), by rw [lva_111_107]; exact fun _ h => absurd h List.not_mem_nil⟩ h
        · replace h := h.2 c
          refine Pl.seg (pc' := 104) (ls' := [(2, .int (if (9 : Int32) < (if (σ1.1 15 5) < (12 : Int32) then (σ1.1 15 5) else (12 : Int32)) then (if (σ1.1 15 5) < (12 : Int32) then (σ1.1 15 5) else (12 : Int32)) else (9 : Int32))), (0, .ref 15), (1, .int x1)]) (st' := [.int (0 : Int32), .int (25 : Int32), .ref 15]) (σ' := σ7) hM 3 rfl ?_
          refine Pl.weak (Pl.cV hM rfl rfl (by decide) (Mj := M_108) rfl rfl (fun σ8 hw => ?_))
          replace h := h σ8 hw
          exact Pl.live (l' := []) hM lv_111 ⟨show ndL _ from (by decide : List.Nodup ([2, 0, 1] : List Nat)), show ndL _ from (by decide : List.Nodup ([] : List Nat)), by rw [lva_111_107]; exact fun _ h => absurd h List.not_mem_nil⟩ h
      · replace h := h.1 c
        exact Pl.live (l' := []) hM lv_111 ⟨show ndL _ from (by decide : List.Nodup ([2, 0, 1] : List Nat)), show ndL _ from (by decide : List.Nodup ([] : List Nat)), by rw [lva_111_88]; exact fun _ h => absurd h List.not_mem_nil⟩ h
  · replace h := h.1 c
    refine Pl.seg (pc' := 56) (ls' := [(0, .ref 15), (1, .int x1)]) (st' := [.int (0 : Int32)]) (σ' := σ1) hM 1 rfl ?_
    refine Pl.weak (Pl.ret hM rfl rfl h)
set_option maxRecDepth 100000 in
theorem p_111_88 {n d : Nat} {Q : Option Value → Sg → Prop} (σ : Sg) (h : Q (some (.int (0 : Int32))) σ) : Pl PRG (n + 1) d 111 88 [] [] σ Q := by
  have hM : PRG[111]? = some M_111 := rfl
  refine Pl.sg1 (pc' := 89) (ls' := []) (st' := [.int (0 : Int32)]) (σ' := σ) hM 0 rfl ?_
  refine Pl.weak (Pl.ret hM rfl rfl h)
set_option maxRecDepth 100000 in
theorem p_111_107 {n d : Nat} {Q : Option Value → Sg → Prop} (σ : Sg) (h : Q (some (.int (1 : Int32))) σ) : Pl PRG (n + 1) d 111 107 [] [] σ Q := by
  have hM : PRG[111]? = some M_111 := rfl
  refine Pl.sg1 (pc' := 108) (ls' := []) (st' := [.int (1 : Int32)]) (σ' := σ) hM 0 rfl ?_
  refine Pl.weak (Pl.ret hM rfl rfl h)
def LV_112 : List (Nat × List Nat) := [(0, [0]), (1, [0]), (2, [0, 1]), (3, [0, 1]), (6, [0, 1]), (7, [0, 1, 2]), (8, [0, 1, 2]), (9, [0, 1, 2, 3]), (10, [0, 1, 2, 3]), (13, [0, 1, 2, 3]), (16, [0, 1, 2, 3]), (17, [0, 1, 2, 3]), (20, [0, 1, 2, 3]), (21, [0, 1, 2, 3]), (24, [0, 1, 2, 3]), (26, [0, 1, 2, 3]), (29, [0, 1, 2, 3]), (30, [0, 1, 2, 3]), (33, [0, 1, 2, 3]), (35, [0, 1, 2, 3]), (38, [0, 1, 3]), (39, [0, 1, 3]), (42, [0, 1, 3]), (44, [0, 1, 3]), (47, [0, 1, 3]), (48, [0, 1, 3]), (51, [0, 1, 3]), (52, [0, 1, 3]), (54, [0, 1, 3, 4]), (56, [0, 1, 3, 4]), (59, [0, 1, 3, 4]), (60, [0, 1, 3, 4]), (63, [0, 1, 3, 4]), (64, [0, 1, 3, 4]), (66, [0, 1, 3, 4]), (67, [0, 1, 3, 4]), (70, [0, 1, 3, 4]), (71, [0, 1, 3, 4]), (72, [0, 1, 3, 4]), (75, [0, 1, 3, 4]), (78, [0, 1, 3, 4]), (81, [0, 1, 3, 4]), (82, [0, 1, 3, 4]), (85, [0, 1, 3, 4]), (88, [0, 1, 3, 4]), (89, [0, 1, 3, 4]), (92, [0, 1, 3, 4]), (93, [0, 1, 3, 4]), (94, [0, 1, 2, 3, 4]), (96, [0, 1, 2, 3]), (99, [0, 1, 2, 3]), (100, [0, 1, 2, 3]), (102, [0, 1, 2, 3]), (103, [0, 1, 2, 3]), (106, [0, 1, 2, 3]), (109, [0, 2, 3]), (110, [0, 2, 3]), (111, [0, 1, 2, 3]), (114, [0, 1, 2, 3]), (117, [0, 1, 2]), (118, [0, 2]), (121, [0, 2]), (122, [2]), (124, [2]), (125, [2]), (128, [2]), (129, [])]
set_option maxRecDepth 100000 in
theorem lv_112 : chkLv M_112 LV_112 = true := by decide +kernel
set_option maxRecDepth 100000 in
theorem lva_112_9 : lvA LV_112 9 = [0, 1, 2, 3] := by decide +kernel
set_option maxRecDepth 100000 in
theorem lva_112_38 : lvA LV_112 38 = [0, 1, 3] := by decide +kernel
set_option maxRecDepth 100000 in
theorem lva_112_70 : lvA LV_112 70 = [0, 1, 3, 4] := by decide +kernel
set_option maxRecDepth 100000 in
theorem lva_112_92 : lvA LV_112 92 = [0, 1, 3, 4] := by decide +kernel
set_option maxRecDepth 100000 in
theorem lva_112_111 : lvA LV_112 111 = [0, 1, 2, 3] := by decide +kernel
set_option maxRecDepth 100000 in
theorem lva_112_117 : lvA LV_112 117 = [0, 1, 2] := by decide +kernel
set_option maxRecDepth 100000 in
theorem lva_112_128 : lvA LV_112 128 = [2] := by decide +kernel
set_option maxRecDepth 100000 in
theorem p_112_0 {n d : Nat} {Q : Option Value → Sg → Prop} (σ : Sg) (h : (∀ w2 σ1, RCx PRG n 111 [.ref 15] σ (some (.int w2)) σ1 → (w2 = 0 ∨ w2 = 1) → Pl PRG n d 112 9 [(0, .ref 15), (1, .int (0 : Int32)), (2, .int w2), (3, .int (0 : Int32))] [] σ1 Q)) : Pl PRG (n + 1) d 112 0 [(0, .ref 15)] [] σ Q := by
  have hM : PRG[112]? = some M_112 := rfl
  refine Pl.sg1 (pc' := 3) (ls' := [(1, .int (0 : Int32)), (0, .ref 15)]) (st' := [.ref 15]) (σ' := σ) hM 2 rfl ?_
  refine Pl.weak (Pl.cZ hM rfl rfl (by decide) (Mj := M_111) rfl rfl (fun w2 σ1 hw hz => ?_))
  replace h := h w2 σ1 hw hz
  refine Pl.seg (pc' := 9) (ls' := [(3, .int (0 : Int32)), (2, .int w2), (1, .int (0 : Int32)), (0, .ref 15)]) (st' := []) (σ' := σ1) hM 3 rfl ?_
  exact Pl.live (l' := [(0, .ref 15), (1, .int (0 : Int32)), (2, .int w2), (3, .int (0 : Int32))]) hM lv_112 ⟨show ndL _ from (by decide : List.Nodup ([3, 2, 1, 0] : List Nat)), show ndL _ from (by decide : List.Nodup ([0, 1, 2, 3] : List Nat)), by rw [lva_112_9]; exact List.forall_mem_cons.mpr ⟨rfl, List.forall_mem_cons.mpr ⟨rfl, List.forall_mem_cons.mpr ⟨rfl, List.forall_mem_cons.mpr ⟨rfl, fun _ h => absurd h List.not_mem_nil⟩⟩⟩⟩⟩ h
set_option maxRecDepth 100000 in
theorem p_112_9 {n d : Nat} {Q : Option Value → Sg → Prop} (σ : Sg) (x1 x2 x3 : Int32) (h : (((400 : Int32) ≤ x3 → Pl PRG n d 112 117 [(0, .ref 15), (1, .int x1), (2, .int x2)] [] σ Q) ∧ (¬ (400 : Int32) ≤ x3 → ((x2 = 0 → Pl PRG n d 112 117 [(0, .ref 15), (1, .int x1), (2, .int x2)] [] σ Q) ∧ (¬ x2 = 0 → (((σ.1 15 5) = (24 : Int32) → Pl PRG n d 112 38 [(0, .ref 15), (1, .int x1), (3, .int x3)] [] σ Q) ∧ (¬ (σ.1 15 5) = (24 : Int32) → (((σ.1 15 5) = (23 : Int32) → Pl PRG n d 112 38 [(0, .ref 15), (1, .int x1), (3, .int x3)] [] σ Q) ∧ (¬ (σ.1 15 5) = (23 : Int32) → Pl PRG n d 112 117 [(0, .ref 15), (1, .int x1), (2, .int x2)] [] σ Q))))))))) : Pl PRG (n + 1) d 112 9 [(0, .ref 15), (1, .int x1), (2, .int x2), (3, .int x3)] [] σ Q := by
  have hM : PRG[112]? = some M_112 := rfl
  refine Pl.br1 (c := (400 : Int32) ≤ x3) (a := 117) (b := 16) (ls' := [(0, .ref 15), (1, .int x1), (2, .int x2), (3, .int x3)]) (st' := []) (σ' := σ) hM 2 rfl (fun c => ?_) (fun c => ?_)
  · replace h := h.1 c
    exact Pl.live (l' := [(0, .ref 15), (1, .int x1), (2, .int x2)]) hM lv_112 ⟨show ndL _ from (by decide : List.Nodup ([0, 1, 2, 3] : List Nat)), show ndL _ from (by decide : List.Nodup ([0, 1, 2] : List Nat)), by rw [lva_112_117]; exact List.forall_mem_cons.mpr ⟨rfl, List.forall_mem_cons.mpr ⟨rfl, List.forall_mem_cons.mpr ⟨rfl, fun _ h => absurd h List.not_mem_nil⟩⟩⟩⟩ h
  · replace h := h.2 c
    refine Pl.br (c := x2 = 0) (a := 117) (b := 20) (ls' := [(0, .ref 15), (1, .int x1), (2, .int x2), (3, .int x3)]) (st' := []) (σ' := σ) hM 2 rfl (fun c => ?_) (fun c => ?_)
    · replace h := h.1 c
      exact Pl.live (l' := [(0, .ref 15), (1, .int x1), (2, .int x2)]) hM lv_112 ⟨show ndL _ from (by decide : List.Nodup ([0, 1, 2, 3] : List Nat)), show ndL _ from (by decide : List.Nodup ([0, 1, 2] : List Nat)), by rw [lva_112_117]; exact List.forall_mem_cons.mpr ⟨rfl, List.forall_mem_cons.mpr ⟨rfl, List.forall_mem_cons.mpr ⟨rfl, fun _ h => absurd h List.not_mem_nil⟩⟩⟩⟩ h
    · replace h := h.2 c
      refine Pl.br (c := (σ.1 15 5) = (24 : Int32)) (a := 38) (b := 29) (ls' := [(0, .ref 15), (1, .int x1), (2, .int x2), (3, .int x3)]) (st' := []) (σ' := σ) hM 4 rfl (fun c => ?_) (fun c => ?_)
      · replace h := h.1 c
        exact Pl.live (l' := [(0, .ref 15), (1, .int x1), (3, .int x3)]) hM lv_112 ⟨show ndL _ from (by decide : List.Nodup ([0, 1, 2, 3] : List Nat)), show ndL _ from (by decide : List.Nodup ([0, 1, 3] : List Nat)), by rw [lva_112_38]; exact List.forall_mem_cons.mpr ⟨rfl, List.forall_mem_cons.mpr ⟨rfl, List.forall_mem_cons.mpr ⟨rfl, fun _ h => absurd h List.not_mem_nil⟩⟩⟩⟩ h
      · replace h := h.2 c
        refine Pl.brN (c := (σ.1 15 5) = (23 : Int32)) (a := 117) (b := 38) (ls' := [(0, .ref 15), (1, .int x1), (2, .int x2), (3, .int x3)]) (st' := []) (σ' := σ) hM 4 rfl (fun c => ?_) (fun c => ?_)
        · replace h := h.2 c
          exact Pl.live (l' := [(0, .ref 15), (1, .int x1), (2, .int x2)]) hM lv_112 ⟨show ndL _ from (by decide : List.Nodup ([0, 1, 2, 3] : List Nat)), show ndL _ from (by decide : List.Nodup ([0, 1, 2] : List Nat)), by rw [lva_112_117]; exact List.forall_mem_cons.mpr ⟨rfl, List.forall_mem_cons.mpr ⟨rfl, List.forall_mem_cons.mpr ⟨rfl, fun _ h => absurd h List.not_mem_nil⟩⟩⟩⟩ h
        · replace h := h.1 c
          exact Pl.live (l' := [(0, .ref 15), (1, .int x1), (3, .int x3)]) hM lv_112 ⟨show ndL _ from (by decide : List.Nodup ([0, 1, 2, 3] : List Nat)), show ndL _ from (by decide : List.Nodup ([0, 1, 3] : List Nat)), by rw [lva_112_38]; exact List.forall_mem_cons.mpr ⟨rfl, List.forall_mem_cons.mpr ⟨rfl, List.forall_mem_cons.mpr ⟨rfl, fun _ h => absurd h List.not_mem_nil⟩⟩⟩⟩ h
set_option maxRecDepth 100000 in
theorem p_112_117 {n d : Nat} {Q : Option Value → Sg → Prop} (σ : Sg) (x1 x2 : Int32) (h : ((x1 = 0 → Pl PRG n d 112 128 [(2, .int x2)] [] σ Q) ∧ (¬ x1 = 0 → (∀ σ1, RCx PRG n 108 [.ref 15, .int (23 : Int32), .int (0 : Int32)] σ none σ1 → Pl PRG n d 112 128 [(2, .int x2)] [] σ1 Q)))) : Pl PRG (n + 1) d 112 117 [(0, .ref 15), (1, .int x1), (2, .int x2)] [] σ Q := by
  have hM : PRG[112]? = some M_112 := rfl
  refine Pl.br1 (c := x1 = 0) (a := 128) (b := 121) (ls' := [(0, .ref 15), (1, .int x1), (2, .int x2)]) (st' := []) (σ' := σ) hM 1 rfl (fun c => ?_) (fun c => ?_)
  · replace h := h.1 c
    exact Pl.live (l' := [(2, .int x2)]) hM lv_112 ⟨show ndL _ from (by decide : List.Nodup ([0, 1, 2] : List Nat)), show ndL _ from (by decide : List.Nodup ([2] : List Nat)), by rw [lva_112_128]; exact List.forall_mem_cons.mpr ⟨rfl, fun _ h => absurd h List.not_mem_nil⟩⟩ h
  · replace h := h.2 c
    refine Pl.seg (pc' := 125) (ls' := [(0, .ref 15), (1, .int x1), (2, .int x2)]) (st' := [.int (0 : Int32), .int (23 : Int32), .ref 15]) (σ' := σ) hM 3 rfl ?_
    refine Pl.weak (Pl.cV hM rfl rfl (by decide) (Mj := M_108) rfl rfl (fun σ1 hw => ?_))
    replace h := h σ1 hw
    exact Pl.live (l' := [(2, .int x2)]) hM lv_112 ⟨show ndL _ from (by decide : List.Nodup ([0, 1, 2] : List Nat)), show ndL _ from (by decide : List.Nodup ([2] : List Nat)), by rw [lva_112_128]; exact List.forall_mem_cons.mpr ⟨rfl, fun _ h => absurd h List.not_mem_nil⟩⟩ h
set_option maxRecDepth 100000 in
theorem p_112_38 {n d : Nat} {Q : Option Value → Sg → Prop} (σ : Sg) (x1 x3 : Int32) (h : (((σ.1 15 5) = (24 : Int32) → Pl PRG n d 112 70 [(0, .ref 15), (1, .int x1), (3, .int x3), (4, .int (1 : Int32))] [] σ Q) ∧ (¬ (σ.1 15 5) = (24 : Int32) → ((x1 = 0 → Pl PRG n d 112 70 [(0, .ref 15), (1, .int x1), (3, .int x3), (4, .int (0 : Int32))] [] σ Q) ∧ (¬ x1 = 0 → (∀ σ1, RCx PRG n 108 [.ref 15, .int (23 : Int32), .int (0 : Int32)] σ none σ1 → Pl PRG n d 112 70 [(0, .ref 15), (1, .int x1), (3, .int x3), (4, .int (0 : Int32))] [] σ1 Q)))))) : Pl PRG (n + 1) d 112 38 [(0, .ref 15), (1, .int x1), (3, .int x3)] [] σ Q := by
  have hM : PRG[112]? = some M_112 := rfl
  refine Pl.brN1 (c := (σ.1 15 5) = (24 : Int32)) (a := 51) (b := 47) (ls' := [(0, .ref 15), (1, .int x1), (3, .int x3)]) (st' := []) (σ' := σ) hM 3 rfl (fun c => ?_) (fun c => ?_)
  · replace h := h.2 c
    refine Pl.br (c := x1 = 0) (a := 70) (b := 63) (ls' := [(4, .int (0 : Int32)), (0, .ref 15), (1, .int x1), (3, .int x3)]) (st' := []) (σ' := σ) hM 6 rfl (fun c => ?_) (fun c => ?_)
    · replace h := h.1 c
      exact Pl.live (l' := [(0, .ref 15), (1, .int x1), (3, .int x3), (4, .int (0 : Int32))]) hM lv_112 ⟨show ndL _ from (by decide : List.Nodup ([4, 0, 1, 3] : List Nat)), show ndL _ from (by decide : List.Nodup ([0, 1, 3, 4] : List Nat)), by rw [lva_112_70]; exact List.forall_mem_cons.mpr ⟨rfl, List.forall_mem_cons.mpr ⟨rfl, List.forall_mem_cons.mpr ⟨rfl, List.forall_mem_cons.mpr ⟨rfl, fun _ h => absurd h List.not_mem_nil⟩⟩⟩⟩⟩ h
    · replace h := h.2 c
      refine Pl.seg (pc' := 67) (ls' := [(4, .int (0 : Int32)), (0, .ref 15), (1, .int x1), (3, .int x3)]) (st' := [.int (0 : Int32), .int (23 : Int32), .ref 15]) (σ' := σ) hM 3 rfl ?_
      refine Pl.weak (Pl.cV hM rfl rfl (by decide) (Mj := M_108) rfl rfl (fun σ1 hw => ?_))
      replace h := h σ1 hw
      exact Pl.live (l' := [(0, .ref 15), (1, .int x1), (3, .int x3), (4, .int (0 : Int32))]) hM lv_112 ⟨show ndL _ from (by decide : List.Nodup ([4, 0, 1, 3] : List Nat)), show ndL _ from (by decide : List.Nodup ([0, 1, 3, 4] : List Nat)), by rw [lva_112_70]; exact List.forall_mem_cons.mpr ⟨rfl, List.forall_mem_cons.mpr ⟨rfl, List.forall_mem_cons.mpr ⟨rfl, List.forall_mem_cons.mpr ⟨rfl, fun _ h => absurd h List.not_mem_nil⟩⟩⟩⟩⟩ h
  · replace h := h.1 c
    refine Pl.seg (pc' := 70) (ls' := [(4, .int (1 : Int32)), (0, .ref 15), (1, .int x1), (3, .int x3)]) (st' := []) (σ' := σ) hM 5 rfl ?_
    exact Pl.live (l' := [(0, .ref 15), (1, .int x1), (3, .int x3), (4, .int (1 : Int32))]) hM lv_112 ⟨show ndL _ from (by decide : List.Nodup ([4, 0, 1, 3] : List Nat)), show ndL _ from (by decide : List.Nodup ([0, 1, 3, 4] : List Nat)), by rw [lva_112_70]; exact List.forall_mem_cons.mpr ⟨rfl, List.forall_mem_cons.mpr ⟨rfl, List.forall_mem_cons.mpr ⟨rfl, List.forall_mem_cons.mpr ⟨rfl, fun _ h => absurd h List.not_mem_nil⟩⟩⟩⟩⟩ h
set_option maxRecDepth 100000 in
theorem p_112_128 {n d : Nat} {Q : Option Value → Sg → Prop} (σ : Sg) (x2 : Int32) (h : ((x2 = 0 ∨ x2 = 1) → Q (some (.int x2)) σ)) : Pl PRG (n + 1) d 112 128 [(2, .int x2)] [] σ Q := by
  have hM : PRG[112]? = some M_112 := rfl
  refine Pl.sg1 (pc' := 129) (ls' := [(2, .int x2)]) (st' := [.int x2]) (σ' := σ) hM 0 rfl ?_
  refine Pl.weak (Pl.retZ hM rfl rfl h)
set_option maxRecDepth 100000 in
theorem p_112_70 {n d : Nat} {Q : Option Value → Sg → Prop} (σ : Sg) (x1 x3 x4 : Int32) (h : (∀ w2 σ1, RCx PRG n 101 [.ref 15, .int (σ.1 15 5)] σ (some (.int w2)) σ1 → (w2 = 0 ∨ w2 = 1) → ((w2 = 0 → Pl PRG n d 112 92 [(0, .ref 15), (1, .int x1), (3, .int x3), (4, .int x4)] [] σ1 Q) ∧ (¬ w2 = 0 → (∀ w4 σ3, RCx PRG n 111 [.ref 15] σ1 (some (.int w4)) σ3 → (w4 = 0 ∨ w4 = 1) → ((w4 = 0 → Pl PRG n d 112 92 [(0, .ref 15), (1, .int x1), (3, .int x3), (4, .int x4)] [] σ3 Q) ∧ (¬ w4 = 0 → ((x4 = 0 → Pl PRG n d 112 111 [(0, .ref 15), (1, .int (1 : Int32)), (2, .int (1 : Int32)), (3, .int x3)] [] σ3 Q) ∧ (¬ x4 = 0 → (∀ σ5, RCx PRG n 108 [.ref 15, .int (24 : Int32), .int (0 : Int32)] σ3 none σ5 → Pl PRG n d 112 111 [(0, .ref 15), (1, .int x1), (2, .int (1 : Int32)), (3, .int x3)] [] σ5 Q)))))))))) : Pl PRG (n + 1) d 112 70 [(0, .ref 15), (1, .int x1), (3, .int x3), (4, .int x4)] [] σ Q := by
  have hM : PRG[112]? = some M_112 := rfl
  refine Pl.sg1 (pc' := 75) (ls' := [(0, .ref 15), (1, .int x1), (3, .int x3), (4, .int x4)]) (st' := [.int (σ.1 15 5), .ref 15]) (σ' := σ) hM 2 rfl ?_
  refine Pl.weak (Pl.cZ hM rfl rfl (by decide) (Mj := M_101) rfl rfl (fun w2 σ1 hw hz => ?_))
  replace h := h w2 σ1 hw hz
  refine Pl.br (c := w2 = 0) (a := 92) (b := 81) (ls' := [(0, .ref 15), (1, .int x1), (3, .int x3), (4, .int x4)]) (st' := []) (σ' := σ1) hM 1 rfl (fun c => ?_) (fun c => ?_)
  · replace h := h.1 c
    exact Pl.live (l' := [(0, .ref 15), (1, .int x1), (3, .int x3), (4, .int x4)]) hM lv_112 ⟨show ndL _ from (by decide : List.Nodup ([0, 1, 3, 4] : List Nat)), show ndL _ from (by decide : List.Nodup ([0, 1, 3, 4] : List Nat)), by rw [lva_112_92]; exact List.forall_mem_cons.mpr ⟨rfl, List.forall_mem_cons.mpr ⟨rfl, List.forall_mem_cons.mpr ⟨rfl, List.forall_mem_cons.mpr ⟨rfl, fun _ h => absurd h List.not_mem_nil⟩⟩⟩⟩⟩ h
  · replace h := h.2 c
    refine Pl.seg (pc' := 82) (ls' := [(0, .ref 15), (1, .int x1), (3, .int x3), (4, .int x4)]) (st' := [.ref 15]) (σ' := σ1) hM 1 rfl ?_
    refine Pl.weak (Pl.cZ hM rfl rfl (by decide) (Mj := M_111) rfl rfl (fun w4 σ3 hw hz => ?_))
    replace h := h w4 σ3 hw hz
    refine Pl.br (c := w4 = 0) (a := 92) (b := 88) (ls' := [(0, .ref 15), (1, .int x1), (3, .int x3), (4, .int x4)]) (st' := []) (σ' := σ3) hM 1 rfl (fun c => ?_) (fun c => ?_)
    · replace h := h.1 c
      exact Pl.live (l' := [(0, .ref 15), (1, .int x1), (3, .int x3), (4, .int x4)]) hM lv_112 ⟨show ndL _ from (by decide : List.Nodup ([0, 1, 3, 4] : List Nat)), show ndL _ from (by decide : List.Nodup ([0, 1, 3, 4] : List Nat)), by rw [lva_112_92]; exact List.forall_mem_cons.mpr ⟨rfl, List.forall_mem_cons.mpr ⟨rfl, List.forall_mem_cons.mpr ⟨rfl, List.forall_mem_cons.mpr ⟨rfl, fun _ h => absurd h List.not_mem_nil⟩⟩⟩⟩⟩ h
    · replace h := h.2 c
      refine Pl.br (c := x4 = 0) (a := 109) (b := 99) (ls' := [(2, .int (1 : Int32)), (0, .ref 15), (1, .int x1), (3, .int x3), (4, .int x4)]) (st' := []) (σ' := σ3) hM 5 rfl (fun c => ?_) (fun c => ?_)
      · replace h := h.1 c
        refine Pl.seg (pc' := 111) (ls' := [(1, .int (1 : Int32)), (2, .int (1 : Int32)), (0, .ref 15), (3, .int x3), (4, .int x4)]) (st' := []) (σ' := σ3) hM 2 rfl ?_
        exact Pl.live (l' := [(0, .ref 15), (1, .int (1 : Int32)), (2, .int (1 : Int32)), (3, .int x3)]) hM lv_112 ⟨show ndL _ from (by decide : List.Nodup ([1, 2, 0, 3, 4] : List Nat)), show ndL _ from (by decide : List.Nodup ([0, 1, 2, 3] : List Nat)), by rw [lva_112_111]; exact List.forall_mem_cons.mpr ⟨rfl, List.forall_mem_cons.mpr ⟨rfl, List.forall_mem_cons.mpr ⟨rfl, List.forall_mem_cons.mpr ⟨rfl, fun _ h => absurd h List.not_mem_nil⟩⟩⟩⟩⟩ h
      · replace h := h.2 c
        refine Pl.seg (pc' := 103) (ls' := [(2, .int (1 : Int32)), (0, .ref 15), (1, .int x1), (3, .int x3), (4, .int x4)]) (st' := [.int (0 : Int32), .int (24 : Int32), .ref 15]) (σ' := σ3) hM 3 rfl ?_
        refine Pl.weak (Pl.cV hM rfl rfl (by decide) (Mj := M_108) rfl rfl (fun σ5 hw => ?_))
        replace h := h σ5 hw
        refine Pl.seg (pc' := 111) (ls' := [(2, .int (1 : Int32)), (0, .ref 15), (1, .int x1), (3, .int x3), (4, .int x4)]) (st' := []) (σ' := σ5) hM 1 rfl ?_
        exact Pl.live (l' := [(0, .ref 15), (1, .int x1), (2, .int (1 : Int32)), (3, .int x3)]) hM lv_112 ⟨show ndL _ from (by decide : List.Nodup ([2, 0, 1, 3, 4] : List Nat)), show ndL _ from (by decide : List.Nodup ([0, 1, 2, 3] : List Nat)), by rw [lva_112_111]; exact List.forall_mem_cons.mpr ⟨rfl, List.forall_mem_cons.mpr ⟨rfl, List.forall_mem_cons.mpr ⟨rfl, List.forall_mem_cons.mpr ⟨rfl, fun _ h => absurd h List.not_mem_nil⟩⟩⟩⟩⟩ h
set_option maxRecDepth 100000 in
theorem p_112_92 {n d : Nat} {Q : Option Value → Sg → Prop} (σ : Sg) (x1 x3 x4 : Int32) (h : ((x4 = 0 → Pl PRG n d 112 111 [(0, .ref 15), (1, .int (1 : Int32)), (2, .int (0 : Int32)), (3, .int x3)] [] σ Q) ∧ (¬ x4 = 0 → (∀ σ1, RCx PRG n 108 [.ref 15, .int (24 : Int32), .int (0 : Int32)] σ none σ1 → Pl PRG n d 112 111 [(0, .ref 15), (1, .int x1), (2, .int (0 : Int32)), (3, .int x3)] [] σ1 Q)))) : Pl PRG (n + 1) d 112 92 [(0, .ref 15), (1, .int x1), (3, .int x3), (4, .int x4)] [] σ Q := by
  have hM : PRG[112]? = some M_112 := rfl
  refine Pl.br1 (c := x4 = 0) (a := 109) (b := 99) (ls' := [(2, .int (0 : Int32)), (0, .ref 15), (1, .int x1), (3, .int x3), (4, .int x4)]) (st' := []) (σ' := σ) hM 3 rfl (fun c => ?_) (fun c => ?_)
  · replace h := h.1 c
    refine Pl.seg (pc' := 111) (ls' := [(1, .int (1 : Int32)), (2, .int (0 : Int32)), (0, .ref 15), (3, .int x3), (4, .int x4)]) (st' := []) (σ' := σ) hM 2 rfl ?_
    exact Pl.live (l' := [(0, .ref 15), (1, .int (1 : Int32)), (2, .int (0 : Int32)), (3, .int x3)]) hM lv_112 ⟨show ndL _ from (by decide : List.Nodup ([1, 2, 0, 3, 4] : List Nat)), show ndL _ from (by decide : List.Nodup ([0, 1, 2, 3] : List Nat)), by rw [lva_112_111]; exact List.forall_mem_cons.mpr ⟨rfl, List.forall_mem_cons.mpr ⟨rfl, List.forall_mem_cons.mpr ⟨rfl, List.forall_mem_cons.mpr ⟨rfl, fun _ h => absurd h List.not_mem_nil⟩⟩⟩⟩⟩ h
  · replace h := h.2 c
    refine Pl.seg (pc' := 103) (ls' := [(2, .int (0 : Int32)), (0, .ref 15), (1, .int x1), (3, .int x3), (4, .int x4)]) (st' := [.int (0 : Int32), .int (24 : Int32), .ref 15]) (σ' := σ) hM 3 rfl ?_
    refine Pl.weak (Pl.cV hM rfl rfl (by decide) (Mj := M_108) rfl rfl (fun σ1 hw => ?_))
    replace h := h σ1 hw
    refine Pl.seg (pc' := 111) (ls' := [(2, .int (0 : Int32)), (0, .ref 15), (1, .int x1), (3, .int x3), (4, .int x4)]) (st' := []) (σ' := σ1) hM 1 rfl ?_
    exact Pl.live (l' := [(0, .ref 15), (1, .int x1), (2, .int (0 : Int32)), (3, .int x3)]) hM lv_112 ⟨show ndL _ from (by decide : List.Nodup ([2, 0, 1, 3, 4] : List Nat)), show ndL _ from (by decide : List.Nodup ([0, 1, 2, 3] : List Nat)), by rw [lva_112_111]; exact List.forall_mem_cons.mpr ⟨rfl, List.forall_mem_cons.mpr ⟨rfl, List.forall_mem_cons.mpr ⟨rfl, List.forall_mem_cons.mpr ⟨rfl, fun _ h => absurd h List.not_mem_nil⟩⟩⟩⟩⟩ h
set_option maxRecDepth 100000 in
theorem p_112_111 {n d : Nat} {Q : Option Value → Sg → Prop} (σ : Sg) (x1 x2 x3 : Int32) (h : Pl PRG n d 112 9 [(0, .ref 15), (1, .int x1), (2, .int x2), (3, .int (x3 + (1 : Int32)))] [] σ Q) : Pl PRG (n + 1) d 112 111 [(0, .ref 15), (1, .int x1), (2, .int x2), (3, .int x3)] [] σ Q := by
  have hM : PRG[112]? = some M_112 := rfl
  refine Pl.sg1 (pc' := 9) (ls' := [(3, .int (x3 + (1 : Int32))), (0, .ref 15), (1, .int x1), (2, .int x2)]) (st' := []) (σ' := σ) hM 1 rfl ?_
  exact Pl.live (l' := [(0, .ref 15), (1, .int x1), (2, .int x2), (3, .int (x3 + (1 : Int32)))]) hM lv_112 ⟨show ndL _ from (by decide : List.Nodup ([3, 0, 1, 2] : List Nat)), show ndL _ from (by decide : List.Nodup ([0, 1, 2, 3] : List Nat)), by rw [lva_112_9]; exact List.forall_mem_cons.mpr ⟨rfl, List.forall_mem_cons.mpr ⟨rfl, List.forall_mem_cons.mpr ⟨rfl, List.forall_mem_cons.mpr ⟨rfl, fun _ h => absurd h List.not_mem_nil⟩⟩⟩⟩⟩ h
set_option maxRecDepth 100000 in
theorem p_73_0 {n d : Nat} {Q : Option Value → Sg → Prop} (σ : Sg) (x1 x2 x3 x4 : Int32) (h : (((6 : Int32) ≤ (σ.1 3 3) → Q none σ) ∧ (¬ (6 : Int32) ≤ (σ.1 3 3) → (inR (σ.1 3 3) 6 = true → (inR (σ.1 3 3) 6 = true → (inR (((2 : Int32) * (σ.1 3 3)) + (0 : Int32)) 12 = true → (inR (((2 : Int32) * (σ.1 3 3)) + (0 : Int32)) 12 = true → (inR (((2 : Int32) * (σ.1 3 3)) + (1 : Int32)) 12 = true → (inR (((2 : Int32) * (σ.1 3 3)) + (1 : Int32)) 12 = true → Q none (s1 (s1 (s1 (s1 (s1 (s1 (s1 σ 4 (σ.1 3 3).toNatClampNeg x1) 5 (σ.1 3 3).toNatClampNeg x2) 6 (((2 : Int32) * (σ.1 3 3)) + (0 : Int32)).toNatClampNeg x3) 7 (((2 : Int32) * (σ.1 3 3)) + (0 : Int32)).toNatClampNeg x4) 6 (((2 : Int32) * (σ.1 3 3)) + (1 : Int32)).toNatClampNeg x4) 7 (((2 : Int32) * (σ.1 3 3)) + (1 : Int32)).toNatClampNeg (σ.1 3 9)) 3 3 ((σ.1 3 3) + (1 : Int32)))))))))))) : Pl PRG (n + 1) d 73 0 [(0, .ref 3), (1, .int x1), (2, .int x2), (3, .int x3), (4, .int x4)] [] σ Q := by
  have hM : PRG[73]? = some M_73 := rfl
  refine Pl.br1 (c := (6 : Int32) ≤ (σ.1 3 3)) (a := 100) (b := 9) (ls' := [(0, .ref 3), (1, .int x1), (2, .int x2), (3, .int x3), (4, .int x4)]) (st' := []) (σ' := σ) hM 3 rfl (fun c => ?_) (fun c => ?_)
  · replace h := h.1 c
    refine Pl.weak (Pl.ret hM rfl rfl h)
  · replace h := h.2 c
    refine Pl.seg (pc' := 18) (ls' := [(0, .ref 3), (1, .int x1), (2, .int x2), (3, .int x3), (4, .int x4)]) (st' := [.int x1, .int (σ.1 3 3), .ref 4]) (σ' := σ) hM 5 rfl ?_
    refine Pl.weak (Pl.iast hM rfl rfl (fun hi => ?_))
    replace h := h hi
    refine Pl.seg (pc' := 28) (ls' := [(0, .ref 3), (1, .int x1), (2, .int x2), (3, .int x3), (4, .int x4)]) (st' := [.int x2, .int (σ.1 3 3), .ref 5]) (σ' := (s1 σ 4 (σ.1 3 3).toNatClampNeg x1)) hM 5 rfl ?_
    refine Pl.weak (Pl.iast hM rfl rfl (fun hi => ?_))
    replace h := h hi
    refine Pl.seg (pc' := 42) (ls' := [(0, .ref 3), (1, .int x1), (2, .int x2), (3, .int x3), (4, .int x4)]) (st' := [.int x3, .int (((2 : Int32) * (σ.1 3 3)) + (0 : Int32)), .ref 6]) (σ' := (s1 (s1 σ 4 (σ.1 3 3).toNatClampNeg x1) 5 (σ.1 3 3).toNatClampNeg x2)) hM 9 rfl ?_
    refine Pl.weak (Pl.iast hM rfl rfl (fun hi => ?_))
    replace h := h hi
    refine Pl.seg (pc' := 57) (ls' := [(0, .ref 3), (1, .int x1), (2, .int x2), (3, .int x3), (4, .int x4)]) (st' := [.int x4, .int (((2 : Int32) * (σ.1 3 3)) + (0 : Int32)), .ref 7]) (σ' := (s1 (s1 (s1 σ 4 (σ.1 3 3).toNatClampNeg x1) 5 (σ.1 3 3).toNatClampNeg x2) 6 (((2 : Int32) * (σ.1 3 3)) + (0 : Int32)).toNatClampNeg x3)) hM 9 rfl ?_
    refine Pl.weak (Pl.iast hM rfl rfl (fun hi => ?_))
    replace h := h hi
    refine Pl.seg (pc' := 72) (ls' := [(0, .ref 3), (1, .int x1), (2, .int x2), (3, .int x3), (4, .int x4)]) (st' := [.int x4, .int (((2 : Int32) * (σ.1 3 3)) + (1 : Int32)), .ref 6]) (σ' := (s1 (s1 (s1 (s1 σ 4 (σ.1 3 3).toNatClampNeg x1) 5 (σ.1 3 3).toNatClampNeg x2) 6 (((2 : Int32) * (σ.1 3 3)) + (0 : Int32)).toNatClampNeg x3) 7 (((2 : Int32) * (σ.1 3 3)) + (0 : Int32)).toNatClampNeg x4)) hM 9 rfl ?_
    refine Pl.weak (Pl.iast hM rfl rfl (fun hi => ?_))
    replace h := h hi
    refine Pl.seg (pc' := 89) (ls' := [(0, .ref 3), (1, .int x1), (2, .int x2), (3, .int x3), (4, .int x4)]) (st' := [.int (σ.1 3 9), .int (((2 : Int32) * (σ.1 3 3)) + (1 : Int32)), .ref 7]) (σ' := (s1 (s1 (s1 (s1 (s1 σ 4 (σ.1 3 3).toNatClampNeg x1) 5 (σ.1 3 3).toNatClampNeg x2) 6 (((2 : Int32) * (σ.1 3 3)) + (0 : Int32)).toNatClampNeg x3) 7 (((2 : Int32) * (σ.1 3 3)) + (0 : Int32)).toNatClampNeg x4) 6 (((2 : Int32) * (σ.1 3 3)) + (1 : Int32)).toNatClampNeg x4)) hM 10 rfl ?_
    refine Pl.weak (Pl.iast hM rfl rfl (fun hi => ?_))
    replace h := h hi
    refine Pl.seg (pc' := 100) (ls' := [(0, .ref 3), (1, .int x1), (2, .int x2), (3, .int x3), (4, .int x4)]) (st' := []) (σ' := (s1 (s1 (s1 (s1 (s1 (s1 (s1 σ 4 (σ.1 3 3).toNatClampNeg x1) 5 (σ.1 3 3).toNatClampNeg x2) 6 (((2 : Int32) * (σ.1 3 3)) + (0 : Int32)).toNatClampNeg x3) 7 (((2 : Int32) * (σ.1 3 3)) + (0 : Int32)).toNatClampNeg x4) 6 (((2 : Int32) * (σ.1 3 3)) + (1 : Int32)).toNatClampNeg x4) 7 (((2 : Int32) * (σ.1 3 3)) + (1 : Int32)).toNatClampNeg (σ.1 3 9)) 3 3 ((σ.1 3 3) + (1 : Int32)))) hM 6 rfl ?_
    refine Pl.weak (Pl.ret hM rfl rfl h)
def LV_113 : List (Nat × List Nat) := [(0, [0]), (1, [0]), (4, [0]), (7, [0]), (8, [0]), (9, [0]), (10, [0]), (13, [0]), (16, [0]), (17, [0]), (18, [0, 1]), (19, [0, 1]), (22, []), (23, [0, 1]), (24, [0, 1]), (25, [0, 1]), (26, [0, 1]), (29, [0, 1]), (31, [0, 1]), (32, [0, 1]), (35, [0, 1]), (38, [0, 1]), (39, [0, 1, 2]), (40, [0, 1, 2]), (42, [0, 1, 2]), (43, [0, 1, 2]), (44, [0, 1, 2]), (47, [0, 1, 2]), (50, []), (51, [0, 1, 2]), (52, [0, 1, 2]), (55, [0, 1, 2]), (58, [0, 1, 2]), (59, [0, 1, 2, 3]), (60, [0, 1, 2, 3]), (63, [0, 1, 2, 3]), (65, [0, 1, 2, 3]), (68, [0, 1, 2, 3]), (69, [0, 1, 2, 3]), (71, [0, 1, 2, 3]), (74, [0, 1, 2, 3]), (77, [0, 1, 2, 3]), (78, [0, 1, 2, 3]), (81, [0, 1, 2, 3]), (84, []), (85, [0, 1, 2, 3]), (86, [0, 1, 2, 3]), (89, [0, 1, 2, 3]), (92, [0, 1, 2, 3]), (94, [0, 1, 2, 3, 4]), (95, [0, 1, 2, 3, 4]), (97, [0, 1, 2, 3, 4]), (100, [0, 1, 2, 3, 4]), (103, [0, 1, 2, 3, 4]), (104, [0, 1, 2, 3, 4]), (107, [0, 1, 2, 3, 4]), (110, [0, 1, 2, 3, 4]), (111, [0, 1, 2, 3, 4]), (112, [0, 1, 2, 3, 4]), (115, [0, 1, 2, 3, 4]), (118, []), (119, [0, 1, 2, 3, 4]), (120, [0, 1, 2, 3, 4]), (123, [0, 1, 2, 3, 4]), (126, [0, 1, 2, 3, 4]), (127, [0, 1, 2, 3, 4]), (130, [0, 1, 2, 3, 4]), (131, [0, 2, 3, 4]), (132, [0, 3, 4]), (133, [0, 4]), (135, [0]), (138, [0]), (139, []), (140, []), (143, []), (144, []), (145, []), (148, [])]
set_option maxRecDepth 100000 in
theorem lv_113 : chkLv M_113 LV_113 = true := by decide +kernel
set_option maxRecDepth 100000 in
theorem lva_113_84 : lvA LV_113 84 = [] := by decide +kernel
set_option maxRecDepth 100000 in
theorem lva_113_85 : lvA LV_113 85 = [0, 1, 2, 3] := by decide +kernel
set_option maxRecDepth 100000 in
theorem lva_113_118 : lvA LV_113 118 = [] := by decide +kernel
set_option maxRecDepth 100000 in
theorem lva_113_138 : lvA LV_113 138 = [0] := by decide +kernel
set_option maxRecDepth 100000 in
theorem p_113_0 {n d : Nat} {Q : Option Value → Sg → Prop} (σ : Sg) (h : (∀ w2 σ1, RCx PRG n 107 [.ref 15] σ (some (.int w2)) σ1 → (w2 = 0 ∨ w2 = 1) → ((w2 = 0 → Q none σ1) ∧ (¬ w2 = 0 → (∀ w4 σ3, RCx PRG n 103 [.ref 15, .int (0 : Int32), .int (2 : Int32)] σ1 (some (.int w4)) σ3 → ((0 ≤ w4 → (∀ w6 σ5, RCx PRG n 101 [.ref 15, .int ((18 : Int32) + (if (0 : Int32) < (if ((σ3.1 15 5) - (18 : Int32)) < (2 : Int32) then ((σ3.1 15 5) - (18 : Int32)) else (2 : Int32)) then (if ((σ3.1 15 5) - (18 : Int32)) < (2 : Int32) then ((σ3.1 15 5) - (18 : Int32)) else (2 : Int32)) else (0 : Int32)))] σ3 (some (.int w6)) σ5 → (w6 = 0 ∨ w6 = 1) → ((w6 = 0 → Q none σ5) ∧ (¬ w6 = 0 → (((σ5.1 15 5) = (21 : Int32) → (∀ w8 σ7, RCx PRG n 101 [.ref 15, .int (21 : Int32)] σ5 (some (.int w8)) σ7 → (w8 = 0 ∨ w8 = 1) → ((w8 = 0 → Pl PRG n d 113 84 [] [] σ7 Q) ∧ (¬ w8 = 0 → (∀ w10 σ9, RCx PRG n 112 [.ref 15] σ7 (some (.int w10)) σ9 → (w10 = 0 ∨ w10 = 1) → ((w10 = 0 → Pl PRG n d 113 84 [] [] σ9 Q) ∧ (¬ w10 = 0 → Pl PRG n d 113 85 [(0, .ref 15), (1, .int w4), (2, .int (if (0 : Int32) < (if ((σ3.1 15 5) - (18 : Int32)) < (2 : Int32) then ((σ3.1 15 5) - (18 : Int32)) else (2 : Int32)) then (if ((σ3.1 15 5) - (18 : Int32)) < (2 : Int32) then ((σ3.1 15 5) - (18 : Int32)) else (2 : Int32)) else (0 : Int32))), (3, .int (σ5.1 3 9))] [] σ9 Q))))))) ∧ (¬ (σ5.1 15 5) = (21 : Int32) → Pl PRG n d 113 85 [(0, .ref 15), (1, .int w4), (2, .int (if (0 : Int32) < (if ((σ3.1 15 5) - (18 : Int32)) < (2 : Int32) then ((σ3.1 15 5) - (18 : Int32)) else (2 : Int32)) then (if ((σ3.1 15 5) - (18 : Int32)) < (2 : Int32) then ((σ3.1 15 5) - (18 : Int32)) else (2 : Int32)) else (0 : Int32))), (3, .int (σ5.1 3 9))] [] σ5 Q)))))) ∧ (¬ 0 ≤ w4 → Q none σ3))))))) : Pl PRG (n + 1) d 113 0 [(0, .ref 15)] [] σ Q := by
  have hM : PRG[113]? = some M_113 := rfl
  refine Pl.sg1 (pc' := 1) (ls' := [(0, .ref 15)]) (st' := [.ref 15]) (σ' := σ) hM 0 rfl ?_
  refine Pl.weak (Pl.cZ hM rfl rfl (by decide) (Mj := M_107) rfl rfl (fun w2 σ1 hw hz => ?_))
  replace h := h w2 σ1 hw hz
  refine Pl.br (c := w2 = 0) (a := 16) (b := 7) (ls' := [(0, .ref 15)]) (st' := []) (σ' := σ1) hM 1 rfl (fun c => ?_) (fun c => ?_)
  · replace h := h.1 c
    refine Pl.seg (pc' := 22) (ls' := [(1, .int (-1 : Int32)), (0, .ref 15)]) (st' := []) (σ' := σ1) hM 4 rfl ?_
    refine Pl.weak (Pl.ret hM rfl rfl h)
  · replace h := h.2 c
    refine Pl.seg (pc' := 10) (ls' := [(0, .ref 15)]) (st' := [.int (2 : Int32), .int (0 : Int32), .ref 15]) (σ' := σ1) hM 3 rfl ?_
    refine Pl.weak (Pl.cI hM rfl rfl (by decide) (Mj := M_103) rfl rfl (fun w4 σ3 hw => ?_))
    replace h := h w4 σ3 hw
    refine Pl.br (c := 0 ≤ w4) (a := 23) (b := 22) (ls' := [(1, .int w4), (0, .ref 15)]) (st' := []) (σ' := σ3) hM 4 rfl (fun c => ?_) (fun c => ?_)
    · replace h := h.1 c
      refine Pl.seg (pc' := 32) (ls' := [(1, .int w4), (0, .ref 15)]) (st' := [.int ((σ3.1 15 5) - (18 : Int32)), .int (2 : Int32), .int (0 : Int32)]) (σ' := σ3) hM 6 rfl ?_
      refine Pl.weak (Pl.mm hM rfl rfl rfl ?_)
      refine Pl.weak (Pl.mm hM rfl rfl rfl ?_)
      refine Pl.seg (pc' := 44) (ls' := [(2, .int (if (0 : Int32) < (if ((σ3.1 15 5) - (18 : Int32)) < (2 : Int32) then ((σ3.1 15 5) - (18 : Int32)) else (2 : Int32)) then (if ((σ3.1 15 5) - (18 : Int32)) < (2 : Int32) then ((σ3.1 15 5) - (18 : Int32)) else (2 : Int32)) else (0 : Int32))), (1, .int w4), (0, .ref 15)]) (st' := [.int ((18 : Int32) + (if (0 : Int32) < (if ((σ3.1 15 5) - (18 : Int32)) < (2 : Int32) then ((σ3.1 15 5) - (18 : Int32)) else (2 : Int32)) then (if ((σ3.1 15 5) - (18 : Int32)) < (2 : Int32) then ((σ3.1 15 5) - (18 : Int32)) else (2 : Int32)) else (0 : Int32))), .ref 15]) (σ' := σ3) hM 5 rfl ?_
      refine Pl.weak (Pl.cZ hM rfl rfl (by decide) (Mj := M_101) rfl rfl (fun w6 σ5 hw hz => ?_))
      replace h := h w6 σ5 hw hz
      refine Pl.brN (c := w6 = 0) (a := 51) (b := 50) (ls' := [(2, .int (if (0 : Int32) < (if ((σ3.1 15 5) - (18 : Int32)) < (2 : Int32) then ((σ3.1 15 5) - (18 : Int32)) else (2 : Int32)) then (if ((σ3.1 15 5) - (18 : Int32)) < (2 : Int32) then ((σ3.1 15 5) - (18 : Int32)) else (2 : Int32)) else (0 : Int32))), (1, .int w4), (0, .ref 15)]) (st' := []) (σ' := σ5) hM 1 rfl (fun c => ?_) (fun c => ?_)
      · replace h := h.2 c
        refine Pl.brN (c := (σ5.1 15 5) = (21 : Int32)) (a := 85) (b := 68) (ls' := [(3, .int (σ5.1 3 9)), (2, .int (if (0 : Int32) < (if ((σ3.1 15 5) - (18 : Int32)) < (2 : Int32) then ((σ3.1 15 5) - (18 : Int32)) else (2 : Int32)) then (if ((σ3.1 15 5) - (18 : Int32)) < (2 : Int32) then ((σ3.1 15 5) - (18 : Int32)) else (2 : Int32)) else (0 : Int32))), (1, .int w4), (0, .ref 15)]) (st' := []) (σ' := σ5) hM 8 rfl (fun c => ?_) (fun c => ?_)
        · replace h := h.2 c
          exact Pl.live (l' := [(0, .ref 15), (1, .int w4), (2, .int (if (0 : Int32) < (if ((σ3.1 15 5) - (18 : Int32)) < (2 : Int32) then ((σ3.1 15 5) - (18 : Int32)) else (2 : Int32)) then (if ((σ3.1 15 5) - (18 : Int32)) < (2 : Int32) then ((σ3.1 15 5) - (18 : Int32)) else (2 : Int32)) else (0 : Int32))), (3, .int (σ5.1 3 9))]) hM lv_113 ⟨show ndL _ from (by decide : List.Nodup ([3, 2, 1, 0] : List Nat)), show ndL _ from (by decide : List.Nodup ([0, 1, 2, 3] : List Nat)), by rw [lva_113_85]; exact List.forall_mem_cons.mpr ⟨rfl, List.forall_mem_cons.mpr ⟨rfl, List.forall_mem_cons.mpr ⟨rfl, List.forall_mem_cons.mpr ⟨rfl, fun _ h => absurd h List.not_mem_nil⟩⟩⟩⟩⟩ h
        · replace h := h.1 c
          refine Pl.seg (pc' := 71) (ls' := [(3, .int (σ5.1 3 9)), (2, .int (if (0 : Int32) < (if ((σ3.1 15 5) - (18 : Int32)) < (2 : Int32) then ((σ3.1 15 5) - (18 : Int32)) else (2 : Int32)) then (if ((σ3.1 15 5) - (18 : Int32)) < (2 : Int32) then ((σ3.1 15 5) - (18 : Int32)) else (2 : Int32)) else (0 : Int32))), (1, .int w4), (0, .ref 15)]) (st' := [.int (21 : Int32), .ref 15]) (σ' := σ5) hM 2 rfl ?_
          refine Pl.weak (Pl.cZ hM rfl rfl (by decide) (Mj := M_101) rfl rfl (fun w8 σ7 hw hz => ?_))
          replace h := h w8 σ7 hw hz
          refine Pl.br (c := w8 = 0) (a := 84) (b := 77) (ls' := [(3, .int (σ5.1 3 9)), (2, .int (if (0 : Int32) < (if ((σ3.1 15 5) - (18 : Int32)) < (2 : Int32) then ((σ3.1 15 5) - (18 : Int32)) else (2 : Int32)) then (if ((σ3.1 15 5) - (18 : Int32)) < (2 : Int32) then ((σ3.1 15 5) - (18 : Int32)) else (2 : Int32)) else (0 : Int32))), (1, .int w4), (0, .ref 15)]) (st' := []) (σ' := σ7) hM 1 rfl (fun c => ?_) (fun c => ?_)
          · replace h := h.1 c
            exact Pl.live (l' := []) hM lv_113 ⟨show ndL _ from (by decide : List.Nodup ([3, 2, 1, 0] : List Nat)), show ndL _ from (by decide : List.Nodup ([] : List Nat)), by rw [lva_113_84]; exact fun _ h => absurd h List.not_mem_nil⟩ h
          · replace h := h.2 c
            refine Pl.seg (pc' := 78) (ls' := [(3, .int (σ5.1 3 9)), (2, .int (if (0 : Int32) < (if ((σ3.1 15 5) - (18 : Int32)) < (2 : Int32) then ((σ3.1 15 5) - (18 : Int32)) else (2 : Int32)) then (if ((σ3.1 15 5) - (18 : Int32)) < (2 : Int32) then ((σ3.1 15 5) - (18 : Int32)) else (2 : Int32)) else (0 : Int32))), (1, .int w4), (0, .ref 15)]) (st' := [.ref 15]) (σ' := σ7) hM 1 rfl ?_
            refine Pl.weak (Pl.cZ hM rfl rfl (by decide) (Mj := M_112) rfl rfl (fun w10 σ9 hw hz => ?_))
            replace h := h w10 σ9 hw hz
            refine Pl.brN (c := w10 = 0) (a := 85) (b := 84) (ls' := [(3, .int (σ5.1 3 9)), (2, .int (if (0 : Int32) < (if ((σ3.1 15 5) - (18 : Int32)) < (2 : Int32) then ((σ3.1 15 5) - (18 : Int32)) else (2 : Int32)) then (if ((σ3.1 15 5) - (18 : Int32)) < (2 : Int32) then ((σ3.1 15 5) - (18 : Int32)) else (2 : Int32)) else (0 : Int32))), (1, .int w4), (0, .ref 15)]) (st' := []) (σ' := σ9) hM 1 rfl (fun c => ?_) (fun c => ?_)
            · replace h := h.2 c
              exact Pl.live (l' := [(0, .ref 15), (1, .int w4), (2, .int (if (0 : Int32) < (if ((σ3.1 15 5) - (18 : Int32)) < (2 : Int32) then ((σ3.1 15 5) - (18 : Int32)) else (2 : Int32)) then (if ((σ3.1 15 5) - (18 : Int32)) < (2 : Int32) then ((σ3.1 15 5) - (18 : Int32)) else (2 : Int32)) else (0 : Int32))), (3, .int (σ5.1 3 9))]) hM lv_113 ⟨show ndL _ from (by decide : List.Nodup ([3, 2, 1, 0] : List Nat)), show ndL _ from (by decide : List.Nodup ([0, 1, 2, 3] : List Nat)), by rw [lva_113_85]; exact List.forall_mem_cons.mpr ⟨rfl, List.forall_mem_cons.mpr ⟨rfl, List.forall_mem_cons.mpr ⟨rfl, List.forall_mem_cons.mpr ⟨rfl, fun _ h => absurd h List.not_mem_nil⟩⟩⟩⟩⟩ h
            · replace h := h.1 c
              exact Pl.live (l' := []) hM lv_113 ⟨show ndL _ from (by decide : List.Nodup ([3, 2, 1, 0] : List Nat)), show ndL _ from (by decide : List.Nodup ([] : List Nat)), by rw [lva_113_84]; exact fun _ h => absurd h List.not_mem_nil⟩ h
      · replace h := h.1 c
        refine Pl.weak (Pl.ret hM rfl rfl h)
    · replace h := h.2 c
      refine Pl.weak (Pl.ret hM rfl rfl h)
set_option maxRecDepth 100000 in
theorem p_113_85 {n d : Nat} {Q : Option Value → Sg → Prop} (σ : Sg) (x1 x2 x3 : Int32) (h : (∀ w2 σ1, RCx PRG n 101 [.ref 15, .int (22 : Int32)] σ (some (.int w2)) σ1 → (w2 = 0 ∨ w2 = 1) → ((w2 = 0 → Pl PRG n d 113 118 [] [] σ1 Q) ∧ (¬ w2 = 0 → (∀ w4 σ3, RCx PRG n 112 [.ref 15] σ1 (some (.int w4)) σ3 → (w4 = 0 ∨ w4 = 1) → ((w4 = 0 → Pl PRG n d 113 118 [] [] σ3 Q) ∧ (¬ w4 = 0 → (∀ w6 σ5, RCx PRG n 101 [.ref 15, .int (4 : Int32)] σ3 (some (.int w6)) σ5 → (w6 = 0 ∨ w6 = 1) → ((w6 = 0 → Pl PRG n d 113 118 [] [] σ5 Q) ∧ (¬ w6 = 0 → (((σ5.1 15 3) = 0 → Pl PRG n d 113 138 [(0, .ref 15)] [] σ5 Q) ∧ (¬ (σ5.1 15 3) = 0 → (∀ σ7, RCx PRG n 73 [.ref 3, .int x1, .int x2, .int x3, .int (σ.1 3 9)] σ5 none σ7 → Pl PRG n d 113 138 [(0, .ref 15)] [] σ7 Q))))))))))))) : Pl PRG (n + 1) d 113 85 [(0, .ref 15), (1, .int x1), (2, .int x2), (3, .int x3)] [] σ Q := by
  have hM : PRG[113]? = some M_113 := rfl
  refine Pl.sg1 (pc' := 97) (ls' := [(4, .int (σ.1 3 9)), (0, .ref 15), (1, .int x1), (2, .int x2), (3, .int x3)]) (st' := [.int (22 : Int32), .ref 15]) (σ' := σ) hM 5 rfl ?_
  refine Pl.weak (Pl.cZ hM rfl rfl (by decide) (Mj := M_101) rfl rfl (fun w2 σ1 hw hz => ?_))
  replace h := h w2 σ1 hw hz
  refine Pl.br (c := w2 = 0) (a := 118) (b := 103) (ls' := [(4, .int (σ.1 3 9)), (0, .ref 15), (1, .int x1), (2, .int x2), (3, .int x3)]) (st' := []) (σ' := σ1) hM 1 rfl (fun c => ?_) (fun c => ?_)
  · replace h := h.1 c
    exact Pl.live (l' := []) hM lv_113 ⟨show ndL _ from (by decide : List.Nodup ([4, 0, 1, 2, 3] : List Nat)), show ndL _ from (by decide : List.Nodup ([] : List Nat)), by rw [lva_113_118]; exact fun _ h => absurd h List.not_mem_nil⟩ h
  · replace h := h.2 c
    refine Pl.seg (pc' := 104) (ls' := [(4, .int (σ.1 3 9)), (0, .ref 15), (1, .int x1), (2, .int x2), (3, .int x3)]) (st' := [.ref 15]) (σ' := σ1) hM 1 rfl ?_
    refine Pl.weak (Pl.cZ hM rfl rfl (by decide) (Mj := M_112) rfl rfl (fun w4 σ3 hw hz => ?_))
    replace h := h w4 σ3 hw hz
    refine Pl.br (c := w4 = 0) (a := 118) (b := 110) (ls' := [(4, .int (σ.1 3 9)), (0, .ref 15), (1, .int x1), (2, .int x2), (3, .int x3)]) (st' := []) (σ' := σ3) hM 1 rfl (fun c => ?_) (fun c => ?_)
    · replace h := h.1 c
      exact Pl.live (l' := []) hM lv_113 ⟨show ndL _ from (by decide : List.Nodup ([4, 0, 1, 2, 3] : List Nat)), show ndL _ from (by decide : List.Nodup ([] : List Nat)), by rw [lva_113_118]; exact fun _ h => absurd h List.not_mem_nil⟩ h
    · replace h := h.2 c
      refine Pl.seg (pc' := 112) (ls' := [(4, .int (σ.1 3 9)), (0, .ref 15), (1, .int x1), (2, .int x2), (3, .int x3)]) (st' := [.int (4 : Int32), .ref 15]) (σ' := σ3) hM 2 rfl ?_
      refine Pl.weak (Pl.cZ hM rfl rfl (by decide) (Mj := M_101) rfl rfl (fun w6 σ5 hw hz => ?_))
      replace h := h w6 σ5 hw hz
      refine Pl.brN (c := w6 = 0) (a := 119) (b := 118) (ls' := [(4, .int (σ.1 3 9)), (0, .ref 15), (1, .int x1), (2, .int x2), (3, .int x3)]) (st' := []) (σ' := σ5) hM 1 rfl (fun c => ?_) (fun c => ?_)
      · replace h := h.2 c
        refine Pl.br (c := (σ5.1 15 3) = 0) (a := 138) (b := 126) (ls' := [(4, .int (σ.1 3 9)), (0, .ref 15), (1, .int x1), (2, .int x2), (3, .int x3)]) (st' := []) (σ' := σ5) hM 3 rfl (fun c => ?_) (fun c => ?_)
        · replace h := h.1 c
          exact Pl.live (l' := [(0, .ref 15)]) hM lv_113 ⟨show ndL _ from (by decide : List.Nodup ([4, 0, 1, 2, 3] : List Nat)), show ndL _ from (by decide : List.Nodup ([0] : List Nat)), by rw [lva_113_138]; exact List.forall_mem_cons.mpr ⟨rfl, fun _ h => absurd h List.not_mem_nil⟩⟩ h
        · replace h := h.2 c
          refine Pl.seg (pc' := 135) (ls' := [(4, .int (σ.1 3 9)), (0, .ref 15), (1, .int x1), (2, .int x2), (3, .int x3)]) (st' := [.int (σ.1 3 9), .int x3, .int x2, .int x1, .ref 3]) (σ' := σ5) hM 6 rfl ?_
          refine Pl.weak (Pl.cV hM rfl rfl (by decide) (Mj := M_73) rfl rfl (fun σ7 hw => ?_))
          replace h := h σ7 hw
          exact Pl.live (l' := [(0, .ref 15)]) hM lv_113 ⟨show ndL _ from (by decide : List.Nodup ([4, 0, 1, 2, 3] : List Nat)), show ndL _ from (by decide : List.Nodup ([0] : List Nat)), by rw [lva_113_138]; exact List.forall_mem_cons.mpr ⟨rfl, fun _ h => absurd h List.not_mem_nil⟩⟩ h
      · replace h := h.1 c
        exact Pl.live (l' := []) hM lv_113 ⟨show ndL _ from (by decide : List.Nodup ([4, 0, 1, 2, 3] : List Nat)), show ndL _ from (by decide : List.Nodup ([] : List Nat)), by rw [lva_113_118]; exact fun _ h => absurd h List.not_mem_nil⟩ h
set_option maxRecDepth 100000 in
theorem p_113_84 {n d : Nat} {Q : Option Value → Sg → Prop} (σ : Sg) (h : Q none σ) : Pl PRG (n + 1) d 113 84 [] [] σ Q := by
  have hM : PRG[113]? = some M_113 := rfl
  refine Pl.ret hM rfl rfl h
set_option maxRecDepth 100000 in
theorem p_113_118 {n d : Nat} {Q : Option Value → Sg → Prop} (σ : Sg) (h : Q none σ) : Pl PRG (n + 1) d 113 118 [] [] σ Q := by
  have hM : PRG[113]? = some M_113 := rfl
  refine Pl.ret hM rfl rfl h
set_option maxRecDepth 100000 in
theorem p_113_138 {n d : Nat} {Q : Option Value → Sg → Prop} (σ : Sg) (h : Q none (s1 σ 15 6 ((σ.1 15 6) + (1 : Int32)))) : Pl PRG (n + 1) d 113 138 [(0, .ref 15)] [] σ Q := by
  have hM : PRG[113]? = some M_113 := rfl
  refine Pl.sg1 (pc' := 148) (ls' := [(0, .ref 15)]) (st' := []) (σ' := (s1 σ 15 6 ((σ.1 15 6) + (1 : Int32)))) hM 5 rfl ?_
  refine Pl.weak (Pl.ret hM rfl rfl h)
def LV_114 : List (Nat × List Nat) := [(0, [0, 1]), (1, [0, 1]), (2, [0]), (5, [0]), (6, [0]), (7, [0]), (10, [0]), (11, [0]), (12, [0]), (15, [0]), (18, [0]), (19, [0]), (20, [0]), (23, [0]), (24, [0]), (25, [0]), (28, [0]), (29, [0]), (30, [0]), (33, [0]), (34, [0]), (35, [0]), (38, [0]), (39, [0]), (40, [0]), (43, [0]), (44, [0]), (45, [0, 2]), (46, [0, 2]), (49, [0, 2]), (52, [0, 2]), (53, [0, 2]), (56, [0, 2]), (59, [0, 2]), (60, [0, 2]), (63, [0, 2]), (66, [0, 2]), (67, [0, 2]), (70, [0, 2]), (72, [0, 2]), (75, [0, 2]), (76, [0, 2]), (79, [0, 2]), (82, [0, 2]), (83, [0, 2]), (86, [0, 2]), (88, [0, 2]), (91, [0, 2]), (92, [0, 2]), (95, [0, 2]), (98, [0, 2]), (99, [0, 2]), (102, [0, 2]), (104, [0, 2]), (107, [0, 2]), (108, [0, 2]), (111, [0, 2]), (113, [0, 2]), (116, [0, 2]), (117, [0, 2]), (120, [0, 2]), (121, [0, 2]), (124, [0, 2]), (125, [0, 2]), (127, [0, 2]), (130, [0, 2]), (133, [0, 2]), (134, [0, 2]), (137, [0, 2]), (140, [0, 2]), (143, [0]), (144, [0]), (147, [0]), (150, [0]), (151, [0]), (154, [0]), (157, [0]), (158, [0]), (159, [0]), (162, [0]), (165, [0]), (166, [0]), (167, [0]), (170, [0]), (173, [0]), (174, []), (177, [])]
set_option maxRecDepth 100000 in
theorem lv_114 : chkLv M_114 LV_114 = true := by decide +kernel
set_option maxRecDepth 100000 in
theorem lva_114_45 : lvA LV_114 45 = [0, 2] := by decide +kernel
set_option maxRecDepth 100000 in
theorem lva_114_124 : lvA LV_114 124 = [0, 2] := by decide +kernel
set_option maxRecDepth 100000 in
theorem lva_114_137 : lvA LV_114 137 = [0, 2] := by decide +kernel
set_option maxRecDepth 100000 in
theorem lva_114_143 : lvA LV_114 143 = [0] := by decide +kernel
set_option maxRecDepth 100000 in
theorem lva_114_173 : lvA LV_114 173 = [0] := by decide +kernel
set_option maxRecDepth 100000 in
theorem p_114_0 {n d : Nat} {Q : Option Value → Sg → Prop} (σ : Sg) (x1 : Int32) (h : ((x1 = 0 ∨ x1 = 1) → Pl PRG n d 114 45 [(0, .ref 15), (2, .int (0 : Int32))] [] (s1 (s1 (s1 (s1 (s1 (s1 (s1 σ 15 3 x1) 15 4 (0 : Int32)) 15 5 (σ.1 18 0)) 15 6 (0 : Int32)) 15 7 (0 : Int32)) 15 8 (-1 : Int32)) 15 9 (0 : Int32)) Q)) : Pl PRG (n + 1) d 114 0 [(0, .ref 15), (1, .int x1)] [] σ Q := by
  have hM : PRG[114]? = some M_114 := rfl
  refine Pl.sg1 (pc' := 2) (ls' := [(0, .ref 15), (1, .int x1)]) (st' := [.int x1, .ref 15]) (σ' := σ) hM 1 rfl ?_
  refine Pl.weak (Pl.putZ hM rfl rfl rfl rfl (fun hi => ?_))
  replace h := h hi
  refine Pl.seg (pc' := 45) (ls' := [(2, .int (0 : Int32)), (0, .ref 15), (1, .int x1)]) (st' := []) (σ' := (s1 (s1 (s1 (s1 (s1 (s1 (s1 σ 15 3 x1) 15 4 (0 : Int32)) 15 5 (σ.1 18 0)) 15 6 (0 : Int32)) 15 7 (0 : Int32)) 15 8 (-1 : Int32)) 15 9 (0 : Int32))) hM 24 rfl ?_
  exact Pl.live (l' := [(0, .ref 15), (2, .int (0 : Int32))]) hM lv_114 ⟨show ndL _ from (by decide : List.Nodup ([2, 0, 1] : List Nat)), show ndL _ from (by decide : List.Nodup ([0, 2] : List Nat)), by rw [lva_114_45]; exact List.forall_mem_cons.mpr ⟨rfl, List.forall_mem_cons.mpr ⟨rfl, fun _ h => absurd h List.not_mem_nil⟩⟩⟩ h
set_option maxRecDepth 100000 in
theorem p_114_45 {n d : Nat} {Q : Option Value → Sg → Prop} (σ : Sg) (x2 : Int32) (h : (((400 : Int32) < x2 → Pl PRG n d 114 143 [(0, .ref 15)] [] σ Q) ∧ (¬ (400 : Int32) < x2 → (((σ.1 15 7) = 0 → (((σ.1 15 5) = 0 → Pl PRG n d 114 143 [(0, .ref 15)] [] σ Q) ∧ (¬ (σ.1 15 5) = 0 → (((σ.1 15 5) = (15 : Int32) → (∀ σ4, RCx PRG n 104 [.ref 15] σ none σ4 → Pl PRG n d 114 137 [(0, .ref 15), (2, .int x2)] [] σ4 Q)) ∧ (¬ (σ.1 15 5) = (15 : Int32) → (((σ.1 15 5) = (16 : Int32) → (∀ σ3, RCx PRG n 105 [.ref 15] σ none σ3 → Pl PRG n d 114 137 [(0, .ref 15), (2, .int x2)] [] σ3 Q)) ∧ (¬ (σ.1 15 5) = (16 : Int32) → (((σ.1 15 5) = (17 : Int32) → (((σ.1 15 6) < (6 : Int32) → Pl PRG n d 114 124 [(0, .ref 15), (2, .int x2)] [] σ Q) ∧ (¬ (σ.1 15 6) < (6 : Int32) → (∀ w2 σ1, RCx PRG n 106 [.ref 15] σ (some (.int w2)) σ1 → (w2 = 0 ∨ w2 = 1) → Pl PRG n d 114 137 [(0, .ref 15), (2, .int x2)] [] σ1 Q)))) ∧ (¬ (σ.1 15 5) = (17 : Int32) → Pl PRG n d 114 124 [(0, .ref 15), (2, .int x2)] [] σ Q))))))))) ∧ (¬ (σ.1 15 7) = 0 → Pl PRG n d 114 143 [(0, .ref 15)] [] σ Q))))) : Pl PRG (n + 1) d 114 45 [(0, .ref 15), (2, .int x2)] [] σ Q := by
  have hM : PRG[114]? = some M_114 := rfl
  refine Pl.br1 (c := (400 : Int32) < x2) (a := 143) (b := 52) (ls' := [(0, .ref 15), (2, .int x2)]) (st' := []) (σ' := σ) hM 2 rfl (fun c => ?_) (fun c => ?_)
  · replace h := h.1 c
    exact Pl.live (l' := [(0, .ref 15)]) hM lv_114 ⟨show ndL _ from (by decide : List.Nodup ([0, 2] : List Nat)), show ndL _ from (by decide : List.Nodup ([0] : List Nat)), by rw [lva_114_143]; exact List.forall_mem_cons.mpr ⟨rfl, fun _ h => absurd h List.not_mem_nil⟩⟩ h
  · replace h := h.2 c
    refine Pl.brN (c := (σ.1 15 7) = 0) (a := 143) (b := 59) (ls' := [(0, .ref 15), (2, .int x2)]) (st' := []) (σ' := σ) hM 3 rfl (fun c => ?_) (fun c => ?_)
    · replace h := h.2 c
      exact Pl.live (l' := [(0, .ref 15)]) hM lv_114 ⟨show ndL _ from (by decide : List.Nodup ([0, 2] : List Nat)), show ndL _ from (by decide : List.Nodup ([0] : List Nat)), by rw [lva_114_143]; exact List.forall_mem_cons.mpr ⟨rfl, fun _ h => absurd h List.not_mem_nil⟩⟩ h
    · replace h := h.1 c
      refine Pl.br (c := (σ.1 15 5) = 0) (a := 143) (b := 66) (ls' := [(0, .ref 15), (2, .int x2)]) (st' := []) (σ' := σ) hM 3 rfl (fun c => ?_) (fun c => ?_)
      · replace h := h.1 c
        exact Pl.live (l' := [(0, .ref 15)]) hM lv_114 ⟨show ndL _ from (by decide : List.Nodup ([0, 2] : List Nat)), show ndL _ from (by decide : List.Nodup ([0] : List Nat)), by rw [lva_114_143]; exact List.forall_mem_cons.mpr ⟨rfl, fun _ h => absurd h List.not_mem_nil⟩⟩ h
      · replace h := h.2 c
        refine Pl.brN (c := (σ.1 15 5) = (15 : Int32)) (a := 82) (b := 75) (ls' := [(0, .ref 15), (2, .int x2)]) (st' := []) (σ' := σ) hM 4 rfl (fun c => ?_) (fun c => ?_)
        · replace h := h.2 c
          refine Pl.brN (c := (σ.1 15 5) = (16 : Int32)) (a := 98) (b := 91) (ls' := [(0, .ref 15), (2, .int x2)]) (st' := []) (σ' := σ) hM 4 rfl (fun c => ?_) (fun c => ?_)
          · replace h := h.2 c
            refine Pl.brN (c := (σ.1 15 5) = (17 : Int32)) (a := 124) (b := 107) (ls' := [(0, .ref 15), (2, .int x2)]) (st' := []) (σ' := σ) hM 4 rfl (fun c => ?_) (fun c => ?_)
            · replace h := h.2 c
              exact Pl.live (l' := [(0, .ref 15), (2, .int x2)]) hM lv_114 ⟨show ndL _ from (by decide : List.Nodup ([0, 2] : List Nat)), show ndL _ from (by decide : List.Nodup ([0, 2] : List Nat)), by rw [lva_114_124]; exact List.forall_mem_cons.mpr ⟨rfl, List.forall_mem_cons.mpr ⟨rfl, fun _ h => absurd h List.not_mem_nil⟩⟩⟩ h
            · replace h := h.1 c
              refine Pl.br (c := (σ.1 15 6) < (6 : Int32)) (a := 124) (b := 116) (ls' := [(0, .ref 15), (2, .int x2)]) (st' := []) (σ' := σ) hM 4 rfl (fun c => ?_) (fun c => ?_)
              · replace h := h.1 c
                exact Pl.live (l' := [(0, .ref 15), (2, .int x2)]) hM lv_114 ⟨show ndL _ from (by decide : List.Nodup ([0, 2] : List Nat)), show ndL _ from (by decide : List.Nodup ([0, 2] : List Nat)), by rw [lva_114_124]; exact List.forall_mem_cons.mpr ⟨rfl, List.forall_mem_cons.mpr ⟨rfl, fun _ h => absurd h List.not_mem_nil⟩⟩⟩ h
              · replace h := h.2 c
                refine Pl.seg (pc' := 117) (ls' := [(0, .ref 15), (2, .int x2)]) (st' := [.ref 15]) (σ' := σ) hM 1 rfl ?_
                refine Pl.weak (Pl.cZ hM rfl rfl (by decide) (Mj := M_106) rfl rfl (fun w2 σ1 hw hz => ?_))
                replace h := h w2 σ1 hw hz
                refine Pl.seg (pc' := 137) (ls' := [(0, .ref 15), (2, .int x2)]) (st' := []) (σ' := σ1) hM 2 rfl ?_
                exact Pl.live (l' := [(0, .ref 15), (2, .int x2)]) hM lv_114 ⟨show ndL _ from (by decide : List.Nodup ([0, 2] : List Nat)), show ndL _ from (by decide : List.Nodup ([0, 2] : List Nat)), by rw [lva_114_137]; exact List.forall_mem_cons.mpr ⟨rfl, List.forall_mem_cons.mpr ⟨rfl, fun _ h => absurd h List.not_mem_nil⟩⟩⟩ h
          · replace h := h.1 c
            refine Pl.seg (pc' := 92) (ls' := [(0, .ref 15), (2, .int x2)]) (st' := [.ref 15]) (σ' := σ) hM 1 rfl ?_
            refine Pl.weak (Pl.cV hM rfl rfl (by decide) (Mj := M_105) rfl rfl (fun σ3 hw => ?_))
            replace h := h σ3 hw
            refine Pl.seg (pc' := 137) (ls' := [(0, .ref 15), (2, .int x2)]) (st' := []) (σ' := σ3) hM 1 rfl ?_
            exact Pl.live (l' := [(0, .ref 15), (2, .int x2)]) hM lv_114 ⟨show ndL _ from (by decide : List.Nodup ([0, 2] : List Nat)), show ndL _ from (by decide : List.Nodup ([0, 2] : List Nat)), by rw [lva_114_137]; exact List.forall_mem_cons.mpr ⟨rfl, List.forall_mem_cons.mpr ⟨rfl, fun _ h => absurd h List.not_mem_nil⟩⟩⟩ h
        · replace h := h.1 c
          refine Pl.seg (pc' := 76) (ls' := [(0, .ref 15), (2, .int x2)]) (st' := [.ref 15]) (σ' := σ) hM 1 rfl ?_
          refine Pl.weak (Pl.cV hM rfl rfl (by decide) (Mj := M_104) rfl rfl (fun σ4 hw => ?_))
          replace h := h σ4 hw
          refine Pl.seg (pc' := 137) (ls' := [(0, .ref 15), (2, .int x2)]) (st' := []) (σ' := σ4) hM 1 rfl ?_
          exact Pl.live (l' := [(0, .ref 15), (2, .int x2)]) hM lv_114 ⟨show ndL _ from (by decide : List.Nodup ([0, 2] : List Nat)), show ndL _ from (by decide : List.Nodup ([0, 2] : List Nat)), by rw [lva_114_137]; exact List.forall_mem_cons.mpr ⟨rfl, List.forall_mem_cons.mpr ⟨rfl, fun _ h => absurd h List.not_mem_nil⟩⟩⟩ h
set_option maxRecDepth 100000 in
theorem p_114_143 {n d : Nat} {Q : Option Value → Sg → Prop} (σ : Sg) (h : (((σ.1 15 7) = 0 → (((σ.1 15 9) = 0 → Pl PRG n d 114 173 [(0, .ref 15)] [] σ Q) ∧ (¬ (σ.1 15 9) = 0 → Pl PRG n d 114 173 [(0, .ref 15)] [] (s1 (s1 σ 15 7 (σ.1 15 9)) 15 8 (σ.1 15 10)) Q))) ∧ (¬ (σ.1 15 7) = 0 → Pl PRG n d 114 173 [(0, .ref 15)] [] σ Q))) : Pl PRG (n + 1) d 114 143 [(0, .ref 15)] [] σ Q := by
  have hM : PRG[114]? = some M_114 := rfl
  refine Pl.brN1 (c := (σ.1 15 7) = 0) (a := 173) (b := 150) (ls' := [(0, .ref 15)]) (st' := []) (σ' := σ) hM 2 rfl (fun c => ?_) (fun c => ?_)
  · replace h := h.2 c
    exact Pl.live (l' := [(0, .ref 15)]) hM lv_114 ⟨show ndL _ from (by decide : List.Nodup ([0] : List Nat)), show ndL _ from (by decide : List.Nodup ([0] : List Nat)), by rw [lva_114_173]; exact List.forall_mem_cons.mpr ⟨rfl, fun _ h => absurd h List.not_mem_nil⟩⟩ h
  · replace h := h.1 c
    refine Pl.br (c := (σ.1 15 9) = 0) (a := 173) (b := 157) (ls' := [(0, .ref 15)]) (st' := []) (σ' := σ) hM 3 rfl (fun c => ?_) (fun c => ?_)
    · replace h := h.1 c
      exact Pl.live (l' := [(0, .ref 15)]) hM lv_114 ⟨show ndL _ from (by decide : List.Nodup ([0] : List Nat)), show ndL _ from (by decide : List.Nodup ([0] : List Nat)), by rw [lva_114_173]; exact List.forall_mem_cons.mpr ⟨rfl, fun _ h => absurd h List.not_mem_nil⟩⟩ h
    · replace h := h.2 c
      refine Pl.seg (pc' := 173) (ls' := [(0, .ref 15)]) (st' := []) (σ' := (s1 (s1 σ 15 7 (σ.1 15 9)) 15 8 (σ.1 15 10))) hM 8 rfl ?_
      exact Pl.live (l' := [(0, .ref 15)]) hM lv_114 ⟨show ndL _ from (by decide : List.Nodup ([0] : List Nat)), show ndL _ from (by decide : List.Nodup ([0] : List Nat)), by rw [lva_114_173]; exact List.forall_mem_cons.mpr ⟨rfl, fun _ h => absurd h List.not_mem_nil⟩⟩ h
set_option maxRecDepth 100000 in
theorem p_114_124 {n d : Nat} {Q : Option Value → Sg → Prop} (σ : Sg) (x2 : Int32) (h : (∀ w2 σ1, RCx PRG n 101 [.ref 15, .int (17 : Int32)] σ (some (.int w2)) σ1 → (w2 = 0 ∨ w2 = 1) → ((w2 = 0 → Pl PRG n d 114 137 [(0, .ref 15), (2, .int x2)] [] σ1 Q) ∧ (¬ w2 = 0 → (∀ σ3, RCx PRG n 113 [.ref 15] σ1 none σ3 → Pl PRG n d 114 137 [(0, .ref 15), (2, .int x2)] [] σ3 Q))))) : Pl PRG (n + 1) d 114 124 [(0, .ref 15), (2, .int x2)] [] σ Q := by
  have hM : PRG[114]? = some M_114 := rfl
  refine Pl.sg1 (pc' := 127) (ls' := [(0, .ref 15), (2, .int x2)]) (st' := [.int (17 : Int32), .ref 15]) (σ' := σ) hM 1 rfl ?_
  refine Pl.weak (Pl.cZ hM rfl rfl (by decide) (Mj := M_101) rfl rfl (fun w2 σ1 hw hz => ?_))
  replace h := h w2 σ1 hw hz
  refine Pl.br (c := w2 = 0) (a := 137) (b := 133) (ls' := [(0, .ref 15), (2, .int x2)]) (st' := []) (σ' := σ1) hM 1 rfl (fun c => ?_) (fun c => ?_)
  · replace h := h.1 c
    exact Pl.live (l' := [(0, .ref 15), (2, .int x2)]) hM lv_114 ⟨show ndL _ from (by decide : List.Nodup ([0, 2] : List Nat)), show ndL _ from (by decide : List.Nodup ([0, 2] : List Nat)), by rw [lva_114_137]; exact List.forall_mem_cons.mpr ⟨rfl, List.forall_mem_cons.mpr ⟨rfl, fun _ h => absurd h List.not_mem_nil⟩⟩⟩ h
  · replace h := h.2 c
    refine Pl.seg (pc' := 134) (ls' := [(0, .ref 15), (2, .int x2)]) (st' := [.ref 15]) (σ' := σ1) hM 1 rfl ?_
    refine Pl.weak (Pl.cV hM rfl rfl (by decide) (Mj := M_113) rfl rfl (fun σ3 hw => ?_))
    replace h := h σ3 hw
    exact Pl.live (l' := [(0, .ref 15), (2, .int x2)]) hM lv_114 ⟨show ndL _ from (by decide : List.Nodup ([0, 2] : List Nat)), show ndL _ from (by decide : List.Nodup ([0, 2] : List Nat)), by rw [lva_114_137]; exact List.forall_mem_cons.mpr ⟨rfl, List.forall_mem_cons.mpr ⟨rfl, fun _ h => absurd h List.not_mem_nil⟩⟩⟩ h
set_option maxRecDepth 100000 in
theorem p_114_137 {n d : Nat} {Q : Option Value → Sg → Prop} (σ : Sg) (x2 : Int32) (h : Pl PRG n d 114 45 [(0, .ref 15), (2, .int (x2 + (1 : Int32)))] [] σ Q) : Pl PRG (n + 1) d 114 137 [(0, .ref 15), (2, .int x2)] [] σ Q := by
  have hM : PRG[114]? = some M_114 := rfl
  refine Pl.sg1 (pc' := 45) (ls' := [(2, .int (x2 + (1 : Int32))), (0, .ref 15)]) (st' := []) (σ' := σ) hM 1 rfl ?_
  exact Pl.live (l' := [(0, .ref 15), (2, .int (x2 + (1 : Int32)))]) hM lv_114 ⟨show ndL _ from (by decide : List.Nodup ([2, 0] : List Nat)), show ndL _ from (by decide : List.Nodup ([0, 2] : List Nat)), by rw [lva_114_45]; exact List.forall_mem_cons.mpr ⟨rfl, List.forall_mem_cons.mpr ⟨rfl, fun _ h => absurd h List.not_mem_nil⟩⟩⟩ h
set_option maxRecDepth 100000 in
theorem p_114_173 {n d : Nat} {Q : Option Value → Sg → Prop} (σ : Sg) (h : Q (some (.int (σ.1 15 7))) σ) : Pl PRG (n + 1) d 114 173 [(0, .ref 15)] [] σ Q := by
  have hM : PRG[114]? = some M_114 := rfl
  refine Pl.sg1 (pc' := 177) (ls' := [(0, .ref 15)]) (st' := [.int (σ.1 15 7)]) (σ' := σ) hM 1 rfl ?_
  refine Pl.weak (Pl.ret hM rfl rfl h)
set_option maxRecDepth 100000 in
theorem p_189_0 {n d : Nat} {Q : Option Value → Sg → Prop} (σ : Sg) (x1 : Int32) (h : (((σ.1 97 13) = 0 → (inR (σ.1 97 11) 403 = true → (((σ.1 100 (σ.1 97 11).toNatClampNeg) = x1 → Q (some (.int (1 : Int32))) σ) ∧ (¬ (σ.1 100 (σ.1 97 11).toNatClampNeg) = x1 → Q (some (.int (0 : Int32))) σ)))) ∧ (¬ (σ.1 97 13) = 0 → Q (some (.int (0 : Int32))) σ))) : Pl PRG (n + 1) d 189 0 [(0, .ref 97), (1, .int x1)] [] σ Q := by
  have hM : PRG[189]? = some M_189 := rfl
  refine Pl.brN1 (c := (σ.1 97 13) = 0) (a := 24) (b := 7) (ls' := [(0, .ref 97), (1, .int x1)]) (st' := []) (σ' := σ) hM 2 rfl (fun c => ?_) (fun c => ?_)
  · replace h := h.2 c
    refine Pl.seg (pc' := 25) (ls' := [(0, .ref 97), (1, .int x1)]) (st' := [.int (0 : Int32)]) (σ' := σ) hM 1 rfl ?_
    refine Pl.weak (Pl.ret hM rfl rfl h)
  · replace h := h.1 c
    refine Pl.seg (pc' := 15) (ls' := [(0, .ref 97), (1, .int x1)]) (st' := [.int (σ.1 97 11), .ref 100]) (σ' := σ) hM 4 rfl ?_
    refine Pl.weak (Pl.iald hM rfl rfl (fun hi => ?_))
    replace h := h hi
    refine Pl.brN (c := (σ.1 100 (σ.1 97 11).toNatClampNeg) = x1) (a := 24) (b := 20) (ls' := [(0, .ref 97), (1, .int x1)]) (st' := []) (σ' := σ) hM 2 rfl (fun c => ?_) (fun c => ?_)
    · replace h := h.2 c
      refine Pl.seg (pc' := 25) (ls' := [(0, .ref 97), (1, .int x1)]) (st' := [.int (0 : Int32)]) (σ' := σ) hM 1 rfl ?_
      refine Pl.weak (Pl.ret hM rfl rfl h)
    · replace h := h.1 c
      refine Pl.seg (pc' := 25) (ls' := [(0, .ref 97), (1, .int x1)]) (st' := [.int (1 : Int32)]) (σ' := σ) hM 2 rfl ?_
      refine Pl.weak (Pl.ret hM rfl rfl h)
set_option maxRecDepth 100000 in
theorem p_190_0 {n d : Nat} {Q : Option Value → Sg → Prop} (σ : Sg) (x1 : Int32) (h : (((σ.1 97 13) ≤ 0 → (inR (σ.1 97 11) 403 = true → Q none (s1 (s1 σ 97 13 x1) 97 14 (σ.1 101 (σ.1 97 11).toNatClampNeg)))) ∧ (¬ (σ.1 97 13) ≤ 0 → Q none σ))) : Pl PRG (n + 1) d 190 0 [(0, .ref 97), (1, .int x1)] [] σ Q := by
  have hM : PRG[190]? = some M_190 := rfl
  refine Pl.br1 (c := (σ.1 97 13) ≤ 0) (a := 8) (b := 7) (ls' := [(0, .ref 97), (1, .int x1)]) (st' := []) (σ' := σ) hM 2 rfl (fun c => ?_) (fun c => ?_)
  · replace h := h.1 c
    refine Pl.seg (pc' := 22) (ls' := [(0, .ref 97), (1, .int x1)]) (st' := [.int (σ.1 97 11), .ref 101, .ref 97]) (σ' := (s1 σ 97 13 x1)) hM 8 rfl ?_
    refine Pl.weak (Pl.iald hM rfl rfl (fun hi => ?_))
    replace h := h hi
    refine Pl.seg (pc' := 26) (ls' := [(0, .ref 97), (1, .int x1)]) (st' := []) (σ' := (s1 (s1 σ 97 13 x1) 97 14 (σ.1 101 (σ.1 97 11).toNatClampNeg))) hM 1 rfl ?_
    refine Pl.weak (Pl.ret hM rfl rfl h)
  · replace h := h.2 c
    refine Pl.weak (Pl.ret hM rfl rfl h)
def LV_191 : List (Nat × List Nat) := [(0, [0, 1, 2]), (1, [0, 1, 2]), (4, [0, 1, 2]), (5, [0, 1]), (6, [0, 1]), (7, [0, 1, 3]), (8, [0, 1, 3]), (11, [0, 1, 3]), (14, [0, 1, 3]), (15, [0, 1, 3]), (18, [0, 1, 3]), (21, [0, 1, 3]), (22, [0, 1, 3]), (23, [0, 1, 3]), (26, [0, 1, 3]), (29, [0, 1, 3]), (30, [0, 1, 3]), (31, [0, 1, 3]), (34, [0, 1, 3]), (37, [0, 1, 3]), (38, [0, 1, 3]), (39, [0, 1, 3]), (42, [0, 1, 3]), (45, []), (46, [0, 1, 3]), (47, [0, 1, 3]), (48, [0, 3]), (51, [0, 3]), (52, [3]), (53, []), (56, [])]
set_option maxRecDepth 100000 in
theorem lv_191 : chkLv M_191 LV_191 = true := by decide +kernel
set_option maxRecDepth 100000 in
theorem lva_191_45 : lvA LV_191 45 = [] := by decide +kernel
set_option maxRecDepth 100000 in
theorem lva_191_46 : lvA LV_191 46 = [0, 1, 3] := by decide +kernel
set_option maxRecDepth 100000 in
theorem p_191_0 {n d : Nat} {Q : Option Value → Sg → Prop} (σ : Sg) (x1 x2 : Int32) (h : (inR x2 403 = true → ((0 < (σ.1 97 13) → Pl PRG n d 191 45 [] [] σ Q) ∧ (¬ 0 < (σ.1 97 13) → (((σ.1 97 15) = 0 → Pl PRG n d 191 46 [(0, .ref 97), (1, .int x1), (3, .int (σ.1 101 x2.toNatClampNeg))] [] σ Q) ∧ (¬ (σ.1 97 15) = 0 → (((σ.1 97 16) < (σ.1 101 x2.toNatClampNeg) → Pl PRG n d 191 45 [] [] σ Q) ∧ (¬ (σ.1 97 16) < (σ.1 101 x2.toNatClampNeg) → (((σ.1 101 x2.toNatClampNeg) = (σ.1 97 16) → ((x1 < (σ.1 97 15) → Pl PRG n d 191 46 [(0, .ref 97), (1, .int x1), (3, .int (σ.1 101 x2.toNatClampNeg))] [] σ Q) ∧ (¬ x1 < (σ.1 97 15) → Pl PRG n d 191 45 [] [] σ Q))) ∧ (¬ (σ.1 101 x2.toNatClampNeg) = (σ.1 97 16) → Pl PRG n d 191 46 [(0, .ref 97), (1, .int x1), (3, .int (σ.1 101 x2.toNatClampNeg))] [] σ Q)))))))))) : Pl PRG (n + 1) d 191 0 [(0, .ref 97), (1, .int x1), (2, .int x2)] [] σ Q := by
  have hM : PRG[191]? = some M_191 := rfl
  refine Pl.sg1 (pc' := 5) (ls' := [(0, .ref 97), (1, .int x1), (2, .int x2)]) (st' := [.int x2, .ref 101]) (σ' := σ) hM 2 rfl ?_
  refine Pl.weak (Pl.iald hM rfl rfl (fun hi => ?_))
  replace h := h hi
  refine Pl.br (c := 0 < (σ.1 97 13)) (a := 45) (b := 14) (ls' := [(3, .int (σ.1 101 x2.toNatClampNeg)), (0, .ref 97), (1, .int x1), (2, .int x2)]) (st' := []) (σ' := σ) hM 4 rfl (fun c => ?_) (fun c => ?_)
  · replace h := h.1 c
    exact Pl.live (l' := []) hM lv_191 ⟨show ndL _ from (by decide : List.Nodup ([3, 0, 1, 2] : List Nat)), show ndL _ from (by decide : List.Nodup ([] : List Nat)), by rw [lva_191_45]; exact fun _ h => absurd h List.not_mem_nil⟩ h
  · replace h := h.2 c
    refine Pl.br (c := (σ.1 97 15) = 0) (a := 46) (b := 21) (ls' := [(3, .int (σ.1 101 x2.toNatClampNeg)), (0, .ref 97), (1, .int x1), (2, .int x2)]) (st' := []) (σ' := σ) hM 3 rfl (fun c => ?_) (fun c => ?_)
    · replace h := h.1 c
      exact Pl.live (l' := [(0, .ref 97), (1, .int x1), (3, .int (σ.1 101 x2.toNatClampNeg))]) hM lv_191 ⟨show ndL _ from (by decide : List.Nodup ([3, 0, 1, 2] : List Nat)), show ndL _ from (by decide : List.Nodup ([0, 1, 3] : List Nat)), by rw [lva_191_46]; exact List.forall_mem_cons.mpr ⟨rfl, List.forall_mem_cons.mpr ⟨rfl, List.forall_mem_cons.mpr ⟨rfl, fun _ h => absurd h List.not_mem_nil⟩⟩⟩⟩ h
    · replace h := h.2 c
      refine Pl.br (c := (σ.1 97 16) < (σ.1 101 x2.toNatClampNeg)) (a := 45) (b := 29) (ls' := [(3, .int (σ.1 101 x2.toNatClampNeg)), (0, .ref 97), (1, .int x1), (2, .int x2)]) (st' := []) (σ' := σ) hM 4 rfl (fun c => ?_) (fun c => ?_)
      · replace h := h.1 c
        exact Pl.live (l' := []) hM lv_191 ⟨show ndL _ from (by decide : List.Nodup ([3, 0, 1, 2] : List Nat)), show ndL _ from (by decide : List.Nodup ([] : List Nat)), by rw [lva_191_45]; exact fun _ h => absurd h List.not_mem_nil⟩ h
      · replace h := h.2 c
        refine Pl.brN (c := (σ.1 101 x2.toNatClampNeg) = (σ.1 97 16)) (a := 46) (b := 37) (ls' := [(3, .int (σ.1 101 x2.toNatClampNeg)), (0, .ref 97), (1, .int x1), (2, .int x2)]) (st' := []) (σ' := σ) hM 4 rfl (fun c => ?_) (fun c => ?_)
        · replace h := h.2 c
          exact Pl.live (l' := [(0, .ref 97), (1, .int x1), (3, .int (σ.1 101 x2.toNatClampNeg))]) hM lv_191 ⟨show ndL _ from (by decide : List.Nodup ([3, 0, 1, 2] : List Nat)), show ndL _ from (by decide : List.Nodup ([0, 1, 3] : List Nat)), by rw [lva_191_46]; exact List.forall_mem_cons.mpr ⟨rfl, List.forall_mem_cons.mpr ⟨rfl, List.forall_mem_cons.mpr ⟨rfl, fun _ h => absurd h List.not_mem_nil⟩⟩⟩⟩ h
        · replace h := h.1 c
          refine Pl.br (c := x1 < (σ.1 97 15)) (a := 46) (b := 45) (ls' := [(3, .int (σ.1 101 x2.toNatClampNeg)), (0, .ref 97), (1, .int x1), (2, .int x2)]) (st' := []) (σ' := σ) hM 4 rfl (fun c => ?_) (fun c => ?_)
          · replace h := h.1 c
            exact Pl.live (l' := [(0, .ref 97), (1, .int x1), (3, .int (σ.1 101 x2.toNatClampNeg))]) hM lv_191 ⟨show ndL _ from (by decide : List.Nodup ([3, 0, 1, 2] : List Nat)), show ndL _ from (by decide : List.Nodup ([0, 1, 3] : List Nat)), by rw [lva_191_46]; exact List.forall_mem_cons.mpr ⟨rfl, List.forall_mem_cons.mpr ⟨rfl, List.forall_mem_cons.mpr ⟨rfl, fun _ h => absurd h List.not_mem_nil⟩⟩⟩⟩ h
          · replace h := h.2 c
            exact Pl.live (l' := []) hM lv_191 ⟨show ndL _ from (by decide : List.Nodup ([3, 0, 1, 2] : List Nat)), show ndL _ from (by decide : List.Nodup ([] : List Nat)), by rw [lva_191_45]; exact fun _ h => absurd h List.not_mem_nil⟩ h
set_option maxRecDepth 100000 in
theorem p_191_45 {n d : Nat} {Q : Option Value → Sg → Prop} (σ : Sg) (h : Q none σ) : Pl PRG (n + 1) d 191 45 [] [] σ Q := by
  have hM : PRG[191]? = some M_191 := rfl
  refine Pl.ret hM rfl rfl h
set_option maxRecDepth 100000 in
theorem p_191_46 {n d : Nat} {Q : Option Value → Sg → Prop} (σ : Sg) (x1 x3 : Int32) (h : Q none (s1 (s1 σ 97 15 x1) 97 16 x3)) : Pl PRG (n + 1) d 191 46 [(0, .ref 97), (1, .int x1), (3, .int x3)] [] σ Q := by
  have hM : PRG[191]? = some M_191 := rfl
  refine Pl.sg1 (pc' := 56) (ls' := [(0, .ref 97), (1, .int x1), (3, .int x3)]) (st' := []) (σ' := (s1 (s1 σ 97 15 x1) 97 16 x3)) hM 5 rfl ?_
  refine Pl.weak (Pl.ret hM rfl rfl h)
set_option maxRecDepth 100000 in
theorem p_192_0 {n d : Nat} {Q : Option Value → Sg → Prop} (σ : Sg) (h : (((σ.1 97 11) = (400 : Int32) → (∀ σ1, RCx PRG n 190 [.ref 97, .int (2 : Int32)] σ none σ1 → Q none σ1)) ∧ (¬ (σ.1 97 11) = (400 : Int32) → Q none (s1 σ 97 11 ((σ.1 97 11) + (1 : Int32)))))) : Pl PRG (n + 1) d 192 0 [(0, .ref 97)] [] σ Q := by
  have hM : PRG[192]? = some M_192 := rfl
  refine Pl.brN1 (c := (σ.1 97 11) = (400 : Int32)) (a := 18) (b := 10) (ls' := [(0, .ref 97)]) (st' := []) (σ' := σ) hM 3 rfl (fun c => ?_) (fun c => ?_)
  · replace h := h.2 c
    refine Pl.seg (pc' := 28) (ls' := [(0, .ref 97)]) (st' := []) (σ' := (s1 σ 97 11 ((σ.1 97 11) + (1 : Int32)))) hM 6 rfl ?_
    refine Pl.weak (Pl.ret hM rfl rfl h)
  · replace h := h.1 c
    refine Pl.seg (pc' := 12) (ls' := [(0, .ref 97)]) (st' := [.int (2 : Int32), .ref 97]) (σ' := σ) hM 2 rfl ?_
    refine Pl.weak (Pl.cV hM rfl rfl (by decide) (Mj := M_190) rfl rfl (fun σ1 hw => ?_))
    replace h := h σ1 hw
    refine Pl.seg (pc' := 28) (ls' := [(0, .ref 97)]) (st' := []) (σ' := σ1) hM 1 rfl ?_
    refine Pl.weak (Pl.ret hM rfl rfl h)
set_option maxRecDepth 100000 in
theorem p_193_0 {n d : Nat} {Q : Option Value → Sg → Prop} (σ : Sg) (x1 : Int32) (h : (∀ w2 σ1, RCx PRG n 189 [.ref 97, .int x1] σ (some (.int w2)) σ1 → (w2 = 0 ∨ w2 = 1) → ((w2 = 0 → (∀ σ3, RCx PRG n 190 [.ref 97, .int (1 : Int32)] σ1 none σ3 → Q none σ3)) ∧ (¬ w2 = 0 → (∀ σ4, RCx PRG n 192 [.ref 97] σ1 none σ4 → Q none σ4))))) : Pl PRG (n + 1) d 193 0 [(0, .ref 97), (1, .int x1)] [] σ Q := by
  have hM : PRG[193]? = some M_193 := rfl
  refine Pl.sg1 (pc' := 2) (ls' := [(0, .ref 97), (1, .int x1)]) (st' := [.int x1, .ref 97]) (σ' := σ) hM 1 rfl ?_
  refine Pl.weak (Pl.cZ hM rfl rfl (by decide) (Mj := M_189) rfl rfl (fun w2 σ1 hw hz => ?_))
  replace h := h w2 σ1 hw hz
  refine Pl.br (c := w2 = 0) (a := 15) (b := 8) (ls' := [(0, .ref 97), (1, .int x1)]) (st' := []) (σ' := σ1) hM 1 rfl (fun c => ?_) (fun c => ?_)
  · replace h := h.1 c
    refine Pl.seg (pc' := 17) (ls' := [(0, .ref 97), (1, .int x1)]) (st' := [.int (1 : Int32), .ref 97]) (σ' := σ1) hM 2 rfl ?_
    refine Pl.weak (Pl.cV hM rfl rfl (by decide) (Mj := M_190) rfl rfl (fun σ3 hw => ?_))
    replace h := h σ3 hw
    refine Pl.weak (Pl.ret hM rfl rfl h)
  · replace h := h.2 c
    refine Pl.seg (pc' := 9) (ls' := [(0, .ref 97), (1, .int x1)]) (st' := [.ref 97]) (σ' := σ1) hM 1 rfl ?_
    refine Pl.weak (Pl.cV hM rfl rfl (by decide) (Mj := M_192) rfl rfl (fun σ4 hw => ?_))
    replace h := h σ4 hw
    refine Pl.seg (pc' := 20) (ls' := [(0, .ref 97), (1, .int x1)]) (st' := []) (σ' := σ4) hM 1 rfl ?_
    refine Pl.weak (Pl.ret hM rfl rfl h)
def LV_194 : List (Nat × List Nat) := [(0, [0, 1, 2]), (1, [0, 1, 2]), (4, [0, 1, 2]), (7, [0, 1, 2]), (8, [0, 1, 2]), (9, [0, 1, 2]), (12, [0, 1, 2]), (15, [0, 1]), (16, [1]), (17, [1]), (20, [1]), (21, []), (22, [0, 1, 2]), (23, [0, 1, 2]), (26, [0, 1, 2]), (27, [0, 1, 2]), (30, [0, 1, 2]), (31, [0, 1, 2]), (32, [0, 1, 2, 3]), (33, [0, 1, 2, 3]), (34, [0, 2, 3]), (37, [0, 2, 3]), (38, [0, 2, 3]), (39, [0, 3]), (42, [0, 3]), (43, [0, 3]), (44, [0, 3]), (45, [0, 3]), (48, [0, 3]), (51, [0, 3]), (52, [3]), (55, [3]), (56, [])]
set_option maxRecDepth 100000 in
theorem lv_194 : chkLv M_194 LV_194 = true := by decide +kernel
set_option maxRecDepth 100000 in
theorem lva_194_15 : lvA LV_194 15 = [0, 1] := by decide +kernel
set_option maxRecDepth 100000 in
theorem lva_194_42 : lvA LV_194 42 = [0, 3] := by decide +kernel
set_option maxRecDepth 100000 in
theorem lva_194_51 : lvA LV_194 51 = [0, 3] := by decide +kernel
set_option maxRecDepth 100000 in
theorem p_194_0 {n d : Nat} {Q : Option Value → Sg → Prop} (σ : Sg) (x1 x2 : Int32) (h : ((0 < (σ.1 97 13) → Pl PRG n d 194 15 [(0, .ref 97), (1, .int x1)] [] σ Q) ∧ (¬ 0 < (σ.1 97 13) → (∀ w2 σ1, RCx PRG n 189 [.ref 97, .int (2 : Int32)] σ (some (.int w2)) σ1 → (w2 = 0 ∨ w2 = 1) → ((w2 = 0 → Pl PRG n d 194 15 [(0, .ref 97), (1, .int x1)] [] σ1 Q) ∧ (¬ w2 = 0 → (inR (σ1.1 97 11) 403 = true → (((σ1.1 102 (σ1.1 97 11).toNatClampNeg) < x1 → Pl PRG n d 194 42 [(0, .ref 97), (3, .int (σ1.1 102 (σ1.1 97 11).toNatClampNeg))] [] σ1 Q) ∧ (¬ (σ1.1 102 (σ1.1 97 11).toNatClampNeg) < x1 → (((σ1.1 102 (σ1.1 97 11).toNatClampNeg) ≤ x2 → Pl PRG n d 194 51 [(0, .ref 97), (3, .int (σ1.1 102 (σ1.1 97 11).toNatClampNeg))] [] σ1 Q) ∧ (¬ (σ1.1 102 (σ1.1 97 11).toNatClampNeg) ≤ x2 → Pl PRG n d 194 42 [(0, .ref 97), (3, .int (σ1.1 102 (σ1.1 97 11).toNatClampNeg))] [] σ1 Q))))))))))) : Pl PRG (n + 1) d 194 0 [(0, .ref 97), (1, .int x1), (2, .int x2)] [] σ Q := by
  have hM : PRG[194]? = some M_194 := rfl
  refine Pl.br1 (c := 0 < (σ.1 97 13)) (a := 15) (b := 7) (ls' := [(0, .ref 97), (1, .int x1), (2, .int x2)]) (st' := []) (σ' := σ) hM 2 rfl (fun c => ?_) (fun c => ?_)
  · replace h := h.1 c
    exact Pl.live (l' := [(0, .ref 97), (1, .int x1)]) hM lv_194 ⟨show ndL _ from (by decide : List.Nodup ([0, 1, 2] : List Nat)), show ndL _ from (by decide : List.Nodup ([0, 1] : List Nat)), by rw [lva_194_15]; exact List.forall_mem_cons.mpr ⟨rfl, List.forall_mem_cons.mpr ⟨rfl, fun _ h => absurd h List.not_mem_nil⟩⟩⟩ h
  · replace h := h.2 c
    refine Pl.seg (pc' := 9) (ls' := [(0, .ref 97), (1, .int x1), (2, .int x2)]) (st' := [.int (2 : Int32), .ref 97]) (σ' := σ) hM 2 rfl ?_
    refine Pl.weak (Pl.cZ hM rfl rfl (by decide) (Mj := M_189) rfl rfl (fun w2 σ1 hw hz => ?_))
    replace h := h w2 σ1 hw hz
    refine Pl.brN (c := w2 = 0) (a := 22) (b := 15) (ls' := [(0, .ref 97), (1, .int x1), (2, .int x2)]) (st' := []) (σ' := σ1) hM 1 rfl (fun c => ?_) (fun c => ?_)
    · replace h := h.2 c
      refine Pl.seg (pc' := 30) (ls' := [(0, .ref 97), (1, .int x1), (2, .int x2)]) (st' := [.int (σ1.1 97 11), .ref 102]) (σ' := σ1) hM 4 rfl ?_
      refine Pl.weak (Pl.iald hM rfl rfl (fun hi => ?_))
      replace h := h hi
      refine Pl.br (c := (σ1.1 102 (σ1.1 97 11).toNatClampNeg) < x1) (a := 42) (b := 37) (ls' := [(3, .int (σ1.1 102 (σ1.1 97 11).toNatClampNeg)), (0, .ref 97), (1, .int x1), (2, .int x2)]) (st' := []) (σ' := σ1) hM 4 rfl (fun c => ?_) (fun c => ?_)
      · replace h := h.1 c
        exact Pl.live (l' := [(0, .ref 97), (3, .int (σ1.1 102 (σ1.1 97 11).toNatClampNeg))]) hM lv_194 ⟨show ndL _ from (by decide : List.Nodup ([3, 0, 1, 2] : List Nat)), show ndL _ from (by decide : List.Nodup ([0, 3] : List Nat)), by rw [lva_194_42]; exact List.forall_mem_cons.mpr ⟨rfl, List.forall_mem_cons.mpr ⟨rfl, fun _ h => absurd h List.not_mem_nil⟩⟩⟩ h
      · replace h := h.2 c
        refine Pl.br (c := (σ1.1 102 (σ1.1 97 11).toNatClampNeg) ≤ x2) (a := 51) (b := 42) (ls' := [(3, .int (σ1.1 102 (σ1.1 97 11).toNatClampNeg)), (0, .ref 97), (1, .int x1), (2, .int x2)]) (st' := []) (σ' := σ1) hM 3 rfl (fun c => ?_) (fun c => ?_)
        · replace h := h.1 c
          exact Pl.live (l' := [(0, .ref 97), (3, .int (σ1.1 102 (σ1.1 97 11).toNatClampNeg))]) hM lv_194 ⟨show ndL _ from (by decide : List.Nodup ([3, 0, 1, 2] : List Nat)), show ndL _ from (by decide : List.Nodup ([0, 3] : List Nat)), by rw [lva_194_51]; exact List.forall_mem_cons.mpr ⟨rfl, List.forall_mem_cons.mpr ⟨rfl, fun _ h => absurd h List.not_mem_nil⟩⟩⟩ h
        · replace h := h.2 c
          exact Pl.live (l' := [(0, .ref 97), (3, .int (σ1.1 102 (σ1.1 97 11).toNatClampNeg))]) hM lv_194 ⟨show ndL _ from (by decide : List.Nodup ([3, 0, 1, 2] : List Nat)), show ndL _ from (by decide : List.Nodup ([0, 3] : List Nat)), by rw [lva_194_42]; exact List.forall_mem_cons.mpr ⟨rfl, List.forall_mem_cons.mpr ⟨rfl, fun _ h => absurd h List.not_mem_nil⟩⟩⟩ h
    · replace h := h.1 c
      exact Pl.live (l' := [(0, .ref 97), (1, .int x1)]) hM lv_194 ⟨show ndL _ from (by decide : List.Nodup ([0, 1, 2] : List Nat)), show ndL _ from (by decide : List.Nodup ([0, 1] : List Nat)), by rw [lva_194_15]; exact List.forall_mem_cons.mpr ⟨rfl, List.forall_mem_cons.mpr ⟨rfl, fun _ h => absurd h List.not_mem_nil⟩⟩⟩ h
set_option maxRecDepth 100000 in
theorem p_194_15 {n d : Nat} {Q : Option Value → Sg → Prop} (σ : Sg) (x1 : Int32) (h : (∀ σ1, RCx PRG n 190 [.ref 97, .int (1 : Int32)] σ none σ1 → Q (some (.int x1)) σ1)) : Pl PRG (n + 1) d 194 15 [(0, .ref 97), (1, .int x1)] [] σ Q := by
  have hM : PRG[194]? = some M_194 := rfl
  refine Pl.sg1 (pc' := 17) (ls' := [(0, .ref 97), (1, .int x1)]) (st' := [.int (1 : Int32), .ref 97]) (σ' := σ) hM 1 rfl ?_
  refine Pl.weak (Pl.cV hM rfl rfl (by decide) (Mj := M_190) rfl rfl (fun σ1 hw => ?_))
  replace h := h σ1 hw
  refine Pl.seg (pc' := 21) (ls' := [(0, .ref 97), (1, .int x1)]) (st' := [.int x1]) (σ' := σ1) hM 1 rfl ?_
  refine Pl.weak (Pl.ret hM rfl rfl h)
set_option maxRecDepth 100000 in
theorem p_194_42 {n d : Nat} {Q : Option Value → Sg → Prop} (σ : Sg) (x3 : Int32) (h : (∀ σ1, RCx PRG n 191 [.ref 97, .int (5 : Int32), .int (σ.1 97 11)] σ none σ1 → Pl PRG n d 194 51 [(0, .ref 97), (3, .int x3)] [] σ1 Q)) : Pl PRG (n + 1) d 194 42 [(0, .ref 97), (3, .int x3)] [] σ Q := by
  have hM : PRG[194]? = some M_194 := rfl
  refine Pl.sg1 (pc' := 48) (ls' := [(0, .ref 97), (3, .int x3)]) (st' := [.int (σ.1 97 11), .int (5 : Int32), .ref 97]) (σ' := σ) hM 3 rfl ?_
  refine Pl.weak (Pl.cV hM rfl rfl (by decide) (Mj := M_191) rfl rfl (fun σ1 hw => ?_))
  replace h := h σ1 hw
  exact Pl.live (l' := [(0, .ref 97), (3, .int x3)]) hM lv_194 ⟨show ndL _ from (by decide : List.Nodup ([0, 3] : List Nat)), show ndL _ from (by decide : List.Nodup ([0, 3] : List Nat)), by rw [lva_194_51]; exact List.forall_mem_cons.mpr ⟨rfl, List.forall_mem_cons.mpr ⟨rfl, fun _ h => absurd h List.not_mem_nil⟩⟩⟩ h
set_option maxRecDepth 100000 in
theorem p_194_51 {n d : Nat} {Q : Option Value → Sg → Prop} (σ : Sg) (x3 : Int32) (h : (∀ σ1, RCx PRG n 192 [.ref 97] σ none σ1 → Q (some (.int x3)) σ1)) : Pl PRG (n + 1) d 194 51 [(0, .ref 97), (3, .int x3)] [] σ Q := by
  have hM : PRG[194]? = some M_194 := rfl
  refine Pl.sg1 (pc' := 52) (ls' := [(0, .ref 97), (3, .int x3)]) (st' := [.ref 97]) (σ' := σ) hM 0 rfl ?_
  refine Pl.weak (Pl.cV hM rfl rfl (by decide) (Mj := M_192) rfl rfl (fun σ1 hw => ?_))
  replace h := h σ1 hw
  refine Pl.seg (pc' := 56) (ls' := [(0, .ref 97), (3, .int x3)]) (st' := [.int x3]) (σ' := σ1) hM 1 rfl ?_
  refine Pl.weak (Pl.ret hM rfl rfl h)
set_option maxRecDepth 100000 in
theorem p_196_0 {n d : Nat} {Q : Option Value → Sg → Prop} (σ : Sg) (x1 x2 : Int32) (h : (inR (σ.1 97 37) 840 = true → (inR (σ.1 97 37) 840 = true → Q none (s1 (s1 (s1 σ 120 (σ.1 97 37).toNatClampNeg x1) 121 (σ.1 97 37).toNatClampNeg x2) 97 37 ((σ.1 97 37) + (1 : Int32)))))) : Pl PRG (n + 1) d 196 0 [(0, .ref 97), (1, .int x1), (2, .int x2)] [] σ Q := by
  have hM : PRG[196]? = some M_196 := rfl
  refine Pl.sg1 (pc' := 9) (ls' := [(0, .ref 97), (1, .int x1), (2, .int x2)]) (st' := [.int x1, .int (σ.1 97 37), .ref 120]) (σ' := σ) hM 4 rfl ?_
  refine Pl.weak (Pl.iast hM rfl rfl (fun hi => ?_))
  replace h := h hi
  refine Pl.seg (pc' := 19) (ls' := [(0, .ref 97), (1, .int x1), (2, .int x2)]) (st' := [.int x2, .int (σ.1 97 37), .ref 121]) (σ' := (s1 σ 120 (σ.1 97 37).toNatClampNeg x1)) hM 5 rfl ?_
  refine Pl.weak (Pl.iast hM rfl rfl (fun hi => ?_))
  replace h := h hi
  refine Pl.seg (pc' := 30) (ls' := [(0, .ref 97), (1, .int x1), (2, .int x2)]) (st' := []) (σ' := (s1 (s1 (s1 σ 120 (σ.1 97 37).toNatClampNeg x1) 121 (σ.1 97 37).toNatClampNeg x2) 97 37 ((σ.1 97 37) + (1 : Int32)))) hM 6 rfl ?_
  refine Pl.weak (Pl.ret hM rfl rfl h)
def LV_197 : List (Nat × List Nat) := [(0, [0]), (1, [0]), (2, [0]), (5, [0]), (8, [0]), (9, [0]), (10, [0]), (11, [0]), (14, [0]), (15, [0]), (18, [0]), (19, [0]), (22, [0]), (23, []), (26, []), (29, [0]), (30, [0]), (33, [0]), (36, [0]), (37, [0]), (40, [0]), (41, [0]), (44, [0]), (45, [0]), (47, [0]), (50, [0]), (51, [0]), (54, [0]), (55, [0]), (58, [0]), (59, [0]), (61, [0]), (64, [0]), (65, [0]), (66, [0]), (67, [0]), (70, [0]), (71, [0]), (74, [0]), (75, [0]), (77, [0]), (78, [0]), (81, [0]), (82, []), (85, []), (88, [0]), (89, [0]), (91, [0]), (94, [0]), (97, [0]), (98, [0]), (101, [0]), (102, [0]), (103, [0]), (104, [0]), (107, [0]), (108, [0, 1]), (109, [1]), (110, [1]), (112, [1]), (113, [1]), (114, [1]), (117, []), (118, []), (121, [1]), (122, []), (123, []), (126, []), (129, [0]), (130, []), (131, []), (134, [])]
set_option maxRecDepth 100000 in
theorem lv_197 : chkLv M_197 LV_197 = true := by decide +kernel
set_option maxRecDepth 100000 in
theorem lva_197_88 : lvA LV_197 88 = [0] := by decide +kernel
set_option maxRecDepth 100000 in
theorem lva_197_134 : lvA LV_197 134 = [] := by decide +kernel
set_option maxRecDepth 100000 in
theorem p_197_0 {n d : Nat} {Q : Option Value → Sg → Prop} (σ : Sg) (h : (∀ w2 σ1, RCx PRG n 189 [.ref 97, .int (2 : Int32)] σ (some (.int w2)) σ1 → (w2 = 0 ∨ w2 = 1) → ((w2 = 0 → (((σ1.1 97 13) = 0 → (inR (σ1.1 97 11) 403 = true → (((σ1.1 100 (σ1.1 97 11).toNatClampNeg) < (31 : Int32) → Pl PRG n d 197 88 [(0, .ref 97)] [] σ1 Q) ∧ (¬ (σ1.1 100 (σ1.1 97 11).toNatClampNeg) < (31 : Int32) → (inR (σ1.1 97 11) 403 = true → (((40 : Int32) < (σ1.1 100 (σ1.1 97 11).toNatClampNeg) → Pl PRG n d 197 88 [(0, .ref 97)] [] σ1 Q) ∧ (¬ (40 : Int32) < (σ1.1 100 (σ1.1 97 11).toNatClampNeg) → (inR (σ1.1 97 11) 403 = true → (∀ σ3, RCx PRG n 196 [.ref 97, .int (1 : Int32), .int ((σ1.1 100 (σ1.1 97 11).toNatClampNeg) - (31 : Int32))] σ1 none σ3 → (∀ σ4, RCx PRG n 192 [.ref 97] σ3 none σ4 → Pl PRG n d 197 134 [] [] σ4 Q)))))))))) ∧ (¬ (σ1.1 97 13) = 0 → Pl PRG n d 197 88 [(0, .ref 97)] [] σ1 Q))) ∧ (¬ w2 = 0 → (inR (σ1.1 97 11) 403 = true → (∀ σ5, RCx PRG n 196 [.ref 97, .int (0 : Int32), .int (σ1.1 102 (σ1.1 97 11).toNatClampNeg)] σ1 none σ5 → (∀ σ6, RCx PRG n 192 [.ref 97] σ5 none σ6 → Pl PRG n d 197 134 [] [] σ6 Q))))))) : Pl PRG (n + 1) d 197 0 [(0, .ref 97)] [] σ Q := by
  have hM : PRG[197]? = some M_197 := rfl
  refine Pl.sg1 (pc' := 2) (ls' := [(0, .ref 97)]) (st' := [.int (2 : Int32), .ref 97]) (σ' := σ) hM 1 rfl ?_
  refine Pl.weak (Pl.cZ hM rfl rfl (by decide) (Mj := M_189) rfl rfl (fun w2 σ1 hw hz => ?_))
  replace h := h w2 σ1 hw hz
  refine Pl.br (c := w2 = 0) (a := 29) (b := 8) (ls' := [(0, .ref 97)]) (st' := []) (σ' := σ1) hM 1 rfl (fun c => ?_) (fun c => ?_)
  · replace h := h.1 c
    refine Pl.brN (c := (σ1.1 97 13) = 0) (a := 88) (b := 36) (ls' := [(0, .ref 97)]) (st' := []) (σ' := σ1) hM 3 rfl (fun c => ?_) (fun c => ?_)
    · replace h := h.2 c
      exact Pl.live (l' := [(0, .ref 97)]) hM lv_197 ⟨show ndL _ from (by decide : List.Nodup ([0] : List Nat)), show ndL _ from (by decide : List.Nodup ([0] : List Nat)), by rw [lva_197_88]; exact List.forall_mem_cons.mpr ⟨rfl, fun _ h => absurd h List.not_mem_nil⟩⟩ h
    · replace h := h.1 c
      refine Pl.seg (pc' := 44) (ls' := [(0, .ref 97)]) (st' := [.int (σ1.1 97 11), .ref 100]) (σ' := σ1) hM 4 rfl ?_
      refine Pl.weak (Pl.iald hM rfl rfl (fun hi => ?_))
      replace h := h hi
      refine Pl.br (c := (σ1.1 100 (σ1.1 97 11).toNatClampNeg) < (31 : Int32)) (a := 88) (b := 50) (ls' := [(0, .ref 97)]) (st' := []) (σ' := σ1) hM 2 rfl (fun c => ?_) (fun c => ?_)
      · replace h := h.1 c
        exact Pl.live (l' := [(0, .ref 97)]) hM lv_197 ⟨show ndL _ from (by decide : List.Nodup ([0] : List Nat)), show ndL _ from (by decide : List.Nodup ([0] : List Nat)), by rw [lva_197_88]; exact List.forall_mem_cons.mpr ⟨rfl, fun _ h => absurd h List.not_mem_nil⟩⟩ h
      · replace h := h.2 c
        refine Pl.seg (pc' := 58) (ls' := [(0, .ref 97)]) (st' := [.int (σ1.1 97 11), .ref 100]) (σ' := σ1) hM 4 rfl ?_
        refine Pl.weak (Pl.iald hM rfl rfl (fun hi => ?_))
        replace h := h hi
        refine Pl.br (c := (40 : Int32) < (σ1.1 100 (σ1.1 97 11).toNatClampNeg)) (a := 88) (b := 64) (ls' := [(0, .ref 97)]) (st' := []) (σ' := σ1) hM 2 rfl (fun c => ?_) (fun c => ?_)
        · replace h := h.1 c
          exact Pl.live (l' := [(0, .ref 97)]) hM lv_197 ⟨show ndL _ from (by decide : List.Nodup ([0] : List Nat)), show ndL _ from (by decide : List.Nodup ([0] : List Nat)), by rw [lva_197_88]; exact List.forall_mem_cons.mpr ⟨rfl, fun _ h => absurd h List.not_mem_nil⟩⟩ h
        · replace h := h.2 c
          refine Pl.seg (pc' := 74) (ls' := [(0, .ref 97)]) (st' := [.int (σ1.1 97 11), .ref 100, .int (1 : Int32), .ref 97]) (σ' := σ1) hM 6 rfl ?_
          refine Pl.weak (Pl.iald hM rfl rfl (fun hi => ?_))
          replace h := h hi
          refine Pl.seg (pc' := 78) (ls' := [(0, .ref 97)]) (st' := [.int ((σ1.1 100 (σ1.1 97 11).toNatClampNeg) - (31 : Int32)), .int (1 : Int32), .ref 97]) (σ' := σ1) hM 2 rfl ?_
          refine Pl.weak (Pl.cV hM rfl rfl (by decide) (Mj := M_196) rfl rfl (fun σ3 hw => ?_))
          replace h := h σ3 hw
          refine Pl.seg (pc' := 82) (ls' := [(0, .ref 97)]) (st' := [.ref 97]) (σ' := σ3) hM 1 rfl ?_
          refine Pl.weak (Pl.cV hM rfl rfl (by decide) (Mj := M_192) rfl rfl (fun σ4 hw => ?_))
          replace h := h σ4 hw
          refine Pl.seg (pc' := 134) (ls' := [(0, .ref 97)]) (st' := []) (σ' := σ4) hM 1 rfl ?_
          exact Pl.live (l' := []) hM lv_197 ⟨show ndL _ from (by decide : List.Nodup ([0] : List Nat)), show ndL _ from (by decide : List.Nodup ([] : List Nat)), by rw [lva_197_134]; exact fun _ h => absurd h List.not_mem_nil⟩ h
  · replace h := h.2 c
    refine Pl.seg (pc' := 18) (ls' := [(0, .ref 97)]) (st' := [.int (σ1.1 97 11), .ref 102, .int (0 : Int32), .ref 97]) (σ' := σ1) hM 6 rfl ?_
    refine Pl.weak (Pl.iald hM rfl rfl (fun hi => ?_))
    replace h := h hi
    refine Pl.weak (Pl.cV hM rfl rfl (by decide) (Mj := M_196) rfl rfl (fun σ5 hw => ?_))
    replace h := h σ5 hw
    refine Pl.seg (pc' := 23) (ls' := [(0, .ref 97)]) (st' := [.ref 97]) (σ' := σ5) hM 1 rfl ?_
    refine Pl.weak (Pl.cV hM rfl rfl (by decide) (Mj := M_192) rfl rfl (fun σ6 hw => ?_))
    replace h := h σ6 hw
    refine Pl.seg (pc' := 134) (ls' := [(0, .ref 97)]) (st' := []) (σ' := σ6) hM 1 rfl ?_
    exact Pl.live (l' := []) hM lv_197 ⟨show ndL _ from (by decide : List.Nodup ([0] : List Nat)), show ndL _ from (by decide : List.Nodup ([] : List Nat)), by rw [lva_197_134]; exact fun _ h => absurd h List.not_mem_nil⟩ h
set_option maxRecDepth 100000 in
theorem p_197_88 {n d : Nat} {Q : Option Value → Sg → Prop} (σ : Sg) (h : (∀ w2 σ1, RCx PRG n 189 [.ref 97, .int (41 : Int32)] σ (some (.int w2)) σ1 → (w2 = 0 ∨ w2 = 1) → ((w2 = 0 → (∀ σ3, RCx PRG n 190 [.ref 97, .int (1 : Int32)] σ1 none σ3 → Pl PRG n d 197 134 [] [] σ3 Q)) ∧ (¬ w2 = 0 → (∀ σ4, RCx PRG n 192 [.ref 97] σ1 none σ4 → (∀ w6 σ5, RCx PRG n 194 [.ref 97, .int (0 : Int32), .int (3 : Int32)] σ4 (some (.int w6)) σ5 → ((w6 ≤ (3 : Int32) → (∀ σ7, RCx PRG n 196 [.ref 97, .int (1 : Int32), .int ((10 : Int32) + w6)] σ5 none σ7 → Pl PRG n d 197 134 [] [] σ7 Q)) ∧ (¬ w6 ≤ (3 : Int32) → (∀ σ8, RCx PRG n 196 [.ref 97, .int (1 : Int32), .int ((10 : Int32) + (3 : Int32))] σ5 none σ8 → Pl PRG n d 197 134 [] [] σ8 Q))))))))) : Pl PRG (n + 1) d 197 88 [(0, .ref 97)] [] σ Q := by
  have hM : PRG[197]? = some M_197 := rfl
  refine Pl.sg1 (pc' := 91) (ls' := [(0, .ref 97)]) (st' := [.int (41 : Int32), .ref 97]) (σ' := σ) hM 1 rfl ?_
  refine Pl.weak (Pl.cZ hM rfl rfl (by decide) (Mj := M_189) rfl rfl (fun w2 σ1 hw hz => ?_))
  replace h := h w2 σ1 hw hz
  refine Pl.br (c := w2 = 0) (a := 129) (b := 97) (ls' := [(0, .ref 97)]) (st' := []) (σ' := σ1) hM 1 rfl (fun c => ?_) (fun c => ?_)
  · replace h := h.1 c
    refine Pl.seg (pc' := 131) (ls' := [(0, .ref 97)]) (st' := [.int (1 : Int32), .ref 97]) (σ' := σ1) hM 2 rfl ?_
    refine Pl.weak (Pl.cV hM rfl rfl (by decide) (Mj := M_190) rfl rfl (fun σ3 hw => ?_))
    replace h := h σ3 hw
    exact Pl.live (l' := []) hM lv_197 ⟨show ndL _ from (by decide : List.Nodup ([0] : List Nat)), show ndL _ from (by decide : List.Nodup ([] : List Nat)), by rw [lva_197_134]; exact fun _ h => absurd h List.not_mem_nil⟩ h
  · replace h := h.2 c
    refine Pl.seg (pc' := 98) (ls' := [(0, .ref 97)]) (st' := [.ref 97]) (σ' := σ1) hM 1 rfl ?_
    refine Pl.weak (Pl.cV hM rfl rfl (by decide) (Mj := M_192) rfl rfl (fun σ4 hw => ?_))
    replace h := h σ4 hw
    refine Pl.seg (pc' := 104) (ls' := [(0, .ref 97)]) (st' := [.int (3 : Int32), .int (0 : Int32), .ref 97]) (σ' := σ4) hM 3 rfl ?_
    refine Pl.weak (Pl.cI hM rfl rfl (by decide) (Mj := M_194) rfl rfl (fun w6 σ5 hw => ?_))
    replace h := h w6 σ5 hw
    refine Pl.br (c := w6 ≤ (3 : Int32)) (a := 121) (b := 117) (ls' := [(1, .int w6), (0, .ref 97)]) (st' := [.int (10 : Int32), .int (1 : Int32), .ref 97]) (σ' := σ5) hM 7 rfl (fun c => ?_) (fun c => ?_)
    · replace h := h.1 c
      refine Pl.seg (pc' := 123) (ls' := [(1, .int w6), (0, .ref 97)]) (st' := [.int ((10 : Int32) + w6), .int (1 : Int32), .ref 97]) (σ' := σ5) hM 2 rfl ?_
      refine Pl.weak (Pl.cV hM rfl rfl (by decide) (Mj := M_196) rfl rfl (fun σ7 hw => ?_))
      replace h := h σ7 hw
      refine Pl.seg (pc' := 134) (ls' := [(1, .int w6), (0, .ref 97)]) (st' := []) (σ' := σ7) hM 1 rfl ?_
      exact Pl.live (l' := []) hM lv_197 ⟨show ndL _ from (by decide : List.Nodup ([1, 0] : List Nat)), show ndL _ from (by decide : List.Nodup ([] : List Nat)), by rw [lva_197_134]; exact fun _ h => absurd h List.not_mem_nil⟩ h
    · replace h := h.2 c
      refine Pl.seg (pc' := 123) (ls' := [(1, .int w6), (0, .ref 97)]) (st' := [.int ((10 : Int32) + (3 : Int32)), .int (1 : Int32), .ref 97]) (σ' := σ5) hM 3 rfl ?_
      refine Pl.weak (Pl.cV hM rfl rfl (by decide) (Mj := M_196) rfl rfl (fun σ8 hw => ?_))
      replace h := h σ8 hw
      refine Pl.seg (pc' := 134) (ls' := [(1, .int w6), (0, .ref 97)]) (st' := []) (σ' := σ8) hM 1 rfl ?_
      exact Pl.live (l' := []) hM lv_197 ⟨show ndL _ from (by decide : List.Nodup ([1, 0] : List Nat)), show ndL _ from (by decide : List.Nodup ([] : List Nat)), by rw [lva_197_134]; exact fun _ h => absurd h List.not_mem_nil⟩ h
set_option maxRecDepth 100000 in
theorem p_197_134 {n d : Nat} {Q : Option Value → Sg → Prop} (σ : Sg) (h : Q none σ) : Pl PRG (n + 1) d 197 134 [] [] σ Q := by
  have hM : PRG[197]? = some M_197 := rfl
  refine Pl.ret hM rfl rfl h
def LV_198 : List (Nat × List Nat) := [(0, [0, 1]), (1, [0, 1]), (4, [0, 1]), (7, [0, 1]), (8, [0, 1]), (11, [0, 1]), (12, [0, 1]), (15, [0, 1]), (16, [0, 1]), (17, [0, 1]), (18, [0, 1]), (19, [0, 1, 2]), (20, [0, 1, 2]), (22, [0, 1, 2]), (25, [0, 1, 2]), (26, [0, 1, 2]), (29, [0, 1, 2]), (30, [0, 1, 2]), (32, [0, 1, 2]), (35, [0, 1, 2]), (36, [0, 1, 2]), (38, [0, 1, 2]), (41, []), (42, [0, 1, 2]), (43, [0, 1, 2]), (44, [0, 1, 2]), (47, [0, 1, 2]), (48, [0, 1, 2]), (49, [0, 1, 2]), (52, [0, 1, 2]), (53, [0, 1, 2]), (54, [0, 1, 2]), (56, [0, 1, 2]), (59, [0, 1]), (60, [0, 1]), (63, [0, 1, 2]), (64, [0, 1, 2]), (66, [0, 1, 2]), (69, [0, 1]), (70, [0, 1]), (73, [0, 1, 2]), (74, [0, 1]), (76, [0, 1]), (79, [0, 1]), (80, [0, 1]), (83, [0, 1]), (84, [0, 1]), (85, [0, 1]), (88, [0, 1]), (91, [])]
set_option maxRecDepth 100000 in
theorem lv_198 : chkLv M_198 LV_198 = true := by decide +kernel
set_option maxRecDepth 100000 in
theorem lva_198_0 : lvA LV_198 0 = [0, 1] := by decide +kernel
set_option maxRecDepth 100000 in
theorem lva_198_41 : lvA LV_198 41 = [] := by decide +kernel
set_option maxRecDepth 100000 in
theorem lva_198_42 : lvA LV_198 42 = [0, 1, 2] := by decide +kernel
set_option maxRecDepth 100000 in
theorem p_198_0 {n d : Nat} {Q : Option Value → Sg → Prop} (σ : Sg) (x1 : Int32) (h : (((σ.1 97 41) ≤ 0 → Q none σ) ∧ (¬ (σ.1 97 41) ≤ 0 → (inR ((σ.1 97 41) - (1 : Int32)) 64 = true → (((σ.1 122 ((σ.1 97 41) - (1 : Int32)).toNatClampNeg) = (6 : Int32) → Pl PRG n d 198 41 [] [] σ Q) ∧ (¬ (σ.1 122 ((σ.1 97 41) - (1 : Int32)).toNatClampNeg) = (6 : Int32) → ((x1 = 0 → Pl PRG n d 198 42 [(0, .ref 97), (1, .int x1), (2, .int (σ.1 122 ((σ.1 97 41) - (1 : Int32)).toNatClampNeg))] [] σ Q) ∧ (¬ x1 = 0 → (((σ.1 122 ((σ.1 97 41) - (1 : Int32)).toNatClampNeg) = (8 : Int32) → Pl PRG n d 198 41 [] [] σ Q) ∧ (¬ (σ.1 122 ((σ.1 97 41) - (1 : Int32)).toNatClampNeg) = (8 : Int32) → (((σ.1 122 ((σ.1 97 41) - (1 : Int32)).toNatClampNeg) = (9 : Int32) → Pl PRG n d 198 41 [] [] σ Q) ∧ (¬ (σ.1 122 ((σ.1 97 41) - (1 : Int32)).toNatClampNeg) = (9 : Int32) → Pl PRG n d 198 42 [(0, .ref 97), (1, .int x1), (2, .int (σ.1 122 ((σ.1 97 41) - (1 : Int32)).toNatClampNeg))] [] σ Q)))))))))))) : Pl PRG (n + 1) d 198 0 [(0, .ref 97), (1, .int x1)] [] σ Q := by
  have hM : PRG[198]? = some M_198 := rfl
  refine Pl.br1 (c := (σ.1 97 41) ≤ 0) (a := 91) (b := 7) (ls' := [(0, .ref 97), (1, .int x1)]) (st' := []) (σ' := σ) hM 2 rfl (fun c => ?_) (fun c => ?_)
  · replace h := h.1 c
    refine Pl.weak (Pl.ret hM rfl rfl h)
  · replace h := h.2 c
    refine Pl.seg (pc' := 17) (ls' := [(0, .ref 97), (1, .int x1)]) (st' := [.int ((σ.1 97 41) - (1 : Int32)), .ref 122]) (σ' := σ) hM 6 rfl ?_
    refine Pl.weak (Pl.iald hM rfl rfl (fun hi => ?_))
    replace h := h hi
    refine Pl.br (c := (σ.1 122 ((σ.1 97 41) - (1 : Int32)).toNatClampNeg) = (6 : Int32)) (a := 41) (b := 25) (ls' := [(2, .int (σ.1 122 ((σ.1 97 41) - (1 : Int32)).toNatClampNeg)), (0, .ref 97), (1, .int x1)]) (st' := []) (σ' := σ) hM 4 rfl (fun c => ?_) (fun c => ?_)
    · replace h := h.1 c
      exact Pl.live (l' := []) hM lv_198 ⟨show ndL _ from (by decide : List.Nodup ([2, 0, 1] : List Nat)), show ndL _ from (by decide : List.Nodup ([] : List Nat)), by rw [lva_198_41]; exact fun _ h => absurd h List.not_mem_nil⟩ h
    · replace h := h.2 c
      refine Pl.br (c := x1 = 0) (a := 42) (b := 29) (ls' := [(2, .int (σ.1 122 ((σ.1 97 41) - (1 : Int32)).toNatClampNeg)), (0, .ref 97), (1, .int x1)]) (st' := []) (σ' := σ) hM 2 rfl (fun c => ?_) (fun c => ?_)
      · replace h := h.1 c
        exact Pl.live (l' := [(0, .ref 97), (1, .int x1), (2, .int (σ.1 122 ((σ.1 97 41) - (1 : Int32)).toNatClampNeg))]) hM lv_198 ⟨show ndL _ from (by decide : List.Nodup ([2, 0, 1] : List Nat)), show ndL _ from (by decide : List.Nodup ([0, 1, 2] : List Nat)), by rw [lva_198_42]; exact List.forall_mem_cons.mpr ⟨rfl, List.forall_mem_cons.mpr ⟨rfl, List.forall_mem_cons.mpr ⟨rfl, fun _ h => absurd h List.not_mem_nil⟩⟩⟩⟩ h
      · replace h := h.2 c
        refine Pl.br (c := (σ.1 122 ((σ.1 97 41) - (1 : Int32)).toNatClampNeg) = (8 : Int32)) (a := 41) (b := 35) (ls' := [(2, .int (σ.1 122 ((σ.1 97 41) - (1 : Int32)).toNatClampNeg)), (0, .ref 97), (1, .int x1)]) (st' := []) (σ' := σ) hM 3 rfl (fun c => ?_) (fun c => ?_)
        · replace h := h.1 c
          exact Pl.live (l' := []) hM lv_198 ⟨show ndL _ from (by decide : List.Nodup ([2, 0, 1] : List Nat)), show ndL _ from (by decide : List.Nodup ([] : List Nat)), by rw [lva_198_41]; exact fun _ h => absurd h List.not_mem_nil⟩ h
        · replace h := h.2 c
          refine Pl.brN (c := (σ.1 122 ((σ.1 97 41) - (1 : Int32)).toNatClampNeg) = (9 : Int32)) (a := 42) (b := 41) (ls' := [(2, .int (σ.1 122 ((σ.1 97 41) - (1 : Int32)).toNatClampNeg)), (0, .ref 97), (1, .int x1)]) (st' := []) (σ' := σ) hM 3 rfl (fun c => ?_) (fun c => ?_)
          · replace h := h.2 c
            exact Pl.live (l' := [(0, .ref 97), (1, .int x1), (2, .int (σ.1 122 ((σ.1 97 41) - (1 : Int32)).toNatClampNeg))]) hM lv_198 ⟨show ndL _ from (by decide : List.Nodup ([2, 0, 1] : List Nat)), show ndL _ from (by decide : List.Nodup ([0, 1, 2] : List Nat)), by rw [lva_198_42]; exact List.forall_mem_cons.mpr ⟨rfl, List.forall_mem_cons.mpr ⟨rfl, List.forall_mem_cons.mpr ⟨rfl, fun _ h => absurd h List.not_mem_nil⟩⟩⟩⟩ h
          · replace h := h.1 c
            exact Pl.live (l' := []) hM lv_198 ⟨show ndL _ from (by decide : List.Nodup ([2, 0, 1] : List Nat)), show ndL _ from (by decide : List.Nodup ([] : List Nat)), by rw [lva_198_41]; exact fun _ h => absurd h List.not_mem_nil⟩ h
set_option maxRecDepth 100000 in
theorem p_198_41 {n d : Nat} {Q : Option Value → Sg → Prop} (σ : Sg) (h : Q none σ) : Pl PRG (n + 1) d 198 41 [] [] σ Q := by
  have hM : PRG[198]? = some M_198 := rfl
  refine Pl.ret hM rfl rfl h
set_option maxRecDepth 100000 in
theorem p_198_42 {n d : Nat} {Q : Option Value → Sg → Prop} (σ : Sg) (x1 x2 : Int32) (h : ((x2 = (8 : Int32) → (∀ σ4, RCx PRG n 196 [.ref 97, .int (2 : Int32), .int (0 : Int32)] (s1 σ 97 41 ((σ.1 97 41) - (1 : Int32))) none σ4 → Pl PRG n d 198 0 [(0, .ref 97), (1, .int x1)] [] σ4 Q)) ∧ (¬ x2 = (8 : Int32) → ((x2 = (9 : Int32) → (∀ σ3, RCx PRG n 196 [.ref 97, .int (3 : Int32), .int (0 : Int32)] (s1 σ 97 41 ((σ.1 97 41) - (1 : Int32))) none σ3 → Pl PRG n d 198 0 [(0, .ref 97), (1, .int x1)] [] σ3 Q)) ∧ (¬ x2 = (9 : Int32) → ((x2 = (10 : Int32) → (∀ σ2, RCx PRG n 196 [.ref 97, .int (4 : Int32), .int (0 : Int32)] (s1 σ 97 41 ((σ.1 97 41) - (1 : Int32))) none σ2 → Pl PRG n d 198 0 [(0, .ref 97), (1, .int x1)] [] σ2 Q)) ∧ (¬ x2 = (10 : Int32) → (∀ σ1, RCx PRG n 196 [.ref 97, .int (5 : Int32), .int (0 : Int32)] (s1 σ 97 41 ((σ.1 97 41) - (1 : Int32))) none σ1 → Pl PRG n d 198 0 [(0, .ref 97), (1, .int x1)] [] σ1 Q)))))))) : Pl PRG (n + 1) d 198 42 [(0, .ref 97), (1, .int x1), (2, .int x2)] [] σ Q := by
  have hM : PRG[198]? = some M_198 := rfl
  refine Pl.brN1 (c := x2 = (8 : Int32)) (a := 63) (b := 59) (ls' := [(0, .ref 97), (1, .int x1), (2, .int x2)]) (st' := [.ref 97]) (σ' := (s1 σ 97 41 ((σ.1 97 41) - (1 : Int32)))) hM 9 rfl (fun c => ?_) (fun c => ?_)
  · replace h := h.2 c
    refine Pl.brN (c := x2 = (9 : Int32)) (a := 73) (b := 69) (ls' := [(0, .ref 97), (1, .int x1), (2, .int x2)]) (st' := [.ref 97]) (σ' := (s1 σ 97 41 ((σ.1 97 41) - (1 : Int32)))) hM 3 rfl (fun c => ?_) (fun c => ?_)
    · replace h := h.2 c
      refine Pl.brN (c := x2 = (10 : Int32)) (a := 83) (b := 79) (ls' := [(0, .ref 97), (1, .int x1), (2, .int x2)]) (st' := [.ref 97]) (σ' := (s1 σ 97 41 ((σ.1 97 41) - (1 : Int32)))) hM 3 rfl (fun c => ?_) (fun c => ?_)
      · replace h := h.2 c
        refine Pl.seg (pc' := 85) (ls' := [(0, .ref 97), (1, .int x1), (2, .int x2)]) (st' := [.int (0 : Int32), .int (5 : Int32), .ref 97]) (σ' := (s1 σ 97 41 ((σ.1 97 41) - (1 : Int32)))) hM 2 rfl ?_
        refine Pl.weak (Pl.cV hM rfl rfl (by decide) (Mj := M_196) rfl rfl (fun σ1 hw => ?_))
        replace h := h σ1 hw
        refine Pl.seg (pc' := 0) (ls' := [(0, .ref 97), (1, .int x1), (2, .int x2)]) (st' := []) (σ' := σ1) hM 1 rfl ?_
        exact Pl.live (l' := [(0, .ref 97), (1, .int x1)]) hM lv_198 ⟨show ndL _ from (by decide : List.Nodup ([0, 1, 2] : List Nat)), show ndL _ from (by decide : List.Nodup ([0, 1] : List Nat)), by rw [lva_198_0]; exact List.forall_mem_cons.mpr ⟨rfl, List.forall_mem_cons.mpr ⟨rfl, fun _ h => absurd h List.not_mem_nil⟩⟩⟩ h
      · replace h := h.1 c
        refine Pl.seg (pc' := 85) (ls' := [(0, .ref 97), (1, .int x1), (2, .int x2)]) (st' := [.int (0 : Int32), .int (4 : Int32), .ref 97]) (σ' := (s1 σ 97 41 ((σ.1 97 41) - (1 : Int32)))) hM 3 rfl ?_
        refine Pl.weak (Pl.cV hM rfl rfl (by decide) (Mj := M_196) rfl rfl (fun σ2 hw => ?_))
        replace h := h σ2 hw
        refine Pl.seg (pc' := 0) (ls' := [(0, .ref 97), (1, .int x1), (2, .int x2)]) (st' := []) (σ' := σ2) hM 1 rfl ?_
        exact Pl.live (l' := [(0, .ref 97), (1, .int x1)]) hM lv_198 ⟨show ndL _ from (by decide : List.Nodup ([0, 1, 2] : List Nat)), show ndL _ from (by decide : List.Nodup ([0, 1] : List Nat)), by rw [lva_198_0]; exact List.forall_mem_cons.mpr ⟨rfl, List.forall_mem_cons.mpr ⟨rfl, fun _ h => absurd h List.not_mem_nil⟩⟩⟩ h
    · replace h := h.1 c
      refine Pl.seg (pc' := 85) (ls' := [(0, .ref 97), (1, .int x1), (2, .int x2)]) (st' := [.int (0 : Int32), .int (3 : Int32), .ref 97]) (σ' := (s1 σ 97 41 ((σ.1 97 41) - (1 : Int32)))) hM 3 rfl ?_
      refine Pl.weak (Pl.cV hM rfl rfl (by decide) (Mj := M_196) rfl rfl (fun σ3 hw => ?_))
      replace h := h σ3 hw
      refine Pl.seg (pc' := 0) (ls' := [(0, .ref 97), (1, .int x1), (2, .int x2)]) (st' := []) (σ' := σ3) hM 1 rfl ?_
      exact Pl.live (l' := [(0, .ref 97), (1, .int x1)]) hM lv_198 ⟨show ndL _ from (by decide : List.Nodup ([0, 1, 2] : List Nat)), show ndL _ from (by decide : List.Nodup ([0, 1] : List Nat)), by rw [lva_198_0]; exact List.forall_mem_cons.mpr ⟨rfl, List.forall_mem_cons.mpr ⟨rfl, fun _ h => absurd h List.not_mem_nil⟩⟩⟩ h
  · replace h := h.1 c
    refine Pl.seg (pc' := 85) (ls' := [(0, .ref 97), (1, .int x1), (2, .int x2)]) (st' := [.int (0 : Int32), .int (2 : Int32), .ref 97]) (σ' := (s1 σ 97 41 ((σ.1 97 41) - (1 : Int32)))) hM 3 rfl ?_
    refine Pl.weak (Pl.cV hM rfl rfl (by decide) (Mj := M_196) rfl rfl (fun σ4 hw => ?_))
    replace h := h σ4 hw
    refine Pl.seg (pc' := 0) (ls' := [(0, .ref 97), (1, .int x1), (2, .int x2)]) (st' := []) (σ' := σ4) hM 1 rfl ?_
    exact Pl.live (l' := [(0, .ref 97), (1, .int x1)]) hM lv_198 ⟨show ndL _ from (by decide : List.Nodup ([0, 1, 2] : List Nat)), show ndL _ from (by decide : List.Nodup ([0, 1] : List Nat)), by rw [lva_198_0]; exact List.forall_mem_cons.mpr ⟨rfl, List.forall_mem_cons.mpr ⟨rfl, fun _ h => absurd h List.not_mem_nil⟩⟩⟩ h
def LV_199 : List (Nat × List Nat) := [(0, [0]), (1, [0]), (2, [0]), (5, [0]), (6, [0]), (9, [0]), (10, [0, 1]), (11, [0, 1]), (12, [0, 1, 2]), (13, [0, 1]), (16, [0, 1]), (17, [0, 1]), (20, [0, 1]), (23, [0, 1]), (24, [0, 1]), (26, [0, 1]), (29, [0, 1]), (32, [0, 1]), (33, [0, 1]), (36, [0, 1]), (38, [0, 1]), (41, [0, 1]), (42, [0, 1]), (43, [0, 1]), (46, [0, 1]), (47, [0, 1]), (48, [0, 1]), (51, [0, 1]), (52, [0, 1]), (53, [0, 1]), (56, [0, 1]), (57, [0, 1]), (60, [0, 1]), (61, [0, 1]), (64, [0, 1]), (65, [0, 1]), (68, [0, 1]), (70, [0, 1]), (71, [0, 1]), (72, [0, 1]), (73, [0, 1]), (76, [0, 1]), (77, [0, 1]), (78, [0, 1]), (81, [0, 1]), (84, [0, 1]), (85, [0, 1]), (88, [0, 1]), (89, [0, 1]), (92, [0, 1]), (95, []), (96, [0, 1]), (97, [0, 1]), (99, [0, 1]), (102, [0, 1]), (105, [0, 1]), (106, [0, 1]), (109, [0, 1]), (110, [0, 1]), (113, [0, 1]), (114, [0, 1]), (115, [0, 1]), (118, [0, 1]), (119, [0, 1]), (120, [0, 1]), (123, [0, 1]), (124, [0, 1]), (125, [0, 1]), (128, [0, 1]), (129, [0, 1]), (130, [0, 1]), (133, [0, 1]), (134, [0, 1]), (135, [0, 1]), (138, [0, 1]), (139, [0, 1]), (142, [0, 1]), (145, [0, 1]), (146, [0, 1]), (148, [0, 1]), (151, [0, 1]), (154, [0, 1]), (155, [0, 1]), (157, [0, 1]), (160, [0, 1]), (163, [0, 1]), (164, [0, 1]), (166, [0, 1]), (169, [0, 1]), (172, [0, 1]), (173, [0, 1]), (175, [0, 1]), (178, [0, 1]), (181, [0, 1]), (182, [0, 1]), (185, [0, 1]), (186, [0, 1]), (187, [0, 1, 2]), (188, [0, 1, 2]), (191, [0, 1]), (192, [0, 1]), (195, [0, 1]), (196, [0]), (199, [0]), (200, [0]), (201, [0]), (204, [0]), (205, []), (206, []), (209, []), (210, [0, 1, 2]), (211, [0, 1, 2]), (212, [0, 1, 2]), (214, [0, 1, 2]), (217, [0, 1, 2]), (220, [0, 1, 2]), (221, [0, 1, 2]), (223, [0, 1, 2]), (226, [0, 1, 2]), (229, [0, 1, 2]), (230, [0, 1, 2]), (233, [0, 1, 2]), (234, [0, 1, 2]), (237, [0, 1, 2]), (238, [0, 1, 2]), (241, [0, 1, 2]), (242, [0, 1, 2]), (245, [0, 1, 2]), (246, [0, 1, 2]), (249, [0, 1, 2]), (250, [0, 1, 2]), (253, [0, 1, 2]), (254, [0, 1, 2]), (255, [0, 1, 2]), (256, [0, 1, 2]), (257, [0, 1, 2]), (260, [0, 1, 2]), (261, [0, 1, 2]), (262, [0, 1, 2]), (265, [0, 1, 2]), (266, [0, 1, 2]), (269, [0, 1, 2]), (272, [])]
set_option maxRecDepth 100000 in
theorem lv_199 : chkLv M_199 LV_199 = true := by decide +kernel
set_option maxRecDepth 100000 in
theorem lva_199_12 : lvA LV_199 12 = [0, 1, 2] := by decide +kernel
set_option maxRecDepth 100000 in
theorem lva_199_23 : lvA LV_199 23 = [0, 1] := by decide +kernel
set_option maxRecDepth 100000 in
theorem lva_199_46 : lvA LV_199 46 = [0, 1] := by decide +kernel
set_option maxRecDepth 100000 in
theorem lva_199_96 : lvA LV_199 96 = [0, 1] := by decide +kernel
set_option maxRecDepth 100000 in
theorem lva_199_145 : lvA LV_199 145 = [0, 1] := by decide +kernel
set_option maxRecDepth 100000 in
theorem lva_199_181 : lvA LV_199 181 = [0, 1] := by decide +kernel
set_option maxRecDepth 100000 in
theorem lva_199_204 : lvA LV_199 204 = [0] := by decide +kernel
set_option maxRecDepth 100000 in
theorem lva_199_272 : lvA LV_199 272 = [] := by decide +kernel
set_option maxRecDepth 100000 in
theorem p_199_0 {n d : Nat} {Q : Option Value → Sg → Prop} (σ : Sg) (h : Pl PRG n d 199 12 [(0, .ref 97), (1, .int (σ.1 97 12)), (2, .int (1 : Int32))] [] (s1 σ 97 41 (0 : Int32)) Q) : Pl PRG (n + 1) d 199 0 [(0, .ref 97)] [] σ Q := by
  have hM : PRG[199]? = some M_199 := rfl
  refine Pl.sg1 (pc' := 12) (ls' := [(2, .int (1 : Int32)), (1, .int (σ.1 97 12)), (0, .ref 97)]) (st' := []) (σ' := (s1 σ 97 41 (0 : Int32))) hM 7 rfl ?_
  exact Pl.live (l' := [(0, .ref 97), (1, .int (σ.1 97 12)), (2, .int (1 : Int32))]) hM lv_199 ⟨show ndL _ from (by decide : List.Nodup ([2, 1, 0] : List Nat)), show ndL _ from (by decide : List.Nodup ([0, 1, 2] : List Nat)), by rw [lva_199_12]; exact List.forall_mem_cons.mpr ⟨rfl, List.forall_mem_cons.mpr ⟨rfl, List.forall_mem_cons.mpr ⟨rfl, fun _ h => absurd h List.not_mem_nil⟩⟩⟩⟩ h
set_option maxRecDepth 100000 in
theorem p_199_12 {n d : Nat} {Q : Option Value → Sg → Prop} (σ : Sg) (x1 x2 : Int32) (h : ((x2 = 0 → Pl PRG n d 199 272 [] [] σ Q) ∧ (¬ x2 = 0 → (((σ.1 97 13) = 0 → Pl PRG n d 199 23 [(0, .ref 97), (1, .int x1)] [] σ Q) ∧ (¬ (σ.1 97 13) = 0 → Pl PRG n d 199 272 [] [] σ Q))))) : Pl PRG (n + 1) d 199 12 [(0, .ref 97), (1, .int x1), (2, .int x2)] [] σ Q := by
  have hM : PRG[199]? = some M_199 := rfl
  refine Pl.br1 (c := x2 = 0) (a := 272) (b := 16) (ls' := [(0, .ref 97), (1, .int x1), (2, .int x2)]) (st' := []) (σ' := σ) hM 1 rfl (fun c => ?_) (fun c => ?_)
  · replace h := h.1 c
    exact Pl.live (l' := []) hM lv_199 ⟨show ndL _ from (by decide : List.Nodup ([0, 1, 2] : List Nat)), show ndL _ from (by decide : List.Nodup ([] : List Nat)), by rw [lva_199_272]; exact fun _ h => absurd h List.not_mem_nil⟩ h
  · replace h := h.2 c
    refine Pl.brN (c := (σ.1 97 13) = 0) (a := 272) (b := 23) (ls' := [(0, .ref 97), (1, .int x1), (2, .int x2)]) (st' := []) (σ' := σ) hM 3 rfl (fun c => ?_) (fun c => ?_)
    · replace h := h.2 c
      exact Pl.live (l' := []) hM lv_199 ⟨show ndL _ from (by decide : List.Nodup ([0, 1, 2] : List Nat)), show ndL _ from (by decide : List.Nodup ([] : List Nat)), by rw [lva_199_272]; exact fun _ h => absurd h List.not_mem_nil⟩ h
    · replace h := h.1 c
      exact Pl.live (l' := [(0, .ref 97), (1, .int x1)]) hM lv_199 ⟨show ndL _ from (by decide : List.Nodup ([0, 1, 2] : List Nat)), show ndL _ from (by decide : List.Nodup ([0, 1] : List Nat)), by rw [lva_199_23]; exact List.forall_mem_cons.mpr ⟨rfl, List.forall_mem_cons.mpr ⟨rfl, fun _ h => absurd h List.not_mem_nil⟩⟩⟩ h
set_option maxRecDepth 100000 in
theorem p_199_272 {n d : Nat} {Q : Option Value → Sg → Prop} (σ : Sg) (h : Q none σ) : Pl PRG (n + 1) d 199 272 [] [] σ Q := by
  have hM : PRG[199]? = some M_199 := rfl
  refine Pl.ret hM rfl rfl h
set_option maxRecDepth 100000 in
theorem p_199_23 {n d : Nat} {Q : Option Value → Sg → Prop} (σ : Sg) (x1 : Int32) (h : (∀ w2 σ1, RCx PRG n 189 [.ref 97, .int (6 : Int32)] σ (some (.int w2)) σ1 → (w2 = 0 ∨ w2 = 1) → ((w2 = 0 → (∀ σ3, RCx PRG n 197 [.ref 97] σ1 none σ3 → (((σ3.1 97 13) ≤ 0 → Pl PRG n d 199 96 [(0, .ref 97), (1, .int x1)] [] σ3 Q) ∧ (¬ (σ3.1 97 13) ≤ 0 → Q none σ3)))) ∧ (¬ w2 = 0 → (((σ1.1 97 12) = (6 : Int32) → (∀ σ4, RCx PRG n 190 [.ref 97, .int (2 : Int32)] σ1 none σ4 → Pl PRG n d 199 46 [(0, .ref 97), (1, .int x1)] [] σ4 Q)) ∧ (¬ (σ1.1 97 12) = (6 : Int32) → Pl PRG n d 199 46 [(0, .ref 97), (1, .int x1)] [] σ1 Q)))))) : Pl PRG (n + 1) d 199 23 [(0, .ref 97), (1, .int x1)] [] σ Q := by
  have hM : PRG[199]? = some M_199 := rfl
  refine Pl.sg1 (pc' := 26) (ls' := [(0, .ref 97), (1, .int x1)]) (st' := [.int (6 : Int32), .ref 97]) (σ' := σ) hM 1 rfl ?_
  refine Pl.weak (Pl.cZ hM rfl rfl (by decide) (Mj := M_189) rfl rfl (fun w2 σ1 hw hz => ?_))
  replace h := h w2 σ1 hw hz
  refine Pl.br (c := w2 = 0) (a := 84) (b := 32) (ls' := [(0, .ref 97), (1, .int x1)]) (st' := []) (σ' := σ1) hM 1 rfl (fun c => ?_) (fun c => ?_)
  · replace h := h.1 c
    refine Pl.seg (pc' := 85) (ls' := [(0, .ref 97), (1, .int x1)]) (st' := [.ref 97]) (σ' := σ1) hM 1 rfl ?_
    refine Pl.weak (Pl.cV hM rfl rfl (by decide) (Mj := M_197) rfl rfl (fun σ3 hw => ?_))
    replace h := h σ3 hw
    refine Pl.br (c := (σ3.1 97 13) ≤ 0) (a := 96) (b := 95) (ls' := [(0, .ref 97), (1, .int x1)]) (st' := []) (σ' := σ3) hM 3 rfl (fun c => ?_) (fun c => ?_)
    · replace h := h.1 c
      exact Pl.live (l' := [(0, .ref 97), (1, .int x1)]) hM lv_199 ⟨show ndL _ from (by decide : List.Nodup ([0, 1] : List Nat)), show ndL _ from (by decide : List.Nodup ([0, 1] : List Nat)), by rw [lva_199_96]; exact List.forall_mem_cons.mpr ⟨rfl, List.forall_mem_cons.mpr ⟨rfl, fun _ h => absurd h List.not_mem_nil⟩⟩⟩ h
    · replace h := h.2 c
      refine Pl.weak (Pl.ret hM rfl rfl h)
  · replace h := h.2 c
    refine Pl.brN (c := (σ1.1 97 12) = (6 : Int32)) (a := 46) (b := 41) (ls' := [(0, .ref 97), (1, .int x1)]) (st' := []) (σ' := σ1) hM 4 rfl (fun c => ?_) (fun c => ?_)
    · replace h := h.2 c
      exact Pl.live (l' := [(0, .ref 97), (1, .int x1)]) hM lv_199 ⟨show ndL _ from (by decide : List.Nodup ([0, 1] : List Nat)), show ndL _ from (by decide : List.Nodup ([0, 1] : List Nat)), by rw [lva_199_46]; exact List.forall_mem_cons.mpr ⟨rfl, List.forall_mem_cons.mpr ⟨rfl, fun _ h => absurd h List.not_mem_nil⟩⟩⟩ h
    · replace h := h.1 c
      refine Pl.seg (pc' := 43) (ls' := [(0, .ref 97), (1, .int x1)]) (st' := [.int (2 : Int32), .ref 97]) (σ' := σ1) hM 2 rfl ?_
      refine Pl.weak (Pl.cV hM rfl rfl (by decide) (Mj := M_190) rfl rfl (fun σ4 hw => ?_))
      replace h := h σ4 hw
      exact Pl.live (l' := [(0, .ref 97), (1, .int x1)]) hM lv_199 ⟨show ndL _ from (by decide : List.Nodup ([0, 1] : List Nat)), show ndL _ from (by decide : List.Nodup ([0, 1] : List Nat)), by rw [lva_199_46]; exact List.forall_mem_cons.mpr ⟨rfl, List.forall_mem_cons.mpr ⟨rfl, fun _ h => absurd h List.not_mem_nil⟩⟩⟩ h
set_option maxRecDepth 100000 in
theorem p_199_96 {n d : Nat} {Q : Option Value → Sg → Prop} (σ : Sg) (x1 : Int32) (h : (∀ w2 σ1, RCx PRG n 189 [.ref 97, .int (7 : Int32)] σ (some (.int w2)) σ1 → (w2 = 0 ∨ w2 = 1) → ((w2 = 0 → Pl PRG n d 199 145 [(0, .ref 97), (1, .int x1)] [] σ1 Q) ∧ (¬ w2 = 0 → (((σ1.1 97 12) ≤ x1 → Pl PRG n d 199 145 [(0, .ref 97), (1, .int x1)] [] σ1 Q) ∧ (¬ (σ1.1 97 12) ≤ x1 → (∀ σ3, RCx PRG n 198 [.ref 97, .int (0 : Int32)] σ1 none σ3 → (∀ σ4, RCx PRG n 192 [.ref 97] (s1 (s1 σ3 97 41 ((σ3.1 97 41) - (1 : Int32))) 97 12 ((σ3.1 97 12) - (1 : Int32))) none σ4 → Pl PRG n d 199 96 [(0, .ref 97), (1, .int x1)] [] σ4 Q)))))))) : Pl PRG (n + 1) d 199 96 [(0, .ref 97), (1, .int x1)] [] σ Q := by
  have hM : PRG[199]? = some M_199 := rfl
  refine Pl.sg1 (pc' := 99) (ls' := [(0, .ref 97), (1, .int x1)]) (st' := [.int (7 : Int32), .ref 97]) (σ' := σ) hM 1 rfl ?_
  refine Pl.weak (Pl.cZ hM rfl rfl (by decide) (Mj := M_189) rfl rfl (fun w2 σ1 hw hz => ?_))
  replace h := h w2 σ1 hw hz
  refine Pl.br (c := w2 = 0) (a := 145) (b := 105) (ls' := [(0, .ref 97), (1, .int x1)]) (st' := []) (σ' := σ1) hM 1 rfl (fun c => ?_) (fun c => ?_)
  · replace h := h.1 c
    exact Pl.live (l' := [(0, .ref 97), (1, .int x1)]) hM lv_199 ⟨show ndL _ from (by decide : List.Nodup ([0, 1] : List Nat)), show ndL _ from (by decide : List.Nodup ([0, 1] : List Nat)), by rw [lva_199_145]; exact List.forall_mem_cons.mpr ⟨rfl, List.forall_mem_cons.mpr ⟨rfl, fun _ h => absurd h List.not_mem_nil⟩⟩⟩ h
  · replace h := h.2 c
    refine Pl.br (c := (σ1.1 97 12) ≤ x1) (a := 145) (b := 113) (ls' := [(0, .ref 97), (1, .int x1)]) (st' := []) (σ' := σ1) hM 4 rfl (fun c => ?_) (fun c => ?_)
    · replace h := h.1 c
      exact Pl.live (l' := [(0, .ref 97), (1, .int x1)]) hM lv_199 ⟨show ndL _ from (by decide : List.Nodup ([0, 1] : List Nat)), show ndL _ from (by decide : List.Nodup ([0, 1] : List Nat)), by rw [lva_199_145]; exact List.forall_mem_cons.mpr ⟨rfl, List.forall_mem_cons.mpr ⟨rfl, fun _ h => absurd h List.not_mem_nil⟩⟩⟩ h
    · replace h := h.2 c
      refine Pl.seg (pc' := 115) (ls' := [(0, .ref 97), (1, .int x1)]) (st' := [.int (0 : Int32), .ref 97]) (σ' := σ1) hM 2 rfl ?_
      refine Pl.weak (Pl.cV hM rfl rfl (by decide) (Mj := M_198) rfl rfl (fun σ3 hw => ?_))
      replace h := h σ3 hw
      refine Pl.seg (pc' := 139) (ls' := [(0, .ref 97), (1, .int x1)]) (st' := [.ref 97]) (σ' := (s1 (s1 σ3 97 41 ((σ3.1 97 41) - (1 : Int32))) 97 12 ((σ3.1 97 12) - (1 : Int32)))) hM 13 rfl ?_
      refine Pl.weak (Pl.cV hM rfl rfl (by decide) (Mj := M_192) rfl rfl (fun σ4 hw => ?_))
      replace h := h σ4 hw
      refine Pl.seg (pc' := 96) (ls' := [(0, .ref 97), (1, .int x1)]) (st' := []) (σ' := σ4) hM 1 rfl ?_
      exact Pl.live (l' := [(0, .ref 97), (1, .int x1)]) hM lv_199 ⟨show ndL _ from (by decide : List.Nodup ([0, 1] : List Nat)), show ndL _ from (by decide : List.Nodup ([0, 1] : List Nat)), by rw [lva_199_96]; exact List.forall_mem_cons.mpr ⟨rfl, List.forall_mem_cons.mpr ⟨rfl, fun _ h => absurd h List.not_mem_nil⟩⟩⟩ h
set_option maxRecDepth 100000 in
theorem p_199_46 {n d : Nat} {Q : Option Value → Sg → Prop} (σ : Sg) (x1 : Int32) (h : (∀ σ1, RCx PRG n 192 [.ref 97] (s1 σ 97 12 ((σ.1 97 12) + (1 : Int32))) none σ1 → (inR (σ1.1 97 41) 64 = true → Pl PRG n d 199 23 [(0, .ref 97), (1, .int x1)] [] (s1 (s1 σ1 122 (σ1.1 97 41).toNatClampNeg (6 : Int32)) 97 41 ((σ1.1 97 41) + (1 : Int32))) Q))) : Pl PRG (n + 1) d 199 46 [(0, .ref 97), (1, .int x1)] [] σ Q := by
  have hM : PRG[199]? = some M_199 := rfl
  refine Pl.sg1 (pc' := 57) (ls' := [(0, .ref 97), (1, .int x1)]) (st' := [.ref 97]) (σ' := (s1 σ 97 12 ((σ.1 97 12) + (1 : Int32)))) hM 6 rfl ?_
  refine Pl.weak (Pl.cV hM rfl rfl (by decide) (Mj := M_192) rfl rfl (fun σ1 hw => ?_))
  replace h := h σ1 hw
  refine Pl.seg (pc' := 70) (ls' := [(0, .ref 97), (1, .int x1)]) (st' := [.int (6 : Int32), .int (σ1.1 97 41), .ref 122]) (σ' := σ1) hM 5 rfl ?_
  refine Pl.weak (Pl.iast hM rfl rfl (fun hi => ?_))
  replace h := h hi
  refine Pl.seg (pc' := 23) (ls' := [(0, .ref 97), (1, .int x1)]) (st' := []) (σ' := (s1 (s1 σ1 122 (σ1.1 97 41).toNatClampNeg (6 : Int32)) 97 41 ((σ1.1 97 41) + (1 : Int32)))) hM 7 rfl ?_
  exact Pl.live (l' := [(0, .ref 97), (1, .int x1)]) hM lv_199 ⟨show ndL _ from (by decide : List.Nodup ([0, 1] : List Nat)), show ndL _ from (by decide : List.Nodup ([0, 1] : List Nat)), by rw [lva_199_23]; exact List.forall_mem_cons.mpr ⟨rfl, List.forall_mem_cons.mpr ⟨rfl, fun _ h => absurd h List.not_mem_nil⟩⟩⟩ h
set_option maxRecDepth 100000 in
theorem p_199_145 {n d : Nat} {Q : Option Value → Sg → Prop} (σ : Sg) (x1 : Int32) (h : (∀ w2 σ1, RCx PRG n 189 [.ref 97, .int (8 : Int32)] σ (some (.int w2)) σ1 → (w2 = 0 ∨ w2 = 1) → ((w2 = 0 → (∀ w4 σ3, RCx PRG n 189 [.ref 97, .int (9 : Int32)] σ1 (some (.int w4)) σ3 → (w4 = 0 ∨ w4 = 1) → ((w4 = 0 → (∀ w6 σ5, RCx PRG n 189 [.ref 97, .int (10 : Int32)] σ3 (some (.int w6)) σ5 → (w6 = 0 ∨ w6 = 1) → ((w6 = 0 → (∀ w8 σ7, RCx PRG n 189 [.ref 97, .int (15 : Int32)] σ5 (some (.int w8)) σ7 → (w8 = 0 ∨ w8 = 1) → ((w8 = 0 → (((σ7.1 97 12) ≤ x1 → Pl PRG n d 199 204 [(0, .ref 97)] [] σ7 Q) ∧ (¬ (σ7.1 97 12) ≤ x1 → (∀ σ9, RCx PRG n 190 [.ref 97, .int (1 : Int32)] σ7 none σ9 → Pl PRG n d 199 204 [(0, .ref 97)] [] σ9 Q)))) ∧ (¬ w8 = 0 → Pl PRG n d 199 181 [(0, .ref 97), (1, .int x1)] [] σ7 Q)))) ∧ (¬ w6 = 0 → Pl PRG n d 199 181 [(0, .ref 97), (1, .int x1)] [] σ5 Q)))) ∧ (¬ w4 = 0 → Pl PRG n d 199 181 [(0, .ref 97), (1, .int x1)] [] σ3 Q)))) ∧ (¬ w2 = 0 → Pl PRG n d 199 181 [(0, .ref 97), (1, .int x1)] [] σ1 Q)))) : Pl PRG (n + 1) d 199 145 [(0, .ref 97), (1, .int x1)] [] σ Q := by
  have hM : PRG[199]? = some M_199 := rfl
  refine Pl.sg1 (pc' := 148) (ls' := [(0, .ref 97), (1, .int x1)]) (st' := [.int (8 : Int32), .ref 97]) (σ' := σ) hM 1 rfl ?_
  refine Pl.weak (Pl.cZ hM rfl rfl (by decide) (Mj := M_189) rfl rfl (fun w2 σ1 hw hz => ?_))
  replace h := h w2 σ1 hw hz
  refine Pl.brN (c := w2 = 0) (a := 181) (b := 154) (ls' := [(0, .ref 97), (1, .int x1)]) (st' := []) (σ' := σ1) hM 1 rfl (fun c => ?_) (fun c => ?_)
  · replace h := h.2 c
    exact Pl.live (l' := [(0, .ref 97), (1, .int x1)]) hM lv_199 ⟨show ndL _ from (by decide : List.Nodup ([0, 1] : List Nat)), show ndL _ from (by decide : List.Nodup ([0, 1] : List Nat)), by rw [lva_199_181]; exact List.forall_mem_cons.mpr ⟨rfl, List.forall_mem_cons.mpr ⟨rfl, fun _ h => absurd h List.not_mem_nil⟩⟩⟩ h
  · replace h := h.1 c
    refine Pl.seg (pc' := 157) (ls' := [(0, .ref 97), (1, .int x1)]) (st' := [.int (9 : Int32), .ref 97]) (σ' := σ1) hM 2 rfl ?_
    refine Pl.weak (Pl.cZ hM rfl rfl (by decide) (Mj := M_189) rfl rfl (fun w4 σ3 hw hz => ?_))
    replace h := h w4 σ3 hw hz
    refine Pl.brN (c := w4 = 0) (a := 181) (b := 163) (ls' := [(0, .ref 97), (1, .int x1)]) (st' := []) (σ' := σ3) hM 1 rfl (fun c => ?_) (fun c => ?_)
    · replace h := h.2 c
      exact Pl.live (l' := [(0, .ref 97), (1, .int x1)]) hM lv_199 ⟨show ndL _ from (by decide : List.Nodup ([0, 1] : List Nat)), show ndL _ from (by decide : List.Nodup ([0, 1] : List Nat)), by rw [lva_199_181]; exact List.forall_mem_cons.mpr ⟨rfl, List.forall_mem_cons.mpr ⟨rfl, fun _ h => absurd h List.not_mem_nil⟩⟩⟩ h
    · replace h := h.1 c
      refine Pl.seg (pc' := 166) (ls' := [(0, .ref 97), (1, .int x1)]) (st' := [.int (10 : Int32), .ref 97]) (σ' := σ3) hM 2 rfl ?_
      refine Pl.weak (Pl.cZ hM rfl rfl (by decide) (Mj := M_189) rfl rfl (fun w6 σ5 hw hz => ?_))
      replace h := h w6 σ5 hw hz
      refine Pl.brN (c := w6 = 0) (a := 181) (b := 172) (ls' := [(0, .ref 97), (1, .int x1)]) (st' := []) (σ' := σ5) hM 1 rfl (fun c => ?_) (fun c => ?_)
      · replace h := h.2 c
        exact Pl.live (l' := [(0, .ref 97), (1, .int x1)]) hM lv_199 ⟨show ndL _ from (by decide : List.Nodup ([0, 1] : List Nat)), show ndL _ from (by decide : List.Nodup ([0, 1] : List Nat)), by rw [lva_199_181]; exact List.forall_mem_cons.mpr ⟨rfl, List.forall_mem_cons.mpr ⟨rfl, fun _ h => absurd h List.not_mem_nil⟩⟩⟩ h
      · replace h := h.1 c
        refine Pl.seg (pc' := 175) (ls' := [(0, .ref 97), (1, .int x1)]) (st' := [.int (15 : Int32), .ref 97]) (σ' := σ5) hM 2 rfl ?_
        refine Pl.weak (Pl.cZ hM rfl rfl (by decide) (Mj := M_189) rfl rfl (fun w8 σ7 hw hz => ?_))
        replace h := h w8 σ7 hw hz
        refine Pl.br (c := w8 = 0) (a := 185) (b := 181) (ls' := [(0, .ref 97), (1, .int x1)]) (st' := []) (σ' := σ7) hM 1 rfl (fun c => ?_) (fun c => ?_)
        · replace h := h.1 c
          refine Pl.br (c := (σ7.1 97 12) ≤ x1) (a := 204) (b := 199) (ls' := [(2, .int (0 : Int32)), (0, .ref 97), (1, .int x1)]) (st' := []) (σ' := σ7) hM 8 rfl (fun c => ?_) (fun c => ?_)
          · replace h := h.1 c
            exact Pl.live (l' := [(0, .ref 97)]) hM lv_199 ⟨show ndL _ from (by decide : List.Nodup ([2, 0, 1] : List Nat)), show ndL _ from (by decide : List.Nodup ([0] : List Nat)), by rw [lva_199_204]; exact List.forall_mem_cons.mpr ⟨rfl, fun _ h => absurd h List.not_mem_nil⟩⟩ h
          · replace h := h.2 c
            refine Pl.seg (pc' := 201) (ls' := [(2, .int (0 : Int32)), (0, .ref 97), (1, .int x1)]) (st' := [.int (1 : Int32), .ref 97]) (σ' := σ7) hM 2 rfl ?_
            refine Pl.weak (Pl.cV hM rfl rfl (by decide) (Mj := M_190) rfl rfl (fun σ9 hw => ?_))
            replace h := h σ9 hw
            exact Pl.live (l' := [(0, .ref 97)]) hM lv_199 ⟨show ndL _ from (by decide : List.Nodup ([2, 0, 1] : List Nat)), show ndL _ from (by decide : List.Nodup ([0] : List Nat)), by rw [lva_199_204]; exact List.forall_mem_cons.mpr ⟨rfl, fun _ h => absurd h List.not_mem_nil⟩⟩ h
        · replace h := h.2 c
          exact Pl.live (l' := [(0, .ref 97), (1, .int x1)]) hM lv_199 ⟨show ndL _ from (by decide : List.Nodup ([0, 1] : List Nat)), show ndL _ from (by decide : List.Nodup ([0, 1] : List Nat)), by rw [lva_199_181]; exact List.forall_mem_cons.mpr ⟨rfl, List.forall_mem_cons.mpr ⟨rfl, fun _ h => absurd h List.not_mem_nil⟩⟩⟩ h
set_option maxRecDepth 100000 in
theorem p_199_181 {n d : Nat} {Q : Option Value → Sg → Prop} (σ : Sg) (x1 : Int32) (h : (∀ w2 σ1, RCx PRG n 189 [.ref 97, .int (10 : Int32)] σ (some (.int w2)) σ1 → (w2 = 0 ∨ w2 = 1) → ((w2 = 0 → (∀ w6 σ5, RCx PRG n 189 [.ref 97, .int (15 : Int32)] σ1 (some (.int w6)) σ5 → (w6 = 0 ∨ w6 = 1) → ((w6 = 0 → (∀ σ7, RCx PRG n 198 [.ref 97, .int (0 : Int32)] σ5 none σ7 → (inR (σ7.1 97 11) 403 = true → (inR (σ7.1 97 41) 64 = true → (∀ σ8, RCx PRG n 192 [.ref 97] (s1 (s1 σ7 122 (σ7.1 97 41).toNatClampNeg (σ7.1 100 (σ7.1 97 11).toNatClampNeg)) 97 41 ((σ7.1 97 41) + (1 : Int32))) none σ8 → Pl PRG n d 199 12 [(0, .ref 97), (1, .int x1), (2, .int (1 : Int32))] [] σ8 Q))))) ∧ (¬ w6 = 0 → (∀ σ9, RCx PRG n 198 [.ref 97, .int (1 : Int32)] σ5 none σ9 → (inR (σ9.1 97 11) 403 = true → (inR (σ9.1 97 41) 64 = true → (∀ σ10, RCx PRG n 192 [.ref 97] (s1 (s1 σ9 122 (σ9.1 97 41).toNatClampNeg (σ9.1 100 (σ9.1 97 11).toNatClampNeg)) 97 41 ((σ9.1 97 41) + (1 : Int32))) none σ10 → Pl PRG n d 199 12 [(0, .ref 97), (1, .int x1), (2, .int (1 : Int32))] [] σ10 Q)))))))) ∧ (¬ w2 = 0 → (∀ σ3, RCx PRG n 198 [.ref 97, .int (1 : Int32)] σ1 none σ3 → (inR (σ3.1 97 11) 403 = true → (inR (σ3.1 97 41) 64 = true → (∀ σ4, RCx PRG n 192 [.ref 97] (s1 (s1 σ3 122 (σ3.1 97 41).toNatClampNeg (σ3.1 100 (σ3.1 97 11).toNatClampNeg)) 97 41 ((σ3.1 97 41) + (1 : Int32))) none σ4 → Pl PRG n d 199 12 [(0, .ref 97), (1, .int x1), (2, .int (1 : Int32))] [] σ4 Q)))))))) : Pl PRG (n + 1) d 199 181 [(0, .ref 97), (1, .int x1)] [] σ Q := by
  have hM : PRG[199]? = some M_199 := rfl
  refine Pl.sg1 (pc' := 214) (ls' := [(2, .int (1 : Int32)), (0, .ref 97), (1, .int x1)]) (st' := [.int (10 : Int32), .ref 97, .ref 97]) (σ' := σ) hM 7 rfl ?_
  refine Pl.weak (Pl.cZ hM rfl rfl (by decide) (Mj := M_189) rfl rfl (fun w2 σ1 hw hz => ?_))
  replace h := h w2 σ1 hw hz
  refine Pl.brN (c := w2 = 0) (a := 229) (b := 220) (ls' := [(2, .int (1 : Int32)), (0, .ref 97), (1, .int x1)]) (st' := [.ref 97]) (σ' := σ1) hM 1 rfl (fun c => ?_) (fun c => ?_)
  · replace h := h.2 c
    refine Pl.seg (pc' := 234) (ls' := [(2, .int (1 : Int32)), (0, .ref 97), (1, .int x1)]) (st' := [.int (1 : Int32), .ref 97]) (σ' := σ1) hM 2 rfl ?_
    refine Pl.weak (Pl.cV hM rfl rfl (by decide) (Mj := M_198) rfl rfl (fun σ3 hw => ?_))
    replace h := h σ3 hw
    refine Pl.seg (pc' := 253) (ls' := [(2, .int (1 : Int32)), (0, .ref 97), (1, .int x1)]) (st' := [.int (σ3.1 97 11), .ref 100, .int (σ3.1 97 41), .ref 122]) (σ' := σ3) hM 8 rfl ?_
    refine Pl.weak (Pl.iald hM rfl rfl (fun hi => ?_))
    replace h := h hi
    refine Pl.weak (Pl.iast hM rfl rfl (fun hi => ?_))
    replace h := h hi
    refine Pl.seg (pc' := 266) (ls' := [(2, .int (1 : Int32)), (0, .ref 97), (1, .int x1)]) (st' := [.ref 97]) (σ' := (s1 (s1 σ3 122 (σ3.1 97 41).toNatClampNeg (σ3.1 100 (σ3.1 97 11).toNatClampNeg)) 97 41 ((σ3.1 97 41) + (1 : Int32)))) hM 7 rfl ?_
    refine Pl.weak (Pl.cV hM rfl rfl (by decide) (Mj := M_192) rfl rfl (fun σ4 hw => ?_))
    replace h := h σ4 hw
    refine Pl.seg (pc' := 12) (ls' := [(2, .int (1 : Int32)), (0, .ref 97), (1, .int x1)]) (st' := []) (σ' := σ4) hM 1 rfl ?_
    exact Pl.live (l' := [(0, .ref 97), (1, .int x1), (2, .int (1 : Int32))]) hM lv_199 ⟨show ndL _ from (by decide : List.Nodup ([2, 0, 1] : List Nat)), show ndL _ from (by decide : List.Nodup ([0, 1, 2] : List Nat)), by rw [lva_199_12]; exact List.forall_mem_cons.mpr ⟨rfl, List.forall_mem_cons.mpr ⟨rfl, List.forall_mem_cons.mpr ⟨rfl, fun _ h => absurd h List.not_mem_nil⟩⟩⟩⟩ h
  · replace h := h.1 c
    refine Pl.seg (pc' := 223) (ls' := [(2, .int (1 : Int32)), (0, .ref 97), (1, .int x1)]) (st' := [.int (15 : Int32), .ref 97, .ref 97]) (σ' := σ1) hM 2 rfl ?_
    refine Pl.weak (Pl.cZ hM rfl rfl (by decide) (Mj := M_189) rfl rfl (fun w6 σ5 hw hz => ?_))
    replace h := h w6 σ5 hw hz
    refine Pl.br (c := w6 = 0) (a := 233) (b := 229) (ls' := [(2, .int (1 : Int32)), (0, .ref 97), (1, .int x1)]) (st' := [.ref 97]) (σ' := σ5) hM 1 rfl (fun c => ?_) (fun c => ?_)
    · replace h := h.1 c
      refine Pl.seg (pc' := 234) (ls' := [(2, .int (1 : Int32)), (0, .ref 97), (1, .int x1)]) (st' := [.int (0 : Int32), .ref 97]) (σ' := σ5) hM 1 rfl ?_
      refine Pl.weak (Pl.cV hM rfl rfl (by decide) (Mj := M_198) rfl rfl (fun σ7 hw => ?_))
      replace h := h σ7 hw
      refine Pl.seg (pc' := 253) (ls' := [(2, .int (1 : Int32)), (0, .ref 97), (1, .int x1)]) (st' := [.int (σ7.1 97 11), .ref 100, .int (σ7.1 97 41), .ref 122]) (σ' := σ7) hM 8 rfl ?_
      refine Pl.weak (Pl.iald hM rfl rfl (fun hi => ?_))
      replace h := h hi
      refine Pl.weak (Pl.iast hM rfl rfl (fun hi => ?_))
      replace h := h hi
      refine Pl.seg (pc' := 266) (ls' := [(2, .int (1 : Int32)), (0, .ref 97), (1, .int x1)]) (st' := [.ref 97]) (σ' := (s1 (s1 σ7 122 (σ7.1 97 41).toNatClampNeg (σ7.1 100 (σ7.1 97 11).toNatClampNeg)) 97 41 ((σ7.1 97 41) + (1 : Int32)))) hM 7 rfl ?_
      refine Pl.weak (Pl.cV hM rfl rfl (by decide) (Mj := M_192) rfl rfl (fun σ8 hw => ?_))
      replace h := h σ8 hw
      refine Pl.seg (pc' := 12) (ls' := [(2, .int (1 : Int32)), (0, .ref 97), (1, .int x1)]) (st' := []) (σ' := σ8) hM 1 rfl ?_
      exact Pl.live (l' := [(0, .ref 97), (1, .int x1), (2, .int (1 : Int32))]) hM lv_199 ⟨show ndL _ from (by decide : List.Nodup ([2, 0, 1] : List Nat)), show ndL _ from (by decide : List.Nodup ([0, 1, 2] : List Nat)), by rw [lva_199_12]; exact List.forall_mem_cons.mpr ⟨rfl, List.forall_mem_cons.mpr ⟨rfl, List.forall_mem_cons.mpr ⟨rfl, fun _ h => absurd h List.not_mem_nil⟩⟩⟩⟩ h
    · replace h := h.2 c
      refine Pl.seg (pc' := 234) (ls' := [(2, .int (1 : Int32)), (0, .ref 97), (1, .int x1)]) (st' := [.int (1 : Int32), .ref 97]) (σ' := σ5) hM 2 rfl ?_
      refine Pl.weak (Pl.cV hM rfl rfl (by decide) (Mj := M_198) rfl rfl (fun σ9 hw => ?_))
      replace h := h σ9 hw
      refine Pl.seg (pc' := 253) (ls' := [(2, .int (1 : Int32)), (0, .ref 97), (1, .int x1)]) (st' := [.int (σ9.1 97 11), .ref 100, .int (σ9.1 97 41), .ref 122]) (σ' := σ9) hM 8 rfl ?_
      refine Pl.weak (Pl.iald hM rfl rfl (fun hi => ?_))
      replace h := h hi
      refine Pl.weak (Pl.iast hM rfl rfl (fun hi => ?_))
      replace h := h hi
      refine Pl.seg (pc' := 266) (ls' := [(2, .int (1 : Int32)), (0, .ref 97), (1, .int x1)]) (st' := [.ref 97]) (σ' := (s1 (s1 σ9 122 (σ9.1 97 41).toNatClampNeg (σ9.1 100 (σ9.1 97 11).toNatClampNeg)) 97 41 ((σ9.1 97 41) + (1 : Int32)))) hM 7 rfl ?_
      refine Pl.weak (Pl.cV hM rfl rfl (by decide) (Mj := M_192) rfl rfl (fun σ10 hw => ?_))
      replace h := h σ10 hw
      refine Pl.seg (pc' := 12) (ls' := [(2, .int (1 : Int32)), (0, .ref 97), (1, .int x1)]) (st' := []) (σ' := σ10) hM 1 rfl ?_
      exact Pl.live (l' := [(0, .ref 97), (1, .int x1), (2, .int (1 : Int32))]) hM lv_199 ⟨show ndL _ from (by decide : List.Nodup ([2, 0, 1] : List Nat)), show ndL _ from (by decide : List.Nodup ([0, 1, 2] : List Nat)), by rw [lva_199_12]; exact List.forall_mem_cons.mpr ⟨rfl, List.forall_mem_cons.mpr ⟨rfl, List.forall_mem_cons.mpr ⟨rfl, fun _ h => absurd h List.not_mem_nil⟩⟩⟩⟩ h
set_option maxRecDepth 100000 in
theorem p_199_204 {n d : Nat} {Q : Option Value → Sg → Prop} (σ : Sg) (h : (∀ σ1, RCx PRG n 198 [.ref 97, .int (0 : Int32)] σ none σ1 → Q none σ1)) : Pl PRG (n + 1) d 199 204 [(0, .ref 97)] [] σ Q := by
  have hM : PRG[199]? = some M_199 := rfl
  refine Pl.sg1 (pc' := 206) (ls' := [(0, .ref 97)]) (st' := [.int (0 : Int32), .ref 97]) (σ' := σ) hM 1 rfl ?_
  refine Pl.weak (Pl.cV hM rfl rfl (by decide) (Mj := M_198) rfl rfl (fun σ1 hw => ?_))
  replace h := h σ1 hw
  refine Pl.weak (Pl.ret hM rfl rfl h)
def LV_200 : List (Nat × List Nat) := [(0, [0, 1]), (1, [0, 1]), (2, [0, 1, 2]), (3, [0, 1, 2]), (5, [0, 1, 2]), (8, [0, 1, 2]), (11, [0, 1, 2]), (12, [0, 1]), (15, [0, 1]), (16, [0, 1]), (19, [0, 1]), (20, [0, 1]), (21, [0, 1, 2]), (22, [0, 1, 2]), (25, [0, 1, 2]), (28, [0, 1, 2]), (29, [0, 1, 2]), (32, [0, 1, 2]), (33, [0, 1, 2, 3]), (34, [0, 1, 2, 3]), (37, [0, 1, 2, 3]), (38, [0, 1, 2, 3]), (41, [0, 1, 2, 3]), (44, [0, 1, 2, 3]), (45, [0, 1, 2, 3]), (48, [0, 1, 2, 3]), (49, [0, 1, 2, 3]), (52, [0, 1, 2, 3]), (53, [0, 1, 2, 3]), (56, [0, 1, 2, 3]), (57, [0, 1, 2, 3]), (59, [0, 1, 2, 3]), (60, [0, 1, 2, 3]), (62, [0, 1, 2, 3, 4]), (63, [0, 1, 2, 3, 4]), (66, [0, 1, 2, 3, 4]), (69, [0, 1, 2, 3, 4]), (71, [0, 1, 2, 3, 4]), (74, [0, 1, 2, 3, 4]), (76, [0, 1, 2, 3, 4]), (77, [0, 1, 2, 3, 4]), (80, [0, 1, 2, 3, 4]), (81, [0, 1, 2, 3, 4]), (82, [0, 1, 2, 3, 4]), (85, [0, 1, 2, 3, 4]), (86, [0, 1, 2, 3, 4]), (89, [0, 1, 2, 3, 4]), (90, [0, 1, 2, 3, 4]), (93, [0, 1, 2, 3, 4]), (95, [0, 1, 2, 3, 4, 5]), (96, [0, 1, 2, 3, 4, 5]), (99, [0, 1, 2, 3, 4, 5]), (100, [0, 1, 2, 3, 4, 5]), (103, [0, 1, 2, 3, 4, 5]), (106, []), (107, [0, 1, 2, 3, 4, 5]), (108, [0, 1, 2, 3, 4, 5]), (111, [0, 1, 2, 3, 4, 5]), (112, [0, 1, 2, 3, 4, 5]), (115, [0, 1, 2, 3, 4, 5]), (117, [0, 1, 2, 3, 5]), (118, [0, 1, 2, 3, 5]), (119, [0, 1, 2, 3, 5]), (122, [0, 1, 2, 3, 5]), (123, [0, 1, 2, 3, 5]), (126, [0, 1, 2, 3, 5]), (127, [0, 1, 3, 5]), (128, [0, 1, 3, 5]), (129, [0, 1, 3, 5]), (132, [0, 1, 3, 5]), (133, [0, 1, 3, 5]), (136, [0, 1, 3, 5]), (137, [0, 3, 5]), (138, [0, 3, 5]), (139, [0, 3, 5]), (142, [0, 3, 5]), (143, [0, 3, 5]), (146, [0, 3, 5]), (147, [0, 5]), (148, [0, 5]), (149, [0, 5]), (152, [0, 5]), (153, [0, 5]), (156, [0, 5]), (158, [0]), (159, [0]), (160, [0]), (163, [0]), (164, [0]), (167, [0]), (168, [0]), (171, [0]), (172, [0]), (173, []), (174, []), (177, []), (178, []), (179, []), (182, [])]
set_option maxRecDepth 100000 in
theorem lv_200 : chkLv M_200 LV_200 = true := by decide +kernel
set_option maxRecDepth 100000 in
theorem lva_200_2 : lvA LV_200 2 = [0, 1, 2] := by decide +kernel
set_option maxRecDepth 100000 in
theorem lva_200_80 : lvA LV_200 80 = [0, 1, 2, 3, 4] := by decide +kernel
set_option maxRecDepth 100000 in
theorem lva_200_85 : lvA LV_200 85 = [0, 1, 2, 3, 4] := by decide +kernel
set_option maxRecDepth 100000 in
theorem p_200_0 {n d : Nat} {Q : Option Value → Sg → Prop} (σ : Sg) (x1 : Int32) (h : Pl PRG n d 200 2 [(0, .ref 97), (1, .int x1), (2, .int (0 : Int32))] [] σ Q) : Pl PRG (n + 1) d 200 0 [(0, .ref 97), (1, .int x1)] [] σ Q := by
  have hM : PRG[200]? = some M_200 := rfl
  refine Pl.sg1 (pc' := 2) (ls' := [(2, .int (0 : Int32)), (0, .ref 97), (1, .int x1)]) (st' := []) (σ' := σ) hM 1 rfl ?_
  exact Pl.live (l' := [(0, .ref 97), (1, .int x1), (2, .int (0 : Int32))]) hM lv_200 ⟨show ndL _ from (by decide : List.Nodup ([2, 0, 1] : List Nat)), show ndL _ from (by decide : List.Nodup ([0, 1, 2] : List Nat)), by rw [lva_200_2]; exact List.forall_mem_cons.mpr ⟨rfl, List.forall_mem_cons.mpr ⟨rfl, List.forall_mem_cons.mpr ⟨rfl, fun _ h => absurd h List.not_mem_nil⟩⟩⟩⟩ h
set_option maxRecDepth 100000 in
theorem p_200_2 {n d : Nat} {Q : Option Value → Sg → Prop} (σ : Sg) (x1 x2 : Int32) (h : (∀ w2 σ1, RCx PRG n 189 [.ref 97, .int (30 : Int32)] σ (some (.int w2)) σ1 → (w2 = 0 ∨ w2 = 1) → ((w2 = 0 → (∀ σ3, RCx PRG n 199 [.ref 97] σ1 none σ3 → (((σ3.1 97 13) ≤ 0 → (inR (σ3.1 97 11) 403 = true → (((σ3.1 97 13) = 0 → ((((σ3.1 100 (σ3.1 97 11).toNatClampNeg) - (11 : Int32)) < 0 → Pl PRG n d 200 80 [(0, .ref 97), (1, .int x1), (2, .int x2), (3, .int (σ1.1 97 37)), (4, .int ((σ3.1 100 (σ3.1 97 11).toNatClampNeg) - (11 : Int32)))] [] σ3 Q) ∧ (¬ ((σ3.1 100 (σ3.1 97 11).toNatClampNeg) - (11 : Int32)) < 0 → ((((σ3.1 100 (σ3.1 97 11).toNatClampNeg) - (11 : Int32)) ≤ (3 : Int32) → Pl PRG n d 200 85 [(0, .ref 97), (1, .int x1), (2, .int x2), (3, .int (σ1.1 97 37)), (4, .int ((σ3.1 100 (σ3.1 97 11).toNatClampNeg) - (11 : Int32)))] [] σ3 Q) ∧ (¬ ((σ3.1 100 (σ3.1 97 11).toNatClampNeg) - (11 : Int32)) ≤ (3 : Int32) → Pl PRG n d 200 80 [(0, .ref 97), (1, .int x1), (2, .int x2), (3, .int (σ1.1 97 37)), (4, .int ((σ3.1 100 (σ3.1 97 11).toNatClampNeg) - (11 : Int32)))] [] σ3 Q))))) ∧ (¬ (σ3.1 97 13) = 0 → Pl PRG n d 200 85 [(0, .ref 97), (1, .int x1), (2, .int x2), (3, .int (σ1.1 97 37)), (4, .int ((σ3.1 100 (σ3.1 97 11).toNatClampNeg) - (11 : Int32)))] [] σ3 Q)))) ∧ (¬ (σ3.1 97 13) ≤ 0 → (((σ3.1 97 13) = 0 → Pl PRG n d 200 85 [(0, .ref 97), (1, .int x1), (2, .int x2), (3, .int (σ1.1 97 37)), (4, .int (0 : Int32))] [] σ3 Q) ∧ (¬ (σ3.1 97 13) = 0 → Pl PRG n d 200 85 [(0, .ref 97), (1, .int x1), (2, .int x2), (3, .int (σ1.1 97 37)), (4, .int (0 : Int32))] [] σ3 Q)))))) ∧ (¬ w2 = 0 → ((x2 = 0 → (∀ σ5, RCx PRG n 192 [.ref 97] σ1 none σ5 → Pl PRG n d 200 2 [(0, .ref 97), (1, .int x1), (2, .int (1 : Int32))] [] σ5 Q)) ∧ (¬ x2 = 0 → (∀ σ4, RCx PRG n 192 [.ref 97] σ1 none σ4 → Pl PRG n d 200 2 [(0, .ref 97), (1, .int x1), (2, .int (0 : Int32))] [] σ4 Q))))))) : Pl PRG (n + 1) d 200 2 [(0, .ref 97), (1, .int x1), (2, .int x2)] [] σ Q := by
  have hM : PRG[200]? = some M_200 := rfl
  refine Pl.sg1 (pc' := 5) (ls' := [(0, .ref 97), (1, .int x1), (2, .int x2)]) (st' := [.int (30 : Int32), .ref 97]) (σ' := σ) hM 1 rfl ?_
  refine Pl.weak (Pl.cZ hM rfl rfl (by decide) (Mj := M_189) rfl rfl (fun w2 σ1 hw hz => ?_))
  replace h := h w2 σ1 hw hz
  refine Pl.br (c := w2 = 0) (a := 28) (b := 11) (ls' := [(0, .ref 97), (1, .int x1), (2, .int x2)]) (st' := []) (σ' := σ1) hM 1 rfl (fun c => ?_) (fun c => ?_)
  · replace h := h.1 c
    refine Pl.seg (pc' := 34) (ls' := [(3, .int (σ1.1 97 37)), (0, .ref 97), (1, .int x1), (2, .int x2)]) (st' := [.ref 97]) (σ' := σ1) hM 4 rfl ?_
    refine Pl.weak (Pl.cV hM rfl rfl (by decide) (Mj := M_199) rfl rfl (fun σ3 hw => ?_))
    replace h := h σ3 hw
    refine Pl.br (c := (σ3.1 97 13) ≤ 0) (a := 48) (b := 44) (ls' := [(3, .int (σ1.1 97 37)), (0, .ref 97), (1, .int x1), (2, .int x2)]) (st' := []) (σ' := σ3) hM 3 rfl (fun c => ?_) (fun c => ?_)
    · replace h := h.1 c
      refine Pl.seg (pc' := 56) (ls' := [(3, .int (σ1.1 97 37)), (0, .ref 97), (1, .int x1), (2, .int x2)]) (st' := [.int (σ3.1 97 11), .ref 100]) (σ' := σ3) hM 4 rfl ?_
      refine Pl.weak (Pl.iald hM rfl rfl (fun hi => ?_))
      replace h := h hi
      refine Pl.brN (c := (σ3.1 97 13) = 0) (a := 85) (b := 69) (ls' := [(4, .int ((σ3.1 100 (σ3.1 97 11).toNatClampNeg) - (11 : Int32))), (3, .int (σ1.1 97 37)), (0, .ref 97), (1, .int x1), (2, .int x2)]) (st' := []) (σ' := σ3) hM 6 rfl (fun c => ?_) (fun c => ?_)
      · replace h := h.2 c
        exact Pl.live (l' := [(0, .ref 97), (1, .int x1), (2, .int x2), (3, .int (σ1.1 97 37)), (4, .int ((σ3.1 100 (σ3.1 97 11).toNatClampNeg) - (11 : Int32)))]) hM lv_200 ⟨show ndL _ from (by decide : List.Nodup ([4, 3, 0, 1, 2] : List Nat)), show ndL _ from (by decide : List.Nodup ([0, 1, 2, 3, 4] : List Nat)), by rw [lva_200_85]; exact List.forall_mem_cons.mpr ⟨rfl, List.forall_mem_cons.mpr ⟨rfl, List.forall_mem_cons.mpr ⟨rfl, List.forall_mem_cons.mpr ⟨rfl, List.forall_mem_cons.mpr ⟨rfl, fun _ h => absurd h List.not_mem_nil⟩⟩⟩⟩⟩⟩ h
      · replace h := h.1 c
        refine Pl.br (c := ((σ3.1 100 (σ3.1 97 11).toNatClampNeg) - (11 : Int32)) < 0) (a := 80) (b := 74) (ls' := [(4, .int ((σ3.1 100 (σ3.1 97 11).toNatClampNeg) - (11 : Int32))), (3, .int (σ1.1 97 37)), (0, .ref 97), (1, .int x1), (2, .int x2)]) (st' := []) (σ' := σ3) hM 2 rfl (fun c => ?_) (fun c => ?_)
        · replace h := h.1 c
          exact Pl.live (l' := [(0, .ref 97), (1, .int x1), (2, .int x2), (3, .int (σ1.1 97 37)), (4, .int ((σ3.1 100 (σ3.1 97 11).toNatClampNeg) - (11 : Int32)))]) hM lv_200 ⟨show ndL _ from (by decide : List.Nodup ([4, 3, 0, 1, 2] : List Nat)), show ndL _ from (by decide : List.Nodup ([0, 1, 2, 3, 4] : List Nat)), by rw [lva_200_80]; exact List.forall_mem_cons.mpr ⟨rfl, List.forall_mem_cons.mpr ⟨rfl, List.forall_mem_cons.mpr ⟨rfl, List.forall_mem_cons.mpr ⟨rfl, List.forall_mem_cons.mpr ⟨rfl, fun _ h => absurd h List.not_mem_nil⟩⟩⟩⟩⟩⟩ h
        · replace h := h.2 c
          refine Pl.br (c := ((σ3.1 100 (σ3.1 97 11).toNatClampNeg) - (11 : Int32)) ≤ (3 : Int32)) (a := 85) (b := 80) (ls' := [(4, .int ((σ3.1 100 (σ3.1 97 11).toNatClampNeg) - (11 : Int32))), (3, .int (σ1.1 97 37)), (0, .ref 97), (1, .int x1), (2, .int x2)]) (st' := []) (σ' := σ3) hM 3 rfl (fun c => ?_) (fun c => ?_)
          · replace h := h.1 c
            exact Pl.live (l' := [(0, .ref 97), (1, .int x1), (2, .int x2), (3, .int (σ1.1 97 37)), (4, .int ((σ3.1 100 (σ3.1 97 11).toNatClampNeg) - (11 : Int32)))]) hM lv_200 ⟨show ndL _ from (by decide : List.Nodup ([4, 3, 0, 1, 2] : List Nat)), show ndL _ from (by decide : List.Nodup ([0, 1, 2, 3, 4] : List Nat)), by rw [lva_200_85]; exact List.forall_mem_cons.mpr ⟨rfl, List.forall_mem_cons.mpr ⟨rfl, List.forall_mem_cons.mpr ⟨rfl, List.forall_mem_cons.mpr ⟨rfl, List.forall_mem_cons.mpr ⟨rfl, fun _ h => absurd h List.not_mem_nil⟩⟩⟩⟩⟩⟩ h
          · replace h := h.2 c
            exact Pl.live (l' := [(0, .ref 97), (1, .int x1), (2, .int x2), (3, .int (σ1.1 97 37)), (4, .int ((σ3.1 100 (σ3.1 97 11).toNatClampNeg) - (11 : Int32)))]) hM lv_200 ⟨show ndL _ from (by decide : List.Nodup ([4, 3, 0, 1, 2] : List Nat)), show ndL _ from (by decide : List.Nodup ([0, 1, 2, 3, 4] : List Nat)), by rw [lva_200_80]; exact List.forall_mem_cons.mpr ⟨rfl, List.forall_mem_cons.mpr ⟨rfl, List.forall_mem_cons.mpr ⟨rfl, List.forall_mem_cons.mpr ⟨rfl, List.forall_mem_cons.mpr ⟨rfl, fun _ h => absurd h List.not_mem_nil⟩⟩⟩⟩⟩⟩ h
    · replace h := h.2 c
      refine Pl.brN (c := (σ3.1 97 13) = 0) (a := 85) (b := 69) (ls' := [(4, .int (0 : Int32)), (3, .int (σ1.1 97 37)), (0, .ref 97), (1, .int x1), (2, .int x2)]) (st' := []) (σ' := σ3) hM 6 rfl (fun c => ?_) (fun c => ?_)
      · replace h := h.2 c
        exact Pl.live (l' := [(0, .ref 97), (1, .int x1), (2, .int x2), (3, .int (σ1.1 97 37)), (4, .int (0 : Int32))]) hM lv_200 ⟨show ndL _ from (by decide : List.Nodup ([4, 3, 0, 1, 2] : List Nat)), show ndL _ from (by decide : List.Nodup ([0, 1, 2, 3, 4] : List Nat)), by rw [lva_200_85]; exact List.forall_mem_cons.mpr ⟨rfl, List.forall_mem_cons.mpr ⟨rfl, List.forall_mem_cons.mpr ⟨rfl, List.forall_mem_cons.mpr ⟨rfl, List.forall_mem_cons.mpr ⟨rfl, fun _ h => absurd h List.not_mem_nil⟩⟩⟩⟩⟩⟩ h
      · replace h := h.1 c
        refine Pl.seg (pc' := 85) (ls' := [(4, .int (0 : Int32)), (3, .int (σ1.1 97 37)), (0, .ref 97), (1, .int x1), (2, .int x2)]) (st' := []) (σ' := σ3) hM 5 rfl ?_
        exact Pl.live (l' := [(0, .ref 97), (1, .int x1), (2, .int x2), (3, .int (σ1.1 97 37)), (4, .int (0 : Int32))]) hM lv_200 ⟨show ndL _ from (by decide : List.Nodup ([4, 3, 0, 1, 2] : List Nat)), show ndL _ from (by decide : List.Nodup ([0, 1, 2, 3, 4] : List Nat)), by rw [lva_200_85]; exact List.forall_mem_cons.mpr ⟨rfl, List.forall_mem_cons.mpr ⟨rfl, List.forall_mem_cons.mpr ⟨rfl, List.forall_mem_cons.mpr ⟨rfl, List.forall_mem_cons.mpr ⟨rfl, fun _ h => absurd h List.not_mem_nil⟩⟩⟩⟩⟩⟩ h
  · replace h := h.2 c
    refine Pl.brN (c := x2 = 0) (a := 19) (b := 15) (ls' := [(0, .ref 97), (1, .int x1), (2, .int x2)]) (st' := []) (σ' := σ1) hM 2 rfl (fun c => ?_) (fun c => ?_)
    · replace h := h.2 c
      refine Pl.seg (pc' := 22) (ls' := [(2, .int (0 : Int32)), (0, .ref 97), (1, .int x1)]) (st' := [.ref 97]) (σ' := σ1) hM 3 rfl ?_
      refine Pl.weak (Pl.cV hM rfl rfl (by decide) (Mj := M_192) rfl rfl (fun σ4 hw => ?_))
      replace h := h σ4 hw
      refine Pl.seg (pc' := 2) (ls' := [(2, .int (0 : Int32)), (0, .ref 97), (1, .int x1)]) (st' := []) (σ' := σ4) hM 1 rfl ?_
      exact Pl.live (l' := [(0, .ref 97), (1, .int x1), (2, .int (0 : Int32))]) hM lv_200 ⟨show ndL _ from (by decide : List.Nodup ([2, 0, 1] : List Nat)), show ndL _ from (by decide : List.Nodup ([0, 1, 2] : List Nat)), by rw [lva_200_2]; exact List.forall_mem_cons.mpr ⟨rfl, List.forall_mem_cons.mpr ⟨rfl, List.forall_mem_cons.mpr ⟨rfl, fun _ h => absurd h List.not_mem_nil⟩⟩⟩⟩ h
    · replace h := h.1 c
      refine Pl.seg (pc' := 22) (ls' := [(2, .int (1 : Int32)), (0, .ref 97), (1, .int x1)]) (st' := [.ref 97]) (σ' := σ1) hM 4 rfl ?_
      refine Pl.weak (Pl.cV hM rfl rfl (by decide) (Mj := M_192) rfl rfl (fun σ5 hw => ?_))
      replace h := h σ5 hw
      refine Pl.seg (pc' := 2) (ls' := [(2, .int (1 : Int32)), (0, .ref 97), (1, .int x1)]) (st' := []) (σ' := σ5) hM 1 rfl ?_
      exact Pl.live (l' := [(0, .ref 97), (1, .int x1), (2, .int (1 : Int32))]) hM lv_200 ⟨show ndL _ from (by decide : List.Nodup ([2, 0, 1] : List Nat)), show ndL _ from (by decide : List.Nodup ([0, 1, 2] : List Nat)), by rw [lva_200_2]; exact List.forall_mem_cons.mpr ⟨rfl, List.forall_mem_cons.mpr ⟨rfl, List.forall_mem_cons.mpr ⟨rfl, fun _ h => absurd h List.not_mem_nil⟩⟩⟩⟩ h
set_option maxRecDepth 100000 in
theorem p_200_85 {n d : Nat} {Q : Option Value → Sg → Prop} (σ : Sg) (x1 x2 x3 x4 : Int32) (h : (∀ σ1, RCx PRG n 192 [.ref 97] σ none σ1 → (∀ σ2, RCx PRG n 199 [.ref 97] σ1 none σ2 → (((σ2.1 97 13) ≤ 0 → (inR (σ2.1 97 30) 300 = true → (inR (σ2.1 97 30) 300 = true → (inR (σ2.1 97 30) 300 = true → (inR (σ2.1 97 30) 300 = true → (inR (σ2.1 97 30) 300 = true → (inR (σ2.1 97 30) 300 = true → Q none (s1 (s1 (s1 (s1 (s1 (s1 (s1 σ2 114 (σ2.1 97 30).toNatClampNeg x4) 115 (σ2.1 97 30).toNatClampNeg (vp_nar .boolean x2)) 116 (σ2.1 97 30).toNatClampNeg (vp_nar .boolean x1)) 117 (σ2.1 97 30).toNatClampNeg x3) 118 (σ2.1 97 30).toNatClampNeg (σ1.1 97 37)) 119 (σ2.1 97 30).toNatClampNeg (σ2.1 97 37)) 97 30 ((σ2.1 97 30) + (1 : Int32)))))))))) ∧ (¬ (σ2.1 97 13) ≤ 0 → Q none σ2))))) : Pl PRG (n + 1) d 200 85 [(0, .ref 97), (1, .int x1), (2, .int x2), (3, .int x3), (4, .int x4)] [] σ Q := by
  have hM : PRG[200]? = some M_200 := rfl
  refine Pl.sg1 (pc' := 86) (ls' := [(0, .ref 97), (1, .int x1), (2, .int x2), (3, .int x3), (4, .int x4)]) (st' := [.ref 97]) (σ' := σ) hM 0 rfl ?_
  refine Pl.weak (Pl.cV hM rfl rfl (by decide) (Mj := M_192) rfl rfl (fun σ1 hw => ?_))
  replace h := h σ1 hw
  refine Pl.seg (pc' := 96) (ls' := [(5, .int (σ1.1 97 37)), (0, .ref 97), (1, .int x1), (2, .int x2), (3, .int x3), (4, .int x4)]) (st' := [.ref 97]) (σ' := σ1) hM 4 rfl ?_
  refine Pl.weak (Pl.cV hM rfl rfl (by decide) (Mj := M_199) rfl rfl (fun σ2 hw => ?_))
  replace h := h σ2 hw
  refine Pl.br (c := (σ2.1 97 13) ≤ 0) (a := 107) (b := 106) (ls' := [(5, .int (σ1.1 97 37)), (0, .ref 97), (1, .int x1), (2, .int x2), (3, .int x3), (4, .int x4)]) (st' := []) (σ' := σ2) hM 3 rfl (fun c => ?_) (fun c => ?_)
  · replace h := h.1 c
    refine Pl.seg (pc' := 117) (ls' := [(5, .int (σ1.1 97 37)), (0, .ref 97), (1, .int x1), (2, .int x2), (3, .int x3), (4, .int x4)]) (st' := [.int x4, .int (σ2.1 97 30), .ref 114]) (σ' := σ2) hM 5 rfl ?_
    refine Pl.weak (Pl.iast hM rfl rfl (fun hi => ?_))
    replace h := h hi
    refine Pl.seg (pc' := 127) (ls' := [(5, .int (σ1.1 97 37)), (0, .ref 97), (1, .int x1), (2, .int x2), (3, .int x3), (4, .int x4)]) (st' := [.int x2, .int (σ2.1 97 30), .ref 115]) (σ' := (s1 σ2 114 (σ2.1 97 30).toNatClampNeg x4)) hM 5 rfl ?_
    refine Pl.weak (Pl.bast3 hM rfl rfl (fun hi => ?_))
    replace h := h hi
    refine Pl.seg (pc' := 137) (ls' := [(5, .int (σ1.1 97 37)), (0, .ref 97), (1, .int x1), (2, .int x2), (3, .int x3), (4, .int x4)]) (st' := [.int x1, .int (σ2.1 97 30), .ref 116]) (σ' := (s1 (s1 σ2 114 (σ2.1 97 30).toNatClampNeg x4) 115 (σ2.1 97 30).toNatClampNeg (vp_nar .boolean x2))) hM 5 rfl ?_
    refine Pl.weak (Pl.bast3 hM rfl rfl (fun hi => ?_))
    replace h := h hi
    refine Pl.seg (pc' := 147) (ls' := [(5, .int (σ1.1 97 37)), (0, .ref 97), (1, .int x1), (2, .int x2), (3, .int x3), (4, .int x4)]) (st' := [.int x3, .int (σ2.1 97 30), .ref 117]) (σ' := (s1 (s1 (s1 σ2 114 (σ2.1 97 30).toNatClampNeg x4) 115 (σ2.1 97 30).toNatClampNeg (vp_nar .boolean x2)) 116 (σ2.1 97 30).toNatClampNeg (vp_nar .boolean x1))) hM 5 rfl ?_
    refine Pl.weak (Pl.iast hM rfl rfl (fun hi => ?_))
    replace h := h hi
    refine Pl.seg (pc' := 158) (ls' := [(5, .int (σ1.1 97 37)), (0, .ref 97), (1, .int x1), (2, .int x2), (3, .int x3), (4, .int x4)]) (st' := [.int (σ1.1 97 37), .int (σ2.1 97 30), .ref 118]) (σ' := (s1 (s1 (s1 (s1 σ2 114 (σ2.1 97 30).toNatClampNeg x4) 115 (σ2.1 97 30).toNatClampNeg (vp_nar .boolean x2)) 116 (σ2.1 97 30).toNatClampNeg (vp_nar .boolean x1)) 117 (σ2.1 97 30).toNatClampNeg x3)) hM 5 rfl ?_
    refine Pl.weak (Pl.iast hM rfl rfl (fun hi => ?_))
    replace h := h hi
    refine Pl.seg (pc' := 171) (ls' := [(5, .int (σ1.1 97 37)), (0, .ref 97), (1, .int x1), (2, .int x2), (3, .int x3), (4, .int x4)]) (st' := [.int (σ2.1 97 37), .int (σ2.1 97 30), .ref 119]) (σ' := (s1 (s1 (s1 (s1 (s1 σ2 114 (σ2.1 97 30).toNatClampNeg x4) 115 (σ2.1 97 30).toNatClampNeg (vp_nar .boolean x2)) 116 (σ2.1 97 30).toNatClampNeg (vp_nar .boolean x1)) 117 (σ2.1 97 30).toNatClampNeg x3) 118 (σ2.1 97 30).toNatClampNeg (σ1.1 97 37))) hM 6 rfl ?_
    refine Pl.weak (Pl.iast hM rfl rfl (fun hi => ?_))
    replace h := h hi
    refine Pl.seg (pc' := 182) (ls' := [(5, .int (σ1.1 97 37)), (0, .ref 97), (1, .int x1), (2, .int x2), (3, .int x3), (4, .int x4)]) (st' := []) (σ' := (s1 (s1 (s1 (s1 (s1 (s1 (s1 σ2 114 (σ2.1 97 30).toNatClampNeg x4) 115 (σ2.1 97 30).toNatClampNeg (vp_nar .boolean x2)) 116 (σ2.1 97 30).toNatClampNeg (vp_nar .boolean x1)) 117 (σ2.1 97 30).toNatClampNeg x3) 118 (σ2.1 97 30).toNatClampNeg (σ1.1 97 37)) 119 (σ2.1 97 30).toNatClampNeg (σ2.1 97 37)) 97 30 ((σ2.1 97 30) + (1 : Int32)))) hM 6 rfl ?_
    refine Pl.weak (Pl.ret hM rfl rfl h)
  · replace h := h.2 c
    refine Pl.weak (Pl.ret hM rfl rfl h)
set_option maxRecDepth 100000 in
theorem p_200_80 {n d : Nat} {Q : Option Value → Sg → Prop} (σ : Sg) (x1 x2 x3 x4 : Int32) (h : (∀ σ1, RCx PRG n 190 [.ref 97, .int (1 : Int32)] σ none σ1 → Pl PRG n d 200 85 [(0, .ref 97), (1, .int x1), (2, .int x2), (3, .int x3), (4, .int x4)] [] σ1 Q)) : Pl PRG (n + 1) d 200 80 [(0, .ref 97), (1, .int x1), (2, .int x2), (3, .int x3), (4, .int x4)] [] σ Q := by
  have hM : PRG[200]? = some M_200 := rfl
  refine Pl.sg1 (pc' := 82) (ls' := [(0, .ref 97), (1, .int x1), (2, .int x2), (3, .int x3), (4, .int x4)]) (st' := [.int (1 : Int32), .ref 97]) (σ' := σ) hM 1 rfl ?_
  refine Pl.weak (Pl.cV hM rfl rfl (by decide) (Mj := M_190) rfl rfl (fun σ1 hw => ?_))
  replace h := h σ1 hw
  exact Pl.live (l' := [(0, .ref 97), (1, .int x1), (2, .int x2), (3, .int x3), (4, .int x4)]) hM lv_200 ⟨show ndL _ from (by decide : List.Nodup ([0, 1, 2, 3, 4] : List Nat)), show ndL _ from (by decide : List.Nodup ([0, 1, 2, 3, 4] : List Nat)), by rw [lva_200_85]; exact List.forall_mem_cons.mpr ⟨rfl, List.forall_mem_cons.mpr ⟨rfl, List.forall_mem_cons.mpr ⟨rfl, List.forall_mem_cons.mpr ⟨rfl, List.forall_mem_cons.mpr ⟨rfl, fun _ h => absurd h List.not_mem_nil⟩⟩⟩⟩⟩⟩ h
def LV_201 : List (Nat × List Nat) := [(0, [0]), (1, [0]), (4, [0]), (5, [0]), (6, [0, 1]), (7, [0, 1]), (8, [0, 1, 2]), (9, [0, 1]), (12, [0, 1]), (13, [0, 1]), (16, [0, 1]), (19, [0, 1]), (20, [0, 1]), (21, [0]), (24, [0]), (25, [0]), (27, [0]), (30, [0]), (31, [0, 1]), (32, [0, 1]), (35, [0, 1]), (36, [0, 1]), (38, [0, 1]), (41, [0, 1]), (44, [0, 1]), (45, [0, 1]), (48, [0, 1]), (49, [0, 1]), (50, [0, 1, 2]), (51, [0, 1, 2]), (54, [0, 1, 2]), (55, [0, 1, 2]), (58, [0, 1, 2]), (61, [])]
set_option maxRecDepth 100000 in
theorem lv_201 : chkLv M_201 LV_201 = true := by decide +kernel
set_option maxRecDepth 100000 in
theorem lva_201_8 : lvA LV_201 8 = [0, 1, 2] := by decide +kernel
set_option maxRecDepth 100000 in
theorem lva_201_44 : lvA LV_201 44 = [0, 1] := by decide +kernel
set_option maxRecDepth 100000 in
theorem lva_201_61 : lvA LV_201 61 = [] := by decide +kernel
set_option maxRecDepth 100000 in
theorem p_201_0 {n d : Nat} {Q : Option Value → Sg → Prop} (σ : Sg) (h : (∀ σ1, RCx PRG n 192 [.ref 97] σ none σ1 → Pl PRG n d 201 8 [(0, .ref 97), (1, .int (1 : Int32)), (2, .int (1 : Int32))] [] σ1 Q)) : Pl PRG (n + 1) d 201 0 [(0, .ref 97)] [] σ Q := by
  have hM : PRG[201]? = some M_201 := rfl
  refine Pl.sg1 (pc' := 1) (ls' := [(0, .ref 97)]) (st' := [.ref 97]) (σ' := σ) hM 0 rfl ?_
  refine Pl.weak (Pl.cV hM rfl rfl (by decide) (Mj := M_192) rfl rfl (fun σ1 hw => ?_))
  replace h := h σ1 hw
  refine Pl.seg (pc' := 8) (ls' := [(2, .int (1 : Int32)), (1, .int (1 : Int32)), (0, .ref 97)]) (st' := []) (σ' := σ1) hM 4 rfl ?_
  exact Pl.live (l' := [(0, .ref 97), (1, .int (1 : Int32)), (2, .int (1 : Int32))]) hM lv_201 ⟨show ndL _ from (by decide : List.Nodup ([2, 1, 0] : List Nat)), show ndL _ from (by decide : List.Nodup ([0, 1, 2] : List Nat)), by rw [lva_201_8]; exact List.forall_mem_cons.mpr ⟨rfl, List.forall_mem_cons.mpr ⟨rfl, List.forall_mem_cons.mpr ⟨rfl, fun _ h => absurd h List.not_mem_nil⟩⟩⟩⟩ h
set_option maxRecDepth 100000 in
theorem p_201_8 {n d : Nat} {Q : Option Value → Sg → Prop} (σ : Sg) (x1 x2 : Int32) (h : ((x2 = 0 → Pl PRG n d 201 61 [] [] σ Q) ∧ (¬ x2 = 0 → (((σ.1 97 13) = 0 → (∀ σ1, RCx PRG n 200 [.ref 97, .int x1] σ none σ1 → (∀ w3 σ2, RCx PRG n 189 [.ref 97, .int (28 : Int32)] σ1 (some (.int w3)) σ2 → (w3 = 0 ∨ w3 = 1) → ((w3 = 0 → (∀ w5 σ4, RCx PRG n 189 [.ref 97, .int (29 : Int32)] σ2 (some (.int w5)) σ4 → (w5 = 0 ∨ w5 = 1) → ((w5 = 0 → Pl PRG n d 201 8 [(0, .ref 97), (1, .int w3), (2, .int (0 : Int32))] [] σ4 Q) ∧ (¬ w5 = 0 → Pl PRG n d 201 44 [(0, .ref 97), (1, .int w3)] [] σ4 Q)))) ∧ (¬ w3 = 0 → Pl PRG n d 201 44 [(0, .ref 97), (1, .int w3)] [] σ2 Q))))) ∧ (¬ (σ.1 97 13) = 0 → Pl PRG n d 201 61 [] [] σ Q))))) : Pl PRG (n + 1) d 201 8 [(0, .ref 97), (1, .int x1), (2, .int x2)] [] σ Q := by
  have hM : PRG[201]? = some M_201 := rfl
  refine Pl.br1 (c := x2 = 0) (a := 61) (b := 12) (ls' := [(0, .ref 97), (1, .int x1), (2, .int x2)]) (st' := []) (σ' := σ) hM 1 rfl (fun c => ?_) (fun c => ?_)
  · replace h := h.1 c
    exact Pl.live (l' := []) hM lv_201 ⟨show ndL _ from (by decide : List.Nodup ([0, 1, 2] : List Nat)), show ndL _ from (by decide : List.Nodup ([] : List Nat)), by rw [lva_201_61]; exact fun _ h => absurd h List.not_mem_nil⟩ h
  · replace h := h.2 c
    refine Pl.brN (c := (σ.1 97 13) = 0) (a := 61) (b := 19) (ls' := [(0, .ref 97), (1, .int x1), (2, .int x2)]) (st' := []) (σ' := σ) hM 3 rfl (fun c => ?_) (fun c => ?_)
    · replace h := h.2 c
      exact Pl.live (l' := []) hM lv_201 ⟨show ndL _ from (by decide : List.Nodup ([0, 1, 2] : List Nat)), show ndL _ from (by decide : List.Nodup ([] : List Nat)), by rw [lva_201_61]; exact fun _ h => absurd h List.not_mem_nil⟩ h
    · replace h := h.1 c
      refine Pl.seg (pc' := 21) (ls' := [(0, .ref 97), (1, .int x1), (2, .int x2)]) (st' := [.int x1, .ref 97]) (σ' := σ) hM 2 rfl ?_
      refine Pl.weak (Pl.cV hM rfl rfl (by decide) (Mj := M_200) rfl rfl (fun σ1 hw => ?_))
      replace h := h σ1 hw
      refine Pl.seg (pc' := 27) (ls' := [(0, .ref 97), (1, .int x1), (2, .int x2)]) (st' := [.int (28 : Int32), .ref 97]) (σ' := σ1) hM 2 rfl ?_
      refine Pl.weak (Pl.cZ hM rfl rfl (by decide) (Mj := M_189) rfl rfl (fun w3 σ2 hw hz => ?_))
      replace h := h w3 σ2 hw hz
      refine Pl.brN (c := w3 = 0) (a := 44) (b := 35) (ls' := [(1, .int w3), (0, .ref 97), (2, .int x2)]) (st' := []) (σ' := σ2) hM 3 rfl (fun c => ?_) (fun c => ?_)
      · replace h := h.2 c
        exact Pl.live (l' := [(0, .ref 97), (1, .int w3)]) hM lv_201 ⟨show ndL _ from (by decide : List.Nodup ([1, 0, 2] : List Nat)), show ndL _ from (by decide : List.Nodup ([0, 1] : List Nat)), by rw [lva_201_44]; exact List.forall_mem_cons.mpr ⟨rfl, List.forall_mem_cons.mpr ⟨rfl, fun _ h => absurd h List.not_mem_nil⟩⟩⟩ h
      · replace h := h.1 c
        refine Pl.seg (pc' := 38) (ls' := [(1, .int w3), (0, .ref 97), (2, .int x2)]) (st' := [.int (29 : Int32), .ref 97]) (σ' := σ2) hM 2 rfl ?_
        refine Pl.weak (Pl.cZ hM rfl rfl (by decide) (Mj := M_189) rfl rfl (fun w5 σ4 hw hz => ?_))
        replace h := h w5 σ4 hw hz
        refine Pl.br (c := w5 = 0) (a := 48) (b := 44) (ls' := [(1, .int w3), (0, .ref 97), (2, .int x2)]) (st' := []) (σ' := σ4) hM 1 rfl (fun c => ?_) (fun c => ?_)
        · replace h := h.1 c
          refine Pl.seg (pc' := 8) (ls' := [(2, .int (0 : Int32)), (1, .int w3), (0, .ref 97)]) (st' := []) (σ' := σ4) hM 4 rfl ?_
          exact Pl.live (l' := [(0, .ref 97), (1, .int w3), (2, .int (0 : Int32))]) hM lv_201 ⟨show ndL _ from (by decide : List.Nodup ([2, 1, 0] : List Nat)), show ndL _ from (by decide : List.Nodup ([0, 1, 2] : List Nat)), by rw [lva_201_8]; exact List.forall_mem_cons.mpr ⟨rfl, List.forall_mem_cons.mpr ⟨rfl, List.forall_mem_cons.mpr ⟨rfl, fun _ h => absurd h List.not_mem_nil⟩⟩⟩⟩ h
        · replace h := h.2 c
          exact Pl.live (l' := [(0, .ref 97), (1, .int w3)]) hM lv_201 ⟨show ndL _ from (by decide : List.Nodup ([1, 0, 2] : List Nat)), show ndL _ from (by decide : List.Nodup ([0, 1] : List Nat)), by rw [lva_201_44]; exact List.forall_mem_cons.mpr ⟨rfl, List.forall_mem_cons.mpr ⟨rfl, fun _ h => absurd h List.not_mem_nil⟩⟩⟩ h
set_option maxRecDepth 100000 in
theorem p_201_61 {n d : Nat} {Q : Option Value → Sg → Prop} (σ : Sg) (h : Q none σ) : Pl PRG (n + 1) d 201 61 [] [] σ Q := by
  have hM : PRG[201]? = some M_201 := rfl
  refine Pl.ret hM rfl rfl h
set_option maxRecDepth 100000 in
theorem p_201_44 {n d : Nat} {Q : Option Value → Sg → Prop} (σ : Sg) (x1 : Int32) (h : (∀ σ1, RCx PRG n 192 [.ref 97] σ none σ1 → Pl PRG n d 201 8 [(0, .ref 97), (1, .int x1), (2, .int (1 : Int32))] [] σ1 Q)) : Pl PRG (n + 1) d 201 44 [(0, .ref 97), (1, .int x1)] [] σ Q := by
  have hM : PRG[201]? = some M_201 := rfl
  refine Pl.sg1 (pc' := 55) (ls' := [(2, .int (1 : Int32)), (0, .ref 97), (1, .int x1)]) (st' := [.ref 97]) (σ' := σ) hM 5 rfl ?_
  refine Pl.weak (Pl.cV hM rfl rfl (by decide) (Mj := M_192) rfl rfl (fun σ1 hw => ?_))
  replace h := h σ1 hw
  refine Pl.seg (pc' := 8) (ls' := [(2, .int (1 : Int32)), (0, .ref 97), (1, .int x1)]) (st' := []) (σ' := σ1) hM 1 rfl ?_
  exact Pl.live (l' := [(0, .ref 97), (1, .int x1), (2, .int (1 : Int32))]) hM lv_201 ⟨show ndL _ from (by decide : List.Nodup ([2, 0, 1] : List Nat)), show ndL _ from (by decide : List.Nodup ([0, 1, 2] : List Nat)), by rw [lva_201_8]; exact List.forall_mem_cons.mpr ⟨rfl, List.forall_mem_cons.mpr ⟨rfl, List.forall_mem_cons.mpr ⟨rfl, fun _ h => absurd h List.not_mem_nil⟩⟩⟩⟩ h
def LV_202 : List (Nat × List Nat) := [(0, [0]), (2, [0]), (3, [0]), (6, [0]), (7, [0]), (8, [0]), (11, [0]), (12, [0]), (15, [0]), (16, [0]), (17, [0]), (18, [0, 1]), (19, [0, 1]), (22, [0, 1]), (23, [0, 1]), (26, [0, 1]), (27, [0, 1, 2]), (28, [0, 1, 2]), (29, [0, 1, 2]), (32, [0, 1, 2]), (33, [0, 1, 2]), (34, [0, 1, 2, 3]), (35, [0, 1, 2, 3]), (36, [0, 1, 2, 3]), (39, [0, 1, 2, 3]), (42, [0, 1, 2, 3]), (43, [0, 1, 2, 3]), (46, [0, 1, 2, 3]), (49, [0, 1, 2, 3]), (50, [0, 1, 2, 3]), (53, [0, 1, 2, 3]), (54, [0, 1, 2, 3]), (55, [0, 1, 2, 3]), (56, [0, 1, 2, 3]), (59, [0, 1, 2, 3]), (60, [0, 1, 2, 3]), (61, [0, 1, 2, 3]), (62, [0, 1, 2, 3]), (65, [0, 1, 2, 3]), (66, [0, 1, 2, 3]), (67, [0, 1, 2, 3]), (68, [0, 1, 2, 3]), (71, [0, 1, 2, 3]), (74, [0, 1, 2, 3]), (77, [0, 1, 2]), (78, [0, 1, 2]), (81, [0, 1, 2]), (82, [0, 1, 2]), (83, [0, 1, 2]), (84, [0, 1, 2]), (85, [0, 1, 2]), (88, [0, 1, 2]), (89, [0, 1, 2]), (90, [0, 1, 2]), (93, [0, 1, 2]), (96, [0, 1, 2]), (97, [0, 1, 2]), (100, [0, 1, 2]), (101, [0, 1, 2]), (104, [0, 1, 2]), (105, [0, 1, 2]), (107, [0, 1, 2]), (110, [0, 1, 2]), (111, [0, 1, 2]), (114, [0, 1, 2]), (115, [0, 1, 2]), (118, [0, 1, 2]), (119, [0, 1, 2]), (121, [0, 1, 2]), (124, [0, 1, 2]), (125, [0, 1, 2]), (126, [0, 1, 2]), (129, [0, 1, 2]), (130, [0, 1, 2]), (133, [0, 1, 2]), (136, []), (137, [0, 1, 2]), (138, [0, 1, 2]), (141, [0, 1, 2]), (142, [0, 1, 2]), (143, [0, 1, 2]), (146, [0, 1, 2]), (147, [0, 1, 2]), (150, [0, 1, 2]), (151, [0, 1, 2]), (153, [0, 1, 2]), (154, [0, 1, 2]), (155, [0, 1, 2]), (156, [0, 1, 2]), (159, [0, 1, 2]), (160, [0, 1, 2]), (163, [0, 1, 2]), (164, [0, 1, 2]), (165, [0, 1, 2]), (166, [0, 1, 2]), (167, [0, 1, 2]), (170, [0, 1, 2]), (171, [0, 1, 2]), (172, [0, 1, 2]), (174, [0, 1, 2]), (177, [0, 1, 2]), (180, [0, 1, 2]), (181, [0, 1, 2]), (184, [0, 1, 2]), (185, [0, 1, 2]), (188, [0, 1, 2]), (189, [0, 1, 2]), (190, [0, 1, 2]), (191, [0, 1, 2]), (192, [0, 1, 2]), (195, [0, 1, 2]), (196, [0, 1, 2]), (197, [0, 1, 2]), (200, [0, 1, 2]), (201, [0, 1, 2]), (202, [0, 1, 2]), (203, [0, 1, 2]), (204, [0, 1, 2]), (205, [0, 1, 2]), (206, [0, 1, 2]), (209, [0, 1, 2]), (210, [0, 1, 2]), (211, [0, 1, 2]), (213, [0, 1, 2]), (216, [0, 1, 2]), (219, [0, 1, 2]), (220, [0, 1, 2]), (221, [0, 1, 2]), (224, [0, 1, 2]), (225, [0, 1, 2]), (228, [0, 1, 2]), (231, [0, 1, 2]), (232, [0, 1, 2]), (235, [0, 1, 2]), (236, [0, 1, 2]), (239, [0, 1, 2]), (240, [0, 1, 2]), (241, [0, 2]), (242, [0, 2]), (243, [0, 2]), (244, [0, 2]), (245, [0, 2]), (248, [0, 2]), (249, [0, 2]), (250, [0, 2]), (251, [0, 2]), (254, [0, 2]), (255, [0, 2]), (258, [0, 2]), (261, []), (262, [0, 2]), (263, [0, 2]), (266, [0, 2]), (267, [0, 2]), (270, [0, 2]), (271, [0, 2]), (274, [0, 2]), (275, [0]), (276, [0]), (277, [0]), (278, [0]), (279, [0]), (282, [0]), (283, [0]), (284, [0]), (287, [0]), (288, [0]), (291, [0]), (292, []), (295, []), (296, []), (297, []), (298, []), (299, []), (300, [])]
set_option maxRecDepth 100000 in
theorem lv_202 : chkLv M_202 LV_202 = true := by decide +kernel
set_option maxRecDepth 100000 in
theorem lva_202_34 : lvA LV_202 34 = [0, 1, 2, 3] := by decide +kernel
set_option maxRecDepth 100000 in
theorem lva_202_71 : lvA LV_202 71 = [0, 1, 2, 3] := by decide +kernel
set_option maxRecDepth 100000 in
theorem lva_202_77 : lvA LV_202 77 = [0, 1, 2] := by decide +kernel
set_option maxRecDepth 100000 in
theorem lva_202_124 : lvA LV_202 124 = [0, 1, 2] := by decide +kernel
set_option maxRecDepth 100000 in
theorem lva_202_129 : lvA LV_202 129 = [0, 1, 2] := by decide +kernel
set_option maxRecDepth 100000 in
theorem lva_202_184 : lvA LV_202 184 = [0, 1, 2] := by decide +kernel
set_option maxRecDepth 100000 in
theorem lva_202_224 : lvA LV_202 224 = [0, 1, 2] := by decide +kernel
set_option maxRecDepth 100000 in
theorem lva_202_235 : lvA LV_202 235 = [0, 1, 2] := by decide +kernel
set_option maxRecDepth 100000 in
theorem p_202_0 {n d : Nat} {Q : Option Value → Sg → Prop} (σ : Sg) (h : (inR (σ.1 97 19) 2 = true → (∀ σ1, RCx PRG n 192 [.ref 97] σ none σ1 → (∀ σ2, RCx PRG n 193 [.ref 97, .int (1 : Int32)] σ1 none σ2 → Pl PRG n d 202 34 [(0, .ref 97), (1, .int (((6 : Int32) * (σ.1 97 19)) + (σ.1 109 (σ.1 97 19).toNatClampNeg))), (2, .int (σ1.1 97 11)), (3, .int (0 : Int32))] [] σ2 Q)))) : Pl PRG (n + 1) d 202 0 [(0, .ref 97)] [] σ Q := by
  have hM : PRG[202]? = some M_202 := rfl
  refine Pl.sg1 (pc' := 15) (ls' := [(0, .ref 97)]) (st' := [.int (σ.1 97 19), .ref 109, .int ((6 : Int32) * (σ.1 97 19))]) (σ' := σ) hM 7 rfl ?_
  refine Pl.weak (Pl.iald hM rfl rfl (fun hi => ?_))
  replace h := h hi
  refine Pl.seg (pc' := 19) (ls' := [(1, .int (((6 : Int32) * (σ.1 97 19)) + (σ.1 109 (σ.1 97 19).toNatClampNeg))), (0, .ref 97)]) (st' := [.ref 97]) (σ' := σ) hM 3 rfl ?_
  refine Pl.weak (Pl.cV hM rfl rfl (by decide) (Mj := M_192) rfl rfl (fun σ1 hw => ?_))
  replace h := h σ1 hw
  refine Pl.seg (pc' := 29) (ls' := [(2, .int (σ1.1 97 11)), (1, .int (((6 : Int32) * (σ.1 97 19)) + (σ.1 109 (σ.1 97 19).toNatClampNeg))), (0, .ref 97)]) (st' := [.int (1 : Int32), .ref 97]) (σ' := σ1) hM 5 rfl ?_
  refine Pl.weak (Pl.cV hM rfl rfl (by decide) (Mj := M_193) rfl rfl (fun σ2 hw => ?_))
  replace h := h σ2 hw
  refine Pl.seg (pc' := 34) (ls' := [(3, .int (0 : Int32)), (2, .int (σ1.1 97 11)), (1, .int (((6 : Int32) * (σ.1 97 19)) + (σ.1 109 (σ.1 97 19).toNatClampNeg))), (0, .ref 97)]) (st' := []) (σ' := σ2) hM 2 rfl ?_
  exact Pl.live (l' := [(0, .ref 97), (1, .int (((6 : Int32) * (σ.1 97 19)) + (σ.1 109 (σ.1 97 19).toNatClampNeg))), (2, .int (σ1.1 97 11)), (3, .int (0 : Int32))]) hM lv_202 ⟨show ndL _ from (by decide : List.Nodup ([3, 2, 1, 0] : List Nat)), show ndL _ from (by decide : List.Nodup ([0, 1, 2, 3] : List Nat)), by rw [lva_202_34]; exact List.forall_mem_cons.mpr ⟨rfl, List.forall_mem_cons.mpr ⟨rfl, List.forall_mem_cons.mpr ⟨rfl, List.forall_mem_cons.mpr ⟨rfl, fun _ h => absurd h List.not_mem_nil⟩⟩⟩⟩⟩ h
set_option maxRecDepth 100000 in
theorem p_202_34 {n d : Nat} {Q : Option Value → Sg → Prop} (σ : Sg) (x1 x2 x3 : Int32) (h : (((σ.1 97 20) ≤ x3 → Pl PRG n d 202 77 [(0, .ref 97), (1, .int x1), (2, .int x2)] [] σ Q) ∧ (¬ (σ.1 97 20) ≤ x3 → (((σ.1 97 13) = 0 → (inR x3 6 = true → (inR x2 403 = true → (((lg_cmp (σ.2 105 x3.toNatClampNeg) (σ.2 103 x2.toNatClampNeg)) = 0 → (∀ σ1, RCx PRG n 191 [.ref 97, .int (3 : Int32), .int x2] σ none σ1 → Pl PRG n d 202 71 [(0, .ref 97), (1, .int x1), (2, .int x2), (3, .int x3)] [] σ1 Q)) ∧ (¬ (lg_cmp (σ.2 105 x3.toNatClampNeg) (σ.2 103 x2.toNatClampNeg)) = 0 → Pl PRG n d 202 71 [(0, .ref 97), (1, .int x1), (2, .int x2), (3, .int x3)] [] σ Q))))) ∧ (¬ (σ.1 97 13) = 0 → Pl PRG n d 202 77 [(0, .ref 97), (1, .int x1), (2, .int x2)] [] σ Q))))) : Pl PRG (n + 1) d 202 34 [(0, .ref 97), (1, .int x1), (2, .int x2), (3, .int x3)] [] σ Q := by
  have hM : PRG[202]? = some M_202 := rfl
  refine Pl.br1 (c := (σ.1 97 20) ≤ x3) (a := 77) (b := 42) (ls' := [(0, .ref 97), (1, .int x1), (2, .int x2), (3, .int x3)]) (st' := []) (σ' := σ) hM 3 rfl (fun c => ?_) (fun c => ?_)
  · replace h := h.1 c
    exact Pl.live (l' := [(0, .ref 97), (1, .int x1), (2, .int x2)]) hM lv_202 ⟨show ndL _ from (by decide : List.Nodup ([0, 1, 2, 3] : List Nat)), show ndL _ from (by decide : List.Nodup ([0, 1, 2] : List Nat)), by rw [lva_202_77]; exact List.forall_mem_cons.mpr ⟨rfl, List.forall_mem_cons.mpr ⟨rfl, List.forall_mem_cons.mpr ⟨rfl, fun _ h => absurd h List.not_mem_nil⟩⟩⟩⟩ h
  · replace h := h.2 c
    refine Pl.brN (c := (σ.1 97 13) = 0) (a := 77) (b := 49) (ls' := [(0, .ref 97), (1, .int x1), (2, .int x2), (3, .int x3)]) (st' := []) (σ' := σ) hM 3 rfl (fun c => ?_) (fun c => ?_)
    · replace h := h.2 c
      exact Pl.live (l' := [(0, .ref 97), (1, .int x1), (2, .int x2)]) hM lv_202 ⟨show ndL _ from (by decide : List.Nodup ([0, 1, 2, 3] : List Nat)), show ndL _ from (by decide : List.Nodup ([0, 1, 2] : List Nat)), by rw [lva_202_77]; exact List.forall_mem_cons.mpr ⟨rfl, List.forall_mem_cons.mpr ⟨rfl, List.forall_mem_cons.mpr ⟨rfl, fun _ h => absurd h List.not_mem_nil⟩⟩⟩⟩ h
    · replace h := h.1 c
      refine Pl.seg (pc' := 54) (ls' := [(0, .ref 97), (1, .int x1), (2, .int x2), (3, .int x3)]) (st' := [.int x3, .ref 105]) (σ' := σ) hM 3 rfl ?_
      refine Pl.weak (Pl.lald hM rfl rfl (fun hi => ?_))
      replace h := h hi
      refine Pl.seg (pc' := 60) (ls' := [(0, .ref 97), (1, .int x1), (2, .int x2), (3, .int x3)]) (st' := [.int x2, .ref 103, .long (σ.2 105 x3.toNatClampNeg)]) (σ' := σ) hM 3 rfl ?_
      refine Pl.weak (Pl.lald hM rfl rfl (fun hi => ?_))
      replace h := h hi
      refine Pl.brN (c := (lg_cmp (σ.2 105 x3.toNatClampNeg) (σ.2 103 x2.toNatClampNeg)) = 0) (a := 71) (b := 65) (ls' := [(0, .ref 97), (1, .int x1), (2, .int x2), (3, .int x3)]) (st' := []) (σ' := σ) hM 2 rfl (fun c => ?_) (fun c => ?_)
      · replace h := h.2 c
        exact Pl.live (l' := [(0, .ref 97), (1, .int x1), (2, .int x2), (3, .int x3)]) hM lv_202 ⟨show ndL _ from (by decide : List.Nodup ([0, 1, 2, 3] : List Nat)), show ndL _ from (by decide : List.Nodup ([0, 1, 2, 3] : List Nat)), by rw [lva_202_71]; exact List.forall_mem_cons.mpr ⟨rfl, List.forall_mem_cons.mpr ⟨rfl, List.forall_mem_cons.mpr ⟨rfl, List.forall_mem_cons.mpr ⟨rfl, fun _ h => absurd h List.not_mem_nil⟩⟩⟩⟩⟩ h
      · replace h := h.1 c
        refine Pl.seg (pc' := 68) (ls' := [(0, .ref 97), (1, .int x1), (2, .int x2), (3, .int x3)]) (st' := [.int x2, .int (3 : Int32), .ref 97]) (σ' := σ) hM 3 rfl ?_
        refine Pl.weak (Pl.cV hM rfl rfl (by decide) (Mj := M_191) rfl rfl (fun σ1 hw => ?_))
        replace h := h σ1 hw
        exact Pl.live (l' := [(0, .ref 97), (1, .int x1), (2, .int x2), (3, .int x3)]) hM lv_202 ⟨show ndL _ from (by decide : List.Nodup ([0, 1, 2, 3] : List Nat)), show ndL _ from (by decide : List.Nodup ([0, 1, 2, 3] : List Nat)), by rw [lva_202_71]; exact List.forall_mem_cons.mpr ⟨rfl, List.forall_mem_cons.mpr ⟨rfl, List.forall_mem_cons.mpr ⟨rfl, List.forall_mem_cons.mpr ⟨rfl, fun _ h => absurd h List.not_mem_nil⟩⟩⟩⟩⟩ h
set_option maxRecDepth 100000 in
theorem p_202_77 {n d : Nat} {Q : Option Value → Sg → Prop} (σ : Sg) (x1 x2 : Int32) (h : (∀ w2 σ1, RCx PRG n 194 [.ref 97, .int (0 : Int32), .int (2 : Int32)] σ (some (.int w2)) σ1 → (inR x1 12 = true → ((0 < (σ1.1 97 13) → Pl PRG n d 202 124 [(0, .ref 97), (1, .int x1), (2, .int x2)] [] (s1 σ1 110 x1.toNatClampNeg w2) Q) ∧ (¬ 0 < (σ1.1 97 13) → (inR (σ1.1 97 11) 403 = true → (((σ1.1 100 (σ1.1 97 11).toNatClampNeg) < (23 : Int32) → Pl PRG n d 202 124 [(0, .ref 97), (1, .int x1), (2, .int x2)] [] (s1 σ1 110 x1.toNatClampNeg w2) Q) ∧ (¬ (σ1.1 100 (σ1.1 97 11).toNatClampNeg) < (23 : Int32) → (inR (σ1.1 97 11) 403 = true → (((σ1.1 100 (σ1.1 97 11).toNatClampNeg) ≤ (25 : Int32) → Pl PRG n d 202 129 [(0, .ref 97), (1, .int x1), (2, .int x2)] [] (s1 σ1 110 x1.toNatClampNeg w2) Q) ∧ (¬ (σ1.1 100 (σ1.1 97 11).toNatClampNeg) ≤ (25 : Int32) → Pl PRG n d 202 124 [(0, .ref 97), (1, .int x1), (2, .int x2)] [] (s1 σ1 110 x1.toNatClampNeg w2) Q))))))))))) : Pl PRG (n + 1) d 202 77 [(0, .ref 97), (1, .int x1), (2, .int x2)] [] σ Q := by
  have hM : PRG[202]? = some M_202 := rfl
  refine Pl.sg1 (pc' := 85) (ls' := [(0, .ref 97), (1, .int x1), (2, .int x2)]) (st' := [.int (2 : Int32), .int (0 : Int32), .ref 97, .int x1, .ref 110]) (σ' := σ) hM 5 rfl ?_
  refine Pl.weak (Pl.cI hM rfl rfl (by decide) (Mj := M_194) rfl rfl (fun w2 σ1 hw => ?_))
  replace h := h w2 σ1 hw
  refine Pl.weak (Pl.iast hM rfl rfl (fun hi => ?_))
  replace h := h hi
  refine Pl.br (c := 0 < (σ1.1 97 13)) (a := 124) (b := 96) (ls' := [(0, .ref 97), (1, .int x1), (2, .int x2)]) (st' := []) (σ' := (s1 σ1 110 x1.toNatClampNeg w2)) hM 3 rfl (fun c => ?_) (fun c => ?_)
  · replace h := h.1 c
    exact Pl.live (l' := [(0, .ref 97), (1, .int x1), (2, .int x2)]) hM lv_202 ⟨show ndL _ from (by decide : List.Nodup ([0, 1, 2] : List Nat)), show ndL _ from (by decide : List.Nodup ([0, 1, 2] : List Nat)), by rw [lva_202_124]; exact List.forall_mem_cons.mpr ⟨rfl, List.forall_mem_cons.mpr ⟨rfl, List.forall_mem_cons.mpr ⟨rfl, fun _ h => absurd h List.not_mem_nil⟩⟩⟩⟩ h
  · replace h := h.2 c
    refine Pl.seg (pc' := 104) (ls' := [(0, .ref 97), (1, .int x1), (2, .int x2)]) (st' := [.int (σ1.1 97 11), .ref 100]) (σ' := (s1 σ1 110 x1.toNatClampNeg w2)) hM 4 rfl ?_
    refine Pl.weak (Pl.iald hM rfl rfl (fun hi => ?_))
    replace h := h hi
    refine Pl.br (c := (σ1.1 100 (σ1.1 97 11).toNatClampNeg) < (23 : Int32)) (a := 124) (b := 110) (ls' := [(0, .ref 97), (1, .int x1), (2, .int x2)]) (st' := []) (σ' := (s1 σ1 110 x1.toNatClampNeg w2)) hM 2 rfl (fun c => ?_) (fun c => ?_)
    · replace h := h.1 c
      exact Pl.live (l' := [(0, .ref 97), (1, .int x1), (2, .int x2)]) hM lv_202 ⟨show ndL _ from (by decide : List.Nodup ([0, 1, 2] : List Nat)), show ndL _ from (by decide : List.Nodup ([0, 1, 2] : List Nat)), by rw [lva_202_124]; exact List.forall_mem_cons.mpr ⟨rfl, List.forall_mem_cons.mpr ⟨rfl, List.forall_mem_cons.mpr ⟨rfl, fun _ h => absurd h List.not_mem_nil⟩⟩⟩⟩ h
    · replace h := h.2 c
      refine Pl.seg (pc' := 118) (ls' := [(0, .ref 97), (1, .int x1), (2, .int x2)]) (st' := [.int (σ1.1 97 11), .ref 100]) (σ' := (s1 σ1 110 x1.toNatClampNeg w2)) hM 4 rfl ?_
      refine Pl.weak (Pl.iald hM rfl rfl (fun hi => ?_))
      replace h := h hi
      refine Pl.br (c := (σ1.1 100 (σ1.1 97 11).toNatClampNeg) ≤ (25 : Int32)) (a := 129) (b := 124) (ls' := [(0, .ref 97), (1, .int x1), (2, .int x2)]) (st' := []) (σ' := (s1 σ1 110 x1.toNatClampNeg w2)) hM 2 rfl (fun c => ?_) (fun c => ?_)
      · replace h := h.1 c
        exact Pl.live (l' := [(0, .ref 97), (1, .int x1), (2, .int x2)]) hM lv_202 ⟨show ndL _ from (by decide : List.Nodup ([0, 1, 2] : List Nat)), show ndL _ from (by decide : List.Nodup ([0, 1, 2] : List Nat)), by rw [lva_202_129]; exact List.forall_mem_cons.mpr ⟨rfl, List.forall_mem_cons.mpr ⟨rfl, List.forall_mem_cons.mpr ⟨rfl, fun _ h => absurd h List.not_mem_nil⟩⟩⟩⟩ h
      · replace h := h.2 c
        exact Pl.live (l' := [(0, .ref 97), (1, .int x1), (2, .int x2)]) hM lv_202 ⟨show ndL _ from (by decide : List.Nodup ([0, 1, 2] : List Nat)), show ndL _ from (by decide : List.Nodup ([0, 1, 2] : List Nat)), by rw [lva_202_124]; exact List.forall_mem_cons.mpr ⟨rfl, List.forall_mem_cons.mpr ⟨rfl, List.forall_mem_cons.mpr ⟨rfl, fun _ h => absurd h List.not_mem_nil⟩⟩⟩⟩ h
set_option maxRecDepth 100000 in
theorem p_202_71 {n d : Nat} {Q : Option Value → Sg → Prop} (σ : Sg) (x1 x2 x3 : Int32) (h : Pl PRG n d 202 34 [(0, .ref 97), (1, .int x1), (2, .int x2), (3, .int (x3 + (1 : Int32)))] [] σ Q) : Pl PRG (n + 1) d 202 71 [(0, .ref 97), (1, .int x1), (2, .int x2), (3, .int x3)] [] σ Q := by
  have hM : PRG[202]? = some M_202 := rfl
  refine Pl.sg1 (pc' := 34) (ls' := [(3, .int (x3 + (1 : Int32))), (0, .ref 97), (1, .int x1), (2, .int x2)]) (st' := []) (σ' := σ) hM 1 rfl ?_
  exact Pl.live (l' := [(0, .ref 97), (1, .int x1), (2, .int x2), (3, .int (x3 + (1 : Int32)))]) hM lv_202 ⟨show ndL _ from (by decide : List.Nodup ([3, 0, 1, 2] : List Nat)), show ndL _ from (by decide : List.Nodup ([0, 1, 2, 3] : List Nat)), by rw [lva_202_34]; exact List.forall_mem_cons.mpr ⟨rfl, List.forall_mem_cons.mpr ⟨rfl, List.forall_mem_cons.mpr ⟨rfl, List.forall_mem_cons.mpr ⟨rfl, fun _ h => absurd h List.not_mem_nil⟩⟩⟩⟩⟩ h
set_option maxRecDepth 100000 in
theorem p_202_124 {n d : Nat} {Q : Option Value → Sg → Prop} (σ : Sg) (x1 x2 : Int32) (h : (∀ σ1, RCx PRG n 190 [.ref 97, .int (1 : Int32)] σ none σ1 → Pl PRG n d 202 129 [(0, .ref 97), (1, .int x1), (2, .int x2)] [] σ1 Q)) : Pl PRG (n + 1) d 202 124 [(0, .ref 97), (1, .int x1), (2, .int x2)] [] σ Q := by
  have hM : PRG[202]? = some M_202 := rfl
  refine Pl.sg1 (pc' := 126) (ls' := [(0, .ref 97), (1, .int x1), (2, .int x2)]) (st' := [.int (1 : Int32), .ref 97]) (σ' := σ) hM 1 rfl ?_
  refine Pl.weak (Pl.cV hM rfl rfl (by decide) (Mj := M_190) rfl rfl (fun σ1 hw => ?_))
  replace h := h σ1 hw
  exact Pl.live (l' := [(0, .ref 97), (1, .int x1), (2, .int x2)]) hM lv_202 ⟨show ndL _ from (by decide : List.Nodup ([0, 1, 2] : List Nat)), show ndL _ from (by decide : List.Nodup ([0, 1, 2] : List Nat)), by rw [lva_202_129]; exact List.forall_mem_cons.mpr ⟨rfl, List.forall_mem_cons.mpr ⟨rfl, List.forall_mem_cons.mpr ⟨rfl, fun _ h => absurd h List.not_mem_nil⟩⟩⟩⟩ h
set_option maxRecDepth 100000 in
theorem p_202_129 {n d : Nat} {Q : Option Value → Sg → Prop} (σ : Sg) (x1 x2 : Int32) (h : (((σ.1 97 13) ≤ 0 → (inR (σ.1 97 11) 403 = true → (inR x1 12 = true → (∀ σ1, RCx PRG n 192 [.ref 97] (s1 σ 111 x1.toNatClampNeg ((σ.1 100 (σ.1 97 11).toNatClampNeg) - (23 : Int32))) none σ1 → (inR ((2 : Int32) * x1) 24 = true → (∀ w3 σ2, RCx PRG n 189 [.ref 97, .int (26 : Int32)] (s1 σ1 112 ((2 : Int32) * x1).toNatClampNeg (σ1.1 97 30)) (some (.int w3)) σ2 → (w3 = 0 ∨ w3 = 1) → ((w3 = 0 → Pl PRG n d 202 184 [(0, .ref 97), (1, .int x1), (2, .int x2)] [] σ2 Q) ∧ (¬ w3 = 0 → (∀ σ4, RCx PRG n 201 [.ref 97] σ2 none σ4 → Pl PRG n d 202 184 [(0, .ref 97), (1, .int x1), (2, .int x2)] [] σ4 Q))))))))) ∧ (¬ (σ.1 97 13) ≤ 0 → Q none σ))) : Pl PRG (n + 1) d 202 129 [(0, .ref 97), (1, .int x1), (2, .int x2)] [] σ Q := by
  have hM : PRG[202]? = some M_202 := rfl
  refine Pl.br1 (c := (σ.1 97 13) ≤ 0) (a := 137) (b := 136) (ls' := [(0, .ref 97), (1, .int x1), (2, .int x2)]) (st' := []) (σ' := σ) hM 2 rfl (fun c => ?_) (fun c => ?_)
  · replace h := h.1 c
    refine Pl.seg (pc' := 150) (ls' := [(0, .ref 97), (1, .int x1), (2, .int x2)]) (st' := [.int (σ.1 97 11), .ref 100, .int x1, .ref 111]) (σ' := σ) hM 7 rfl ?_
    refine Pl.weak (Pl.iald hM rfl rfl (fun hi => ?_))
    replace h := h hi
    refine Pl.seg (pc' := 154) (ls' := [(0, .ref 97), (1, .int x1), (2, .int x2)]) (st' := [.int ((σ.1 100 (σ.1 97 11).toNatClampNeg) - (23 : Int32)), .int x1, .ref 111]) (σ' := σ) hM 2 rfl ?_
    refine Pl.weak (Pl.iast hM rfl rfl (fun hi => ?_))
    replace h := h hi
    refine Pl.seg (pc' := 156) (ls' := [(0, .ref 97), (1, .int x1), (2, .int x2)]) (st' := [.ref 97]) (σ' := (s1 σ 111 x1.toNatClampNeg ((σ.1 100 (σ.1 97 11).toNatClampNeg) - (23 : Int32)))) hM 1 rfl ?_
    refine Pl.weak (Pl.cV hM rfl rfl (by decide) (Mj := M_192) rfl rfl (fun σ1 hw => ?_))
    replace h := h σ1 hw
    refine Pl.seg (pc' := 170) (ls' := [(0, .ref 97), (1, .int x1), (2, .int x2)]) (st' := [.int (σ1.1 97 30), .int ((2 : Int32) * x1), .ref 112]) (σ' := σ1) hM 7 rfl ?_
    refine Pl.weak (Pl.iast hM rfl rfl (fun hi => ?_))
    replace h := h hi
    refine Pl.seg (pc' := 174) (ls' := [(0, .ref 97), (1, .int x1), (2, .int x2)]) (st' := [.int (26 : Int32), .ref 97]) (σ' := (s1 σ1 112 ((2 : Int32) * x1).toNatClampNeg (σ1.1 97 30))) hM 2 rfl ?_
    refine Pl.weak (Pl.cZ hM rfl rfl (by decide) (Mj := M_189) rfl rfl (fun w3 σ2 hw hz => ?_))
    replace h := h w3 σ2 hw hz
    refine Pl.br (c := w3 = 0) (a := 184) (b := 180) (ls' := [(0, .ref 97), (1, .int x1), (2, .int x2)]) (st' := []) (σ' := σ2) hM 1 rfl (fun c => ?_) (fun c => ?_)
    · replace h := h.1 c
      exact Pl.live (l' := [(0, .ref 97), (1, .int x1), (2, .int x2)]) hM lv_202 ⟨show ndL _ from (by decide : List.Nodup ([0, 1, 2] : List Nat)), show ndL _ from (by decide : List.Nodup ([0, 1, 2] : List Nat)), by rw [lva_202_184]; exact List.forall_mem_cons.mpr ⟨rfl, List.forall_mem_cons.mpr ⟨rfl, List.forall_mem_cons.mpr ⟨rfl, fun _ h => absurd h List.not_mem_nil⟩⟩⟩⟩ h
    · replace h := h.2 c
      refine Pl.seg (pc' := 181) (ls' := [(0, .ref 97), (1, .int x1), (2, .int x2)]) (st' := [.ref 97]) (σ' := σ2) hM 1 rfl ?_
      refine Pl.weak (Pl.cV hM rfl rfl (by decide) (Mj := M_201) rfl rfl (fun σ4 hw => ?_))
      replace h := h σ4 hw
      exact Pl.live (l' := [(0, .ref 97), (1, .int x1), (2, .int x2)]) hM lv_202 ⟨show ndL _ from (by decide : List.Nodup ([0, 1, 2] : List Nat)), show ndL _ from (by decide : List.Nodup ([0, 1, 2] : List Nat)), by rw [lva_202_184]; exact List.forall_mem_cons.mpr ⟨rfl, List.forall_mem_cons.mpr ⟨rfl, List.forall_mem_cons.mpr ⟨rfl, fun _ h => absurd h List.not_mem_nil⟩⟩⟩⟩ h
  · replace h := h.2 c
    refine Pl.weak (Pl.ret hM rfl rfl h)
set_option maxRecDepth 100000 in
theorem p_202_184 {n d : Nat} {Q : Option Value → Sg → Prop} (σ : Sg) (x1 x2 : Int32) (h : (inR ((2 : Int32) * x1) 24 = true → (inR (((2 : Int32) * x1) + (1 : Int32)) 24 = true → (∀ w2 σ1, RCx PRG n 189 [.ref 97, .int (27 : Int32)] (s1 (s1 σ 113 ((2 : Int32) * x1).toNatClampNeg (σ.1 97 30)) 112 (((2 : Int32) * x1) + (1 : Int32)).toNatClampNeg (σ.1 97 30)) (some (.int w2)) σ1 → (w2 = 0 ∨ w2 = 1) → ((w2 = 0 → (∀ σ3, RCx PRG n 190 [.ref 97, .int (1 : Int32)] σ1 none σ3 → Pl PRG n d 202 224 [(0, .ref 97), (1, .int x1), (2, .int x2)] [] σ3 Q)) ∧ (¬ w2 = 0 → Pl PRG n d 202 224 [(0, .ref 97), (1, .int x1), (2, .int x2)] [] σ1 Q)))))) : Pl PRG (n + 1) d 202 184 [(0, .ref 97), (1, .int x1), (2, .int x2)] [] σ Q := by
  have hM : PRG[202]? = some M_202 := rfl
  refine Pl.sg1 (pc' := 195) (ls' := [(0, .ref 97), (1, .int x1), (2, .int x2)]) (st' := [.int (σ.1 97 30), .int ((2 : Int32) * x1), .ref 113]) (σ' := σ) hM 6 rfl ?_
  refine Pl.weak (Pl.iast hM rfl rfl (fun hi => ?_))
  replace h := h hi
  refine Pl.seg (pc' := 209) (ls' := [(0, .ref 97), (1, .int x1), (2, .int x2)]) (st' := [.int (σ.1 97 30), .int (((2 : Int32) * x1) + (1 : Int32)), .ref 112]) (σ' := (s1 σ 113 ((2 : Int32) * x1).toNatClampNeg (σ.1 97 30))) hM 9 rfl ?_
  refine Pl.weak (Pl.iast hM rfl rfl (fun hi => ?_))
  replace h := h hi
  refine Pl.seg (pc' := 213) (ls' := [(0, .ref 97), (1, .int x1), (2, .int x2)]) (st' := [.int (27 : Int32), .ref 97]) (σ' := (s1 (s1 σ 113 ((2 : Int32) * x1).toNatClampNeg (σ.1 97 30)) 112 (((2 : Int32) * x1) + (1 : Int32)).toNatClampNeg (σ.1 97 30))) hM 2 rfl ?_
  refine Pl.weak (Pl.cZ hM rfl rfl (by decide) (Mj := M_189) rfl rfl (fun w2 σ1 hw hz => ?_))
  replace h := h w2 σ1 hw hz
  refine Pl.brN (c := w2 = 0) (a := 224) (b := 219) (ls' := [(0, .ref 97), (1, .int x1), (2, .int x2)]) (st' := []) (σ' := σ1) hM 1 rfl (fun c => ?_) (fun c => ?_)
  · replace h := h.2 c
    exact Pl.live (l' := [(0, .ref 97), (1, .int x1), (2, .int x2)]) hM lv_202 ⟨show ndL _ from (by decide : List.Nodup ([0, 1, 2] : List Nat)), show ndL _ from (by decide : List.Nodup ([0, 1, 2] : List Nat)), by rw [lva_202_224]; exact List.forall_mem_cons.mpr ⟨rfl, List.forall_mem_cons.mpr ⟨rfl, List.forall_mem_cons.mpr ⟨rfl, fun _ h => absurd h List.not_mem_nil⟩⟩⟩⟩ h
  · replace h := h.1 c
    refine Pl.seg (pc' := 221) (ls' := [(0, .ref 97), (1, .int x1), (2, .int x2)]) (st' := [.int (1 : Int32), .ref 97]) (σ' := σ1) hM 2 rfl ?_
    refine Pl.weak (Pl.cV hM rfl rfl (by decide) (Mj := M_190) rfl rfl (fun σ3 hw => ?_))
    replace h := h σ3 hw
    exact Pl.live (l' := [(0, .ref 97), (1, .int x1), (2, .int x2)]) hM lv_202 ⟨show ndL _ from (by decide : List.Nodup ([0, 1, 2] : List Nat)), show ndL _ from (by decide : List.Nodup ([0, 1, 2] : List Nat)), by rw [lva_202_224]; exact List.forall_mem_cons.mpr ⟨rfl, List.forall_mem_cons.mpr ⟨rfl, List.forall_mem_cons.mpr ⟨rfl, fun _ h => absurd h List.not_mem_nil⟩⟩⟩⟩ h
set_option maxRecDepth 100000 in
theorem p_202_224 {n d : Nat} {Q : Option Value → Sg → Prop} (σ : Sg) (x1 x2 : Int32) (h : (((σ.1 97 13) = 0 → (∀ σ1, RCx PRG n 201 [.ref 97] σ none σ1 → Pl PRG n d 202 235 [(0, .ref 97), (1, .int x1), (2, .int x2)] [] σ1 Q)) ∧ (¬ (σ.1 97 13) = 0 → Pl PRG n d 202 235 [(0, .ref 97), (1, .int x1), (2, .int x2)] [] σ Q))) : Pl PRG (n + 1) d 202 224 [(0, .ref 97), (1, .int x1), (2, .int x2)] [] σ Q := by
  have hM : PRG[202]? = some M_202 := rfl
  refine Pl.brN1 (c := (σ.1 97 13) = 0) (a := 235) (b := 231) (ls' := [(0, .ref 97), (1, .int x1), (2, .int x2)]) (st' := []) (σ' := σ) hM 2 rfl (fun c => ?_) (fun c => ?_)
  · replace h := h.2 c
    exact Pl.live (l' := [(0, .ref 97), (1, .int x1), (2, .int x2)]) hM lv_202 ⟨show ndL _ from (by decide : List.Nodup ([0, 1, 2] : List Nat)), show ndL _ from (by decide : List.Nodup ([0, 1, 2] : List Nat)), by rw [lva_202_235]; exact List.forall_mem_cons.mpr ⟨rfl, List.forall_mem_cons.mpr ⟨rfl, List.forall_mem_cons.mpr ⟨rfl, fun _ h => absurd h List.not_mem_nil⟩⟩⟩⟩ h
  · replace h := h.1 c
    refine Pl.seg (pc' := 232) (ls' := [(0, .ref 97), (1, .int x1), (2, .int x2)]) (st' := [.ref 97]) (σ' := σ) hM 1 rfl ?_
    refine Pl.weak (Pl.cV hM rfl rfl (by decide) (Mj := M_201) rfl rfl (fun σ1 hw => ?_))
    replace h := h σ1 hw
    exact Pl.live (l' := [(0, .ref 97), (1, .int x1), (2, .int x2)]) hM lv_202 ⟨show ndL _ from (by decide : List.Nodup ([0, 1, 2] : List Nat)), show ndL _ from (by decide : List.Nodup ([0, 1, 2] : List Nat)), by rw [lva_202_235]; exact List.forall_mem_cons.mpr ⟨rfl, List.forall_mem_cons.mpr ⟨rfl, List.forall_mem_cons.mpr ⟨rfl, fun _ h => absurd h List.not_mem_nil⟩⟩⟩⟩ h
set_option maxRecDepth 100000 in
theorem p_202_235 {n d : Nat} {Q : Option Value → Sg → Prop} (σ : Sg) (x1 x2 : Int32) (h : (inR (((2 : Int32) * x1) + (1 : Int32)) 24 = true → (∀ σ1, RCx PRG n 193 [.ref 97, .int (4 : Int32)] (s1 σ 113 (((2 : Int32) * x1) + (1 : Int32)).toNatClampNeg (σ.1 97 30)) none σ1 → (((σ1.1 97 13) ≤ 0 → (inR x2 403 = true → (inR (σ1.1 97 20) 6 = true → (inR (σ1.1 97 19) 2 = true → (inR (σ1.1 97 19) 2 = true → Q none (s1 (s1 (s2 σ1 105 (σ1.1 97 20).toNatClampNeg (σ1.2 103 x2.toNatClampNeg)) 97 20 ((σ1.1 97 20) + (1 : Int32))) 109 (σ1.1 97 19).toNatClampNeg ((σ1.1 109 (σ1.1 97 19).toNatClampNeg) + (1 : Int32)))))))) ∧ (¬ (σ1.1 97 13) ≤ 0 → Q none σ1))))) : Pl PRG (n + 1) d 202 235 [(0, .ref 97), (1, .int x1), (2, .int x2)] [] σ Q := by
  have hM : PRG[202]? = some M_202 := rfl
  refine Pl.sg1 (pc' := 248) (ls' := [(0, .ref 97), (1, .int x1), (2, .int x2)]) (st' := [.int (σ.1 97 30), .int (((2 : Int32) * x1) + (1 : Int32)), .ref 113]) (σ' := σ) hM 8 rfl ?_
  refine Pl.weak (Pl.iast hM rfl rfl (fun hi => ?_))
  replace h := h hi
  refine Pl.seg (pc' := 251) (ls' := [(0, .ref 97), (1, .int x1), (2, .int x2)]) (st' := [.int (4 : Int32), .ref 97]) (σ' := (s1 σ 113 (((2 : Int32) * x1) + (1 : Int32)).toNatClampNeg (σ.1 97 30))) hM 2 rfl ?_
  refine Pl.weak (Pl.cV hM rfl rfl (by decide) (Mj := M_193) rfl rfl (fun σ1 hw => ?_))
  replace h := h σ1 hw
  refine Pl.br (c := (σ1.1 97 13) ≤ 0) (a := 262) (b := 261) (ls' := [(0, .ref 97), (1, .int x1), (2, .int x2)]) (st' := []) (σ' := σ1) hM 3 rfl (fun c => ?_) (fun c => ?_)
  · replace h := h.1 c
    refine Pl.seg (pc' := 275) (ls' := [(0, .ref 97), (1, .int x1), (2, .int x2)]) (st' := [.int x2, .ref 103, .int (σ1.1 97 20), .ref 105]) (σ' := σ1) hM 7 rfl ?_
    refine Pl.weak (Pl.lald hM rfl rfl (fun hi => ?_))
    replace h := h hi
    refine Pl.weak (Pl.last hM rfl rfl (fun hi => ?_))
    replace h := h hi
    refine Pl.seg (pc' := 296) (ls' := [(0, .ref 97), (1, .int x1), (2, .int x2)]) (st' := [.int (σ1.1 97 19), .ref 109, .int (σ1.1 97 19), .ref 109]) (σ' := (s1 (s2 σ1 105 (σ1.1 97 20).toNatClampNeg (σ1.2 103 x2.toNatClampNeg)) 97 20 ((σ1.1 97 20) + (1 : Int32)))) hM 11 rfl ?_
    refine Pl.weak (Pl.iald hM rfl rfl (fun hi => ?_))
    replace h := h hi
    refine Pl.seg (pc' := 299) (ls' := [(0, .ref 97), (1, .int x1), (2, .int x2)]) (st' := [.int ((σ1.1 109 (σ1.1 97 19).toNatClampNeg) + (1 : Int32)), .int (σ1.1 97 19), .ref 109]) (σ' := (s1 (s2 σ1 105 (σ1.1 97 20).toNatClampNeg (σ1.2 103 x2.toNatClampNeg)) 97 20 ((σ1.1 97 20) + (1 : Int32)))) hM 2 rfl ?_
    refine Pl.weak (Pl.iast hM rfl rfl (fun hi => ?_))
    replace h := h hi
    refine Pl.weak (Pl.ret hM rfl rfl h)
  · replace h := h.2 c
    refine Pl.weak (Pl.ret hM rfl rfl h)
def LV_203 : List (Nat × List Nat) := [(0, [0]), (1, [0]), (4, [0]), (5, [0]), (8, [0]), (9, [0]), (36, [0]), (37, [0]), (40, [0]), (41, [0]), (42, [0]), (43, [0]), (46, [0]), (47, [0, 1]), (48, [0, 1]), (51, [0, 1]), (52, [0, 1, 2]), (53, [0, 1, 2]), (54, [0, 1, 2]), (56, [0, 1, 2]), (59, [0, 1, 2]), (60, [0, 1, 2, 3]), (61, [0, 1, 2, 3]), (64, [0, 1, 2, 3]), (67, [0, 1, 2, 3]), (68, [0, 1, 2, 3]), (69, [0, 1, 2, 3]), (70, [0, 1, 2, 3]), (73, [0, 1, 2, 3]), (76, [0, 1, 2, 3]), (77, [0, 1, 2, 3]), (78, [0, 1, 2, 3]), (80, [0, 1, 2, 3]), (83, [0, 1, 2, 3]), (86, [0, 1, 2, 3]), (87, [0, 1, 2, 3]), (90, [0, 1, 2, 3]), (91, [0, 1, 2, 3]), (93, [0, 1, 2, 3, 4]), (95, [0, 1, 2, 3]), (98, [0, 1, 2, 3]), (99, [0, 1, 2, 3]), (100, [0, 1, 2, 3]), (101, [0, 1, 2, 3]), (103, [0, 1, 2, 3]), (106, [0, 1, 2, 3]), (107, [0, 1, 2, 3]), (108, [0, 1, 2, 3]), (109, [0, 1, 2, 3]), (110, [0, 1, 2, 3]), (111, [0, 1, 2, 3]), (114, [0, 1, 2, 3]), (115, [0, 1, 2, 3]), (116, [0, 1, 2, 3]), (117, [0, 1, 3]), (120, [0, 1, 3]), (121, [0, 1, 3]), (122, [0, 1, 3]), (125, [0, 1, 3]), (126, [0, 1, 3]), (129, [0, 1, 3]), (130, [0, 1, 3]), (133, [0, 1, 3]), (134, [0, 3]), (135, [0, 3]), (136, [0, 3]), (139, [0, 3]), (140, [3]), (143, [3]), (144, []), (145, []), (148, [0]), (149, [0]), (152, [0]), (153, [0]), (156, [0]), (157, [0]), (160, [0]), (161, [0]), (162, [0]), (163, [0]), (166, [0]), (167, [0]), (168, []), (169, []), (172, []), (175, [0]), (176, [0]), (179, [0]), (180, [0]), (183, [0]), (184, [0]), (186, [0]), (189, [0]), (190, [0]), (191, [0]), (194, [0]), (195, [0]), (198, [0]), (201, [0]), (202, []), (205, []), (208, [0]), (209, []), (210, []), (213, [])]
set_option maxRecDepth 100000 in
theorem lv_203 : chkLv M_203 LV_203 = true := by decide +kernel
set_option maxRecDepth 100000 in
theorem lva_203_90 : lvA LV_203 90 = [0, 1, 2, 3] := by decide +kernel
set_option maxRecDepth 100000 in
theorem lva_203_114 : lvA LV_203 114 = [0, 1, 2, 3] := by decide +kernel
set_option maxRecDepth 100000 in
theorem lva_203_120 : lvA LV_203 120 = [0, 1, 3] := by decide +kernel
set_option maxRecDepth 100000 in
theorem lva_203_194 : lvA LV_203 194 = [0] := by decide +kernel
set_option maxRecDepth 100000 in
theorem lva_203_213 : lvA LV_203 213 = [] := by decide +kernel
set_option maxRecDepth 100000 in
theorem p_203_0 {n d : Nat} {Q : Option Value → Sg → Prop} (σ : Sg) (h : (inR (σ.1 97 11) 403 = true → (((σ.1 100 (σ.1 97 11).toNatClampNeg).toInt < 20 ∨ 22 < (σ.1 100 (σ.1 97 11).toNatClampNeg).toInt → (∀ σ1, RCx PRG n 190 [.ref 97, .int (1 : Int32)] σ none σ1 → Pl PRG n d 203 213 [] [] σ1 Q)) ∧ ((σ.1 100 (σ.1 97 11).toNatClampNeg).toInt = 20 → (∀ σ2, RCx PRG n 192 [.ref 97] σ none σ2 → (∀ w4 σ3, RCx PRG n 194 [.ref 97, .int (1 : Int32), .int (4 : Int32)] σ2 (some (.int w4)) σ3 → (∀ w6 σ5, RCx PRG n 194 [.ref 97, .int (1 : Int32), .int (16 : Int32)] σ3 (some (.int w6)) σ5 → (((σ5.1 97 13) = 0 → (∀ w8 σ7, RCx PRG n 195 [.int w4, .int (1 : Int32), .int (4 : Int32)] σ5 (some (.int w8)) σ7 → (w8 = 0 ∨ w8 = 1) → ((w8 = 0 → Pl PRG n d 203 90 [(0, .ref 97), (1, .int w4), (2, .int (σ3.1 97 11)), (3, .int w6)] [] σ7 Q) ∧ (¬ w8 = 0 → (∀ w10 σ9, RCx PRG n 195 [.int w6, .int (1 : Int32), .int (16 : Int32)] σ7 (some (.int w10)) σ9 → (w10 = 0 ∨ w10 = 1) → ((w10 = 0 → Pl PRG n d 203 90 [(0, .ref 97), (1, .int w4), (2, .int (σ3.1 97 11)), (3, .int w6)] [] σ9 Q) ∧ (¬ w10 = 0 → (((16 : Int32) < (w4 * w6) → Pl PRG n d 203 114 [(0, .ref 97), (1, .int w4), (2, .int (σ3.1 97 11)), (3, .int w6)] [] σ9 Q) ∧ (¬ (16 : Int32) < (w4 * w6) → ((((w4 * w6) - (w4 * w6) / (4 : Int32) * (4 : Int32)) = 0 → Pl PRG n d 203 120 [(0, .ref 97), (1, .int w4), (3, .int w6)] [] σ9 Q) ∧ (¬ ((w4 * w6) - (w4 * w6) / (4 : Int32) * (4 : Int32)) = 0 → Pl PRG n d 203 114 [(0, .ref 97), (1, .int w4), (2, .int (σ3.1 97 11)), (3, .int w6)] [] σ9 Q))))))))))) ∧ (¬ (σ5.1 97 13) = 0 → Pl PRG n d 203 90 [(0, .ref 97), (1, .int w4), (2, .int (σ3.1 97 11)), (3, .int w6)] [] σ5 Q)))))) ∧ ((σ.1 100 (σ.1 97 11).toNatClampNeg).toInt = 21 → (∀ σ11, RCx PRG n 192 [.ref 97] σ none σ11 → (∀ w13 σ12, RCx PRG n 194 [.ref 97, .int (0 : Int32), .int (3 : Int32)] σ11 (some (.int w13)) σ12 → (inR (σ11.1 97 19) 2 = true → (∀ σ14, RCx PRG n 193 [.ref 97, .int (4 : Int32)] (s1 σ12 108 (σ11.1 97 19).toNatClampNeg w13) none σ14 → Pl PRG n d 203 213 [] [] σ14 Q))))) ∧ ((σ.1 100 (σ.1 97 11).toNatClampNeg).toInt = 22 → (inR (σ.1 97 19) 2 = true → (((σ.1 109 (σ.1 97 19).toNatClampNeg) = (6 : Int32) → (∀ σ15, RCx PRG n 190 [.ref 97, .int (2 : Int32)] σ none σ15 → Pl PRG n d 203 194 [(0, .ref 97)] [] σ15 Q)) ∧ (¬ (σ.1 109 (σ.1 97 19).toNatClampNeg) = (6 : Int32) → Pl PRG n d 203 194 [(0, .ref 97)] [] σ Q))))))) : Pl PRG (n + 1) d 203 0 [(0, .ref 97)] [] σ Q := by
  have hM : PRG[203]? = some M_203 := rfl
  refine Pl.sg1 (pc' := 8) (ls' := [(0, .ref 97)]) (st' := [.int (σ.1 97 11), .ref 100]) (σ' := σ) hM 3 rfl ?_
  refine Pl.weak (Pl.iald hM rfl rfl (fun hi => ?_))
  replace h := h hi
  refine Pl.weak (Pl.tsw hM rfl (fun c => ?_) (fun j o c ho => ?_))
  · replace h := h.1 c
    show Pl PRG n d 203 208 [(0, .ref 97)] [] σ Q
    refine Pl.seg (pc' := 210) (ls' := [(0, .ref 97)]) (st' := [.int (1 : Int32), .ref 97]) (σ' := σ) hM 2 rfl ?_
    refine Pl.weak (Pl.cV hM rfl rfl (by decide) (Mj := M_190) rfl rfl (fun σ1 hw => ?_))
    replace h := h σ1 hw
    exact Pl.live (l' := []) hM lv_203 ⟨show ndL _ from (by decide : List.Nodup ([0] : List Nat)), show ndL _ from (by decide : List.Nodup ([] : List Nat)), by rw [lva_203_213]; exact fun _ h => absurd h List.not_mem_nil⟩ h
  · match j, c, ho with
    | 0, c, ho =>
      have ho : some (27 : Int) = some o := ho
      cases ho
      have c : (σ.1 100 (σ.1 97 11).toNatClampNeg).toInt = 20 := by simpa using c
      replace h := h.2.1 c
      show Pl PRG n d 203 36 [(0, .ref 97)] [] σ Q
      refine Pl.seg (pc' := 37) (ls' := [(0, .ref 97)]) (st' := [.ref 97]) (σ' := σ) hM 1 rfl ?_
      refine Pl.weak (Pl.cV hM rfl rfl (by decide) (Mj := M_192) rfl rfl (fun σ2 hw => ?_))
      replace h := h σ2 hw
      refine Pl.seg (pc' := 43) (ls' := [(0, .ref 97)]) (st' := [.int (4 : Int32), .int (1 : Int32), .ref 97]) (σ' := σ2) hM 3 rfl ?_
      refine Pl.weak (Pl.cI hM rfl rfl (by decide) (Mj := M_194) rfl rfl (fun w4 σ3 hw => ?_))
      replace h := h w4 σ3 hw
      refine Pl.seg (pc' := 56) (ls' := [(2, .int (σ3.1 97 11)), (1, .int w4), (0, .ref 97)]) (st' := [.int (16 : Int32), .int (1 : Int32), .ref 97]) (σ' := σ3) hM 7 rfl ?_
      refine Pl.weak (Pl.cI hM rfl rfl (by decide) (Mj := M_194) rfl rfl (fun w6 σ5 hw => ?_))
      replace h := h w6 σ5 hw
      refine Pl.brN (c := (σ5.1 97 13) = 0) (a := 90) (b := 67) (ls' := [(3, .int w6), (2, .int (σ3.1 97 11)), (1, .int w4), (0, .ref 97)]) (st' := []) (σ' := σ5) hM 4 rfl (fun c => ?_) (fun c => ?_)
      · replace h := h.2 c
        exact Pl.live (l' := [(0, .ref 97), (1, .int w4), (2, .int (σ3.1 97 11)), (3, .int w6)]) hM lv_203 ⟨show ndL _ from (by decide : List.Nodup ([3, 2, 1, 0] : List Nat)), show ndL _ from (by decide : List.Nodup ([0, 1, 2, 3] : List Nat)), by rw [lva_203_90]; exact List.forall_mem_cons.mpr ⟨rfl, List.forall_mem_cons.mpr ⟨rfl, List.forall_mem_cons.mpr ⟨rfl, List.forall_mem_cons.mpr ⟨rfl, fun _ h => absurd h List.not_mem_nil⟩⟩⟩⟩⟩ h
      · replace h := h.1 c
        refine Pl.seg (pc' := 70) (ls' := [(3, .int w6), (2, .int (σ3.1 97 11)), (1, .int w4), (0, .ref 97)]) (st' := [.int (4 : Int32), .int (1 : Int32), .int w4]) (σ' := σ5) hM 3 rfl ?_
        refine Pl.weak (Pl.cZ hM rfl rfl (by decide) (Mj := M_195) rfl rfl (fun w8 σ7 hw hz => ?_))
        replace h := h w8 σ7 hw hz
        refine Pl.br (c := w8 = 0) (a := 90) (b := 76) (ls' := [(3, .int w6), (2, .int (σ3.1 97 11)), (1, .int w4), (0, .ref 97)]) (st' := []) (σ' := σ7) hM 1 rfl (fun c => ?_) (fun c => ?_)
        · replace h := h.1 c
          exact Pl.live (l' := [(0, .ref 97), (1, .int w4), (2, .int (σ3.1 97 11)), (3, .int w6)]) hM lv_203 ⟨show ndL _ from (by decide : List.Nodup ([3, 2, 1, 0] : List Nat)), show ndL _ from (by decide : List.Nodup ([0, 1, 2, 3] : List Nat)), by rw [lva_203_90]; exact List.forall_mem_cons.mpr ⟨rfl, List.forall_mem_cons.mpr ⟨rfl, List.forall_mem_cons.mpr ⟨rfl, List.forall_mem_cons.mpr ⟨rfl, fun _ h => absurd h List.not_mem_nil⟩⟩⟩⟩⟩ h
        · replace h := h.2 c
          refine Pl.seg (pc' := 80) (ls' := [(3, .int w6), (2, .int (σ3.1 97 11)), (1, .int w4), (0, .ref 97)]) (st' := [.int (16 : Int32), .int (1 : Int32), .int w6]) (σ' := σ7) hM 3 rfl ?_
          refine Pl.weak (Pl.cZ hM rfl rfl (by decide) (Mj := M_195) rfl rfl (fun w10 σ9 hw hz => ?_))
          replace h := h w10 σ9 hw hz
          refine Pl.br (c := w10 = 0) (a := 90) (b := 86) (ls' := [(3, .int w6), (2, .int (σ3.1 97 11)), (1, .int w4), (0, .ref 97)]) (st' := []) (σ' := σ9) hM 1 rfl (fun c => ?_) (fun c => ?_)
          · replace h := h.1 c
            exact Pl.live (l' := [(0, .ref 97), (1, .int w4), (2, .int (σ3.1 97 11)), (3, .int w6)]) hM lv_203 ⟨show ndL _ from (by decide : List.Nodup ([3, 2, 1, 0] : List Nat)), show ndL _ from (by decide : List.Nodup ([0, 1, 2, 3] : List Nat)), by rw [lva_203_90]; exact List.forall_mem_cons.mpr ⟨rfl, List.forall_mem_cons.mpr ⟨rfl, List.forall_mem_cons.mpr ⟨rfl, List.forall_mem_cons.mpr ⟨rfl, fun _ h => absurd h List.not_mem_nil⟩⟩⟩⟩⟩ h
          · replace h := h.2 c
            refine Pl.br (c := (16 : Int32) < (w4 * w6)) (a := 114) (b := 106) (ls' := [(4, .int (1 : Int32)), (3, .int w6), (2, .int (σ3.1 97 11)), (1, .int w4), (0, .ref 97)]) (st' := []) (σ' := σ9) hM 10 rfl (fun c => ?_) (fun c => ?_)
            · replace h := h.1 c
              exact Pl.live (l' := [(0, .ref 97), (1, .int w4), (2, .int (σ3.1 97 11)), (3, .int w6)]) hM lv_203 ⟨show ndL _ from (by decide : List.Nodup ([4, 3, 2, 1, 0] : List Nat)), show ndL _ from (by decide : List.Nodup ([0, 1, 2, 3] : List Nat)), by rw [lva_203_114]; exact List.forall_mem_cons.mpr ⟨rfl, List.forall_mem_cons.mpr ⟨rfl, List.forall_mem_cons.mpr ⟨rfl, List.forall_mem_cons.mpr ⟨rfl, fun _ h => absurd h List.not_mem_nil⟩⟩⟩⟩⟩ h
            · replace h := h.2 c
              refine Pl.br (c := ((w4 * w6) - (w4 * w6) / (4 : Int32) * (4 : Int32)) = 0) (a := 120) (b := 114) (ls' := [(4, .int (1 : Int32)), (3, .int w6), (2, .int (σ3.1 97 11)), (1, .int w4), (0, .ref 97)]) (st' := []) (σ' := σ9) hM 6 rfl (fun c => ?_) (fun c => ?_)
              · replace h := h.1 c
                exact Pl.live (l' := [(0, .ref 97), (1, .int w4), (3, .int w6)]) hM lv_203 ⟨show ndL _ from (by decide : List.Nodup ([4, 3, 2, 1, 0] : List Nat)), show ndL _ from (by decide : List.Nodup ([0, 1, 3] : List Nat)), by rw [lva_203_120]; exact List.forall_mem_cons.mpr ⟨rfl, List.forall_mem_cons.mpr ⟨rfl, List.forall_mem_cons.mpr ⟨rfl, fun _ h => absurd h List.not_mem_nil⟩⟩⟩⟩ h
              · replace h := h.2 c
                exact Pl.live (l' := [(0, .ref 97), (1, .int w4), (2, .int (σ3.1 97 11)), (3, .int w6)]) hM lv_203 ⟨show ndL _ from (by decide : List.Nodup ([4, 3, 2, 1, 0] : List Nat)), show ndL _ from (by decide : List.Nodup ([0, 1, 2, 3] : List Nat)), by rw [lva_203_114]; exact List.forall_mem_cons.mpr ⟨rfl, List.forall_mem_cons.mpr ⟨rfl, List.forall_mem_cons.mpr ⟨rfl, List.forall_mem_cons.mpr ⟨rfl, fun _ h => absurd h List.not_mem_nil⟩⟩⟩⟩⟩ h
    | 1, c, ho =>
      have ho : some (139 : Int) = some o := ho
      cases ho
      have c : (σ.1 100 (σ.1 97 11).toNatClampNeg).toInt = 21 := by simpa using c
      replace h := h.2.2.1 c
      show Pl PRG n d 203 148 [(0, .ref 97)] [] σ Q
      refine Pl.seg (pc' := 149) (ls' := [(0, .ref 97)]) (st' := [.ref 97]) (σ' := σ) hM 1 rfl ?_
      refine Pl.weak (Pl.cV hM rfl rfl (by decide) (Mj := M_192) rfl rfl (fun σ11 hw => ?_))
      replace h := h σ11 hw
      refine Pl.seg (pc' := 163) (ls' := [(0, .ref 97)]) (st' := [.int (3 : Int32), .int (0 : Int32), .ref 97, .int (σ11.1 97 19), .ref 108]) (σ' := σ11) hM 7 rfl ?_
      refine Pl.weak (Pl.cI hM rfl rfl (by decide) (Mj := M_194) rfl rfl (fun w13 σ12 hw => ?_))
      replace h := h w13 σ12 hw
      refine Pl.weak (Pl.iast hM rfl rfl (fun hi => ?_))
      replace h := h hi
      refine Pl.seg (pc' := 169) (ls' := [(0, .ref 97)]) (st' := [.int (4 : Int32), .ref 97]) (σ' := (s1 σ12 108 (σ11.1 97 19).toNatClampNeg w13)) hM 2 rfl ?_
      refine Pl.weak (Pl.cV hM rfl rfl (by decide) (Mj := M_193) rfl rfl (fun σ14 hw => ?_))
      replace h := h σ14 hw
      refine Pl.seg (pc' := 213) (ls' := [(0, .ref 97)]) (st' := []) (σ' := σ14) hM 1 rfl ?_
      exact Pl.live (l' := []) hM lv_203 ⟨show ndL _ from (by decide : List.Nodup ([0] : List Nat)), show ndL _ from (by decide : List.Nodup ([] : List Nat)), by rw [lva_203_213]; exact fun _ h => absurd h List.not_mem_nil⟩ h
    | 2, c, ho =>
      have ho : some (166 : Int) = some o := ho
      cases ho
      have c : (σ.1 100 (σ.1 97 11).toNatClampNeg).toInt = 22 := by simpa using c
      replace h := h.2.2.2 c
      show Pl PRG n d 203 175 [(0, .ref 97)] [] σ Q
      refine Pl.seg (pc' := 183) (ls' := [(0, .ref 97)]) (st' := [.int (σ.1 97 19), .ref 109]) (σ' := σ) hM 4 rfl ?_
      refine Pl.weak (Pl.iald hM rfl rfl (fun hi => ?_))
      replace h := h hi
      refine Pl.brN (c := (σ.1 109 (σ.1 97 19).toNatClampNeg) = (6 : Int32)) (a := 194) (b := 189) (ls' := [(0, .ref 97)]) (st' := []) (σ' := σ) hM 2 rfl (fun c => ?_) (fun c => ?_)
      · replace h := h.2 c
        exact Pl.live (l' := [(0, .ref 97)]) hM lv_203 ⟨show ndL _ from (by decide : List.Nodup ([0] : List Nat)), show ndL _ from (by decide : List.Nodup ([0] : List Nat)), by rw [lva_203_194]; exact List.forall_mem_cons.mpr ⟨rfl, fun _ h => absurd h List.not_mem_nil⟩⟩ h
      · replace h := h.1 c
        refine Pl.seg (pc' := 191) (ls' := [(0, .ref 97)]) (st' := [.int (2 : Int32), .ref 97]) (σ' := σ) hM 2 rfl ?_
        refine Pl.weak (Pl.cV hM rfl rfl (by decide) (Mj := M_190) rfl rfl (fun σ15 hw => ?_))
        replace h := h σ15 hw
        exact Pl.live (l' := [(0, .ref 97)]) hM lv_203 ⟨show ndL _ from (by decide : List.Nodup ([0] : List Nat)), show ndL _ from (by decide : List.Nodup ([0] : List Nat)), by rw [lva_203_194]; exact List.forall_mem_cons.mpr ⟨rfl, fun _ h => absurd h List.not_mem_nil⟩⟩ h
    | k + 3, c, ho => exact absurd ho (by intro e; have e : (none : Option Int) = some o := e; cases e)
set_option maxRecDepth 100000 in
theorem p_203_213 {n d : Nat} {Q : Option Value → Sg → Prop} (σ : Sg) (h : Q none σ) : Pl PRG (n + 1) d 203 213 [] [] σ Q := by
  have hM : PRG[203]? = some M_203 := rfl
  refine Pl.ret hM rfl rfl h
set_option maxRecDepth 100000 in
theorem p_203_90 {n d : Nat} {Q : Option Value → Sg → Prop} (σ : Sg) (x1 x2 x3 : Int32) (h : Pl PRG n d 203 120 [(0, .ref 97), (1, .int x1), (3, .int x3)] [] σ Q) : Pl PRG (n + 1) d 203 90 [(0, .ref 97), (1, .int x1), (2, .int x2), (3, .int x3)] [] σ Q := by
  have hM : PRG[203]? = some M_203 := rfl
  refine Pl.sg1 (pc' := 120) (ls' := [(4, .int (0 : Int32)), (0, .ref 97), (1, .int x1), (2, .int x2), (3, .int x3)]) (st' := []) (σ' := σ) hM 3 rfl ?_
  exact Pl.live (l' := [(0, .ref 97), (1, .int x1), (3, .int x3)]) hM lv_203 ⟨show ndL _ from (by decide : List.Nodup ([4, 0, 1, 2, 3] : List Nat)), show ndL _ from (by decide : List.Nodup ([0, 1, 3] : List Nat)), by rw [lva_203_120]; exact List.forall_mem_cons.mpr ⟨rfl, List.forall_mem_cons.mpr ⟨rfl, List.forall_mem_cons.mpr ⟨rfl, fun _ h => absurd h List.not_mem_nil⟩⟩⟩⟩ h
set_option maxRecDepth 100000 in
theorem p_203_114 {n d : Nat} {Q : Option Value → Sg → Prop} (σ : Sg) (x1 x2 x3 : Int32) (h : (∀ σ1, RCx PRG n 191 [.ref 97, .int (5 : Int32), .int x2] σ none σ1 → Pl PRG n d 203 120 [(0, .ref 97), (1, .int x1), (3, .int x3)] [] σ1 Q)) : Pl PRG (n + 1) d 203 114 [(0, .ref 97), (1, .int x1), (2, .int x2), (3, .int x3)] [] σ Q := by
  have hM : PRG[203]? = some M_203 := rfl
  refine Pl.sg1 (pc' := 117) (ls' := [(0, .ref 97), (1, .int x1), (2, .int x2), (3, .int x3)]) (st' := [.int x2, .int (5 : Int32), .ref 97]) (σ' := σ) hM 2 rfl ?_
  refine Pl.weak (Pl.cV hM rfl rfl (by decide) (Mj := M_191) rfl rfl (fun σ1 hw => ?_))
  replace h := h σ1 hw
  exact Pl.live (l' := [(0, .ref 97), (1, .int x1), (3, .int x3)]) hM lv_203 ⟨show ndL _ from (by decide : List.Nodup ([0, 1, 2, 3] : List Nat)), show ndL _ from (by decide : List.Nodup ([0, 1, 3] : List Nat)), by rw [lva_203_120]; exact List.forall_mem_cons.mpr ⟨rfl, List.forall_mem_cons.mpr ⟨rfl, List.forall_mem_cons.mpr ⟨rfl, fun _ h => absurd h List.not_mem_nil⟩⟩⟩⟩ h
set_option maxRecDepth 100000 in
theorem p_203_120 {n d : Nat} {Q : Option Value → Sg → Prop} (σ : Sg) (x1 x3 : Int32) (h : (∀ σ1, RCx PRG n 193 [.ref 97, .int (4 : Int32)] σ none σ1 → (inR (σ1.1 97 19) 2 = true → (inR (σ1.1 97 19) 2 = true → Pl PRG n d 203 213 [] [] (s1 (s1 σ1 106 (σ1.1 97 19).toNatClampNeg x1) 107 (σ1.1 97 19).toNatClampNeg x3) Q)))) : Pl PRG (n + 1) d 203 120 [(0, .ref 97), (1, .int x1), (3, .int x3)] [] σ Q := by
  have hM : PRG[203]? = some M_203 := rfl
  refine Pl.sg1 (pc' := 122) (ls' := [(0, .ref 97), (1, .int x1), (3, .int x3)]) (st' := [.int (4 : Int32), .ref 97]) (σ' := σ) hM 1 rfl ?_
  refine Pl.weak (Pl.cV hM rfl rfl (by decide) (Mj := M_193) rfl rfl (fun σ1 hw => ?_))
  replace h := h σ1 hw
  refine Pl.seg (pc' := 134) (ls' := [(0, .ref 97), (1, .int x1), (3, .int x3)]) (st' := [.int x1, .int (σ1.1 97 19), .ref 106]) (σ' := σ1) hM 5 rfl ?_
  refine Pl.weak (Pl.iast hM rfl rfl (fun hi => ?_))
  replace h := h hi
  refine Pl.seg (pc' := 144) (ls' := [(0, .ref 97), (1, .int x1), (3, .int x3)]) (st' := [.int x3, .int (σ1.1 97 19), .ref 107]) (σ' := (s1 σ1 106 (σ1.1 97 19).toNatClampNeg x1)) hM 5 rfl ?_
  refine Pl.weak (Pl.iast hM rfl rfl (fun hi => ?_))
  replace h := h hi
  refine Pl.seg (pc' := 213) (ls' := [(0, .ref 97), (1, .int x1), (3, .int x3)]) (st' := []) (σ' := (s1 (s1 σ1 106 (σ1.1 97 19).toNatClampNeg x1) 107 (σ1.1 97 19).toNatClampNeg x3)) hM 1 rfl ?_
  exact Pl.live (l' := []) hM lv_203 ⟨show ndL _ from (by decide : List.Nodup ([0, 1, 3] : List Nat)), show ndL _ from (by decide : List.Nodup ([] : List Nat)), by rw [lva_203_213]; exact fun _ h => absurd h List.not_mem_nil⟩ h
set_option maxRecDepth 100000 in
theorem p_203_194 {n d : Nat} {Q : Option Value → Sg → Prop} (σ : Sg) (h : (((σ.1 97 13) = 0 → (∀ σ1, RCx PRG n 202 [.ref 97] σ none σ1 → Pl PRG n d 203 213 [] [] σ1 Q)) ∧ (¬ (σ.1 97 13) = 0 → Pl PRG n d 203 213 [] [] σ Q))) : Pl PRG (n + 1) d 203 194 [(0, .ref 97)] [] σ Q := by
  have hM : PRG[203]? = some M_203 := rfl
  refine Pl.brN1 (c := (σ.1 97 13) = 0) (a := 213) (b := 201) (ls' := [(0, .ref 97)]) (st' := []) (σ' := σ) hM 2 rfl (fun c => ?_) (fun c => ?_)
  · replace h := h.2 c
    exact Pl.live (l' := []) hM lv_203 ⟨show ndL _ from (by decide : List.Nodup ([0] : List Nat)), show ndL _ from (by decide : List.Nodup ([] : List Nat)), by rw [lva_203_213]; exact fun _ h => absurd h List.not_mem_nil⟩ h
  · replace h := h.1 c
    refine Pl.seg (pc' := 202) (ls' := [(0, .ref 97)]) (st' := [.ref 97]) (σ' := σ) hM 1 rfl ?_
    refine Pl.weak (Pl.cV hM rfl rfl (by decide) (Mj := M_202) rfl rfl (fun σ1 hw => ?_))
    replace h := h σ1 hw
    refine Pl.seg (pc' := 213) (ls' := [(0, .ref 97)]) (st' := []) (σ' := σ1) hM 1 rfl ?_
    exact Pl.live (l' := []) hM lv_203 ⟨show ndL _ from (by decide : List.Nodup ([0] : List Nat)), show ndL _ from (by decide : List.Nodup ([] : List Nat)), by rw [lva_203_213]; exact fun _ h => absurd h List.not_mem_nil⟩ h
def LV_204 : List (Nat × List Nat) := [(0, [0]), (1, [0]), (2, [0]), (5, [0]), (8, [0]), (9, [0]), (10, [0, 1]), (11, [0, 1]), (12, [0, 1]), (15, [0, 1]), (18, [0, 1]), (19, [0, 1]), (22, [0, 1]), (23, [0, 1]), (24, [0, 1]), (27, [0, 1]), (28, [0, 1]), (29, [0, 1]), (30, [0, 1]), (33, [0, 1]), (36, [0]), (37, [0]), (38, [0]), (41, [0]), (42, [0]), (45, [0]), (46, [0]), (47, [0]), (50, [0]), (51, [0]), (52, [0]), (55, [0]), (56, [0]), (57, [0]), (60, [0]), (61, [0]), (62, [0]), (65, [0]), (66, [0]), (67, [0]), (68, [0]), (71, [0]), (72, [0]), (75, [0]), (76, [0]), (77, [0]), (80, [0]), (81, [0]), (84, [0]), (85, [0]), (88, [0]), (89, [0]), (90, [0]), (91, [0]), (94, [0]), (95, [0]), (98, [0]), (99, [0]), (100, [0]), (101, [0]), (104, [0]), (105, [0]), (108, [0]), (109, [0]), (110, [0]), (111, [0]), (114, [0]), (115, [0]), (118, [0]), (119, [0]), (120, [0]), (121, [0]), (124, [0]), (125, [0]), (128, [0]), (129, [0]), (132, [0]), (133, [0]), (136, [0]), (137, [0]), (140, [0]), (141, [0]), (144, [0]), (145, [0]), (148, [0]), (151, [0]), (152, [0]), (153, [0]), (156, [0]), (159, [0]), (160, [0]), (163, [0]), (166, [0]), (167, [0]), (168, [0]), (171, [0]), (174, [0]), (175, [0]), (178, [0]), (181, [0]), (182, [0]), (185, [0]), (188, [0]), (189, [0]), (192, [0]), (195, [0]), (196, [0]), (199, [0]), (200, [0]), (203, [0]), (206, [0]), (207, []), (210, []), (211, [0]), (212, [0]), (215, [0]), (218, [0]), (219, []), (222, []), (223, [0]), (224, [0]), (225, [0]), (228, [0]), (231, [0]), (232, [0]), (233, [0]), (236, [0]), (237, [0]), (238, [0]), (241, [0]), (242, [0]), (243, [0]), (246, [0]), (247, [0]), (250, [0]), (251, [0]), (252, [0]), (253, [0]), (254, []), (257, []), (258, []), (259, []), (260, []), (261, [])]
set_option maxRecDepth 100000 in
theorem lv_204 : chkLv M_204 LV_204 = true := by decide +kernel
set_option maxRecDepth 100000 in
theorem lva_204_10 : lvA LV_204 10 = [0, 1] := by decide +kernel
set_option maxRecDepth 100000 in
theorem lva_204_144 : lvA LV_204 144 = [0] := by decide +kernel
set_option maxRecDepth 100000 in
theorem lva_204_166 : lvA LV_204 166 = [0] := by decide +kernel
set_option maxRecDepth 100000 in
theorem p_204_0 {n d : Nat} {Q : Option Value → Sg → Prop} (σ : Sg) (h : Pl PRG n d 204 10 [(0, .ref 97), (1, .int (0 : Int32))] [] (s1 σ 97 4 (σ.1 97 2)) Q) : Pl PRG (n + 1) d 204 0 [(0, .ref 97)] [] σ Q := by
  have hM : PRG[204]? = some M_204 := rfl
  refine Pl.sg1 (pc' := 10) (ls' := [(1, .int (0 : Int32)), (0, .ref 97)]) (st' := []) (σ' := (s1 σ 97 4 (σ.1 97 2))) hM 5 rfl ?_
  exact Pl.live (l' := [(0, .ref 97), (1, .int (0 : Int32))]) hM lv_204 ⟨show ndL _ from (by decide : List.Nodup ([1, 0] : List Nat)), show ndL _ from (by decide : List.Nodup ([0, 1] : List Nat)), by rw [lva_204_10]; exact List.forall_mem_cons.mpr ⟨rfl, List.forall_mem_cons.mpr ⟨rfl, fun _ h => absurd h List.not_mem_nil⟩⟩⟩ h
set_option maxRecDepth 100000 in
theorem p_204_10 {n d : Nat} {Q : Option Value → Sg → Prop} (σ : Sg) (x1 : Int32) (h : (((σ.1 97 4) ≤ x1 → (∀ σ1, RCx PRG n 188 [.ref 97] (s1 σ 97 2 (0 : Int32)) none σ1 → (inR ((1 : Int32) - (σ1.1 97 18)) 2 = true → (inR ((1 : Int32) - (σ1.1 97 18)) 2 = true → (inR ((1 : Int32) - (σ1.1 97 18)) 2 = true → (inR ((1 : Int32) - (σ1.1 97 18)) 2 = true → Pl PRG n d 204 144 [(0, .ref 97)] [] (s1 (s1 (s1 (s1 (s1 (s1 (s1 (s1 (s1 (s1 (s1 (s1 σ1 97 11 (0 : Int32)) 97 12 (0 : Int32)) 97 13 (0 : Int32)) 97 15 (0 : Int32)) 97 19 ((1 : Int32) - (σ1.1 97 18))) 97 20 (0 : Int32)) 106 ((1 : Int32) - (σ1.1 97 18)).toNatClampNeg (4 : Int32)) 107 ((1 : Int32) - (σ1.1 97 18)).toNatClampNeg (4 : Int32)) 108 ((1 : Int32) - (σ1.1 97 18)).toNatClampNeg (-1 : Int32)) 109 ((1 : Int32) - (σ1.1 97 18)).toNatClampNeg (0 : Int32)) 97 30 ((150 : Int32) * ((1 : Int32) - (σ1.1 97 18)))) 97 37 ((420 : Int32) * ((1 : Int32) - (σ1.1 97 18)))) Q)))))) ∧ (¬ (σ.1 97 4) ≤ x1 → (inR x1 2000 = true → (inR x1 2000 = true → Pl PRG n d 204 10 [(0, .ref 97), (1, .int (x1 + (1 : Int32)))] [] (s1 σ 99 x1.toNatClampNeg (vp_nar .byte (σ.1 98 x1.toNatClampNeg))) Q))))) : Pl PRG (n + 1) d 204 10 [(0, .ref 97), (1, .int x1)] [] σ Q := by
  have hM : PRG[204]? = some M_204 := rfl
  refine Pl.br1 (c := (σ.1 97 4) ≤ x1) (a := 36) (b := 18) (ls' := [(0, .ref 97), (1, .int x1)]) (st' := []) (σ' := σ) hM 3 rfl (fun c => ?_) (fun c => ?_)
  · replace h := h.1 c
    refine Pl.seg (pc' := 42) (ls' := [(0, .ref 97), (1, .int x1)]) (st' := [.ref 97]) (σ' := (s1 σ 97 2 (0 : Int32))) hM 4 rfl ?_
    refine Pl.weak (Pl.cV hM rfl rfl (by decide) (Mj := M_188) rfl rfl (fun σ1 hw => ?_))
    replace h := h σ1 hw
    refine Pl.seg (pc' := 89) (ls' := [(0, .ref 97), (1, .int x1)]) (st' := [.int (4 : Int32), .int ((1 : Int32) - (σ1.1 97 18)), .ref 106]) (σ' := (s1 (s1 (s1 (s1 (s1 (s1 σ1 97 11 (0 : Int32)) 97 12 (0 : Int32)) 97 13 (0 : Int32)) 97 15 (0 : Int32)) 97 19 ((1 : Int32) - (σ1.1 97 18))) 97 20 (0 : Int32))) hM 26 rfl ?_
    refine Pl.weak (Pl.iast hM rfl rfl (fun hi => ?_))
    replace h := h hi
    refine Pl.seg (pc' := 99) (ls' := [(0, .ref 97), (1, .int x1)]) (st' := [.int (4 : Int32), .int ((1 : Int32) - (σ1.1 97 18)), .ref 107]) (σ' := (s1 (s1 (s1 (s1 (s1 (s1 (s1 σ1 97 11 (0 : Int32)) 97 12 (0 : Int32)) 97 13 (0 : Int32)) 97 15 (0 : Int32)) 97 19 ((1 : Int32) - (σ1.1 97 18))) 97 20 (0 : Int32)) 106 ((1 : Int32) - (σ1.1 97 18)).toNatClampNeg (4 : Int32))) hM 5 rfl ?_
    refine Pl.weak (Pl.iast hM rfl rfl (fun hi => ?_))
    replace h := h hi
    refine Pl.seg (pc' := 109) (ls' := [(0, .ref 97), (1, .int x1)]) (st' := [.int (-1 : Int32), .int ((1 : Int32) - (σ1.1 97 18)), .ref 108]) (σ' := (s1 (s1 (s1 (s1 (s1 (s1 (s1 (s1 σ1 97 11 (0 : Int32)) 97 12 (0 : Int32)) 97 13 (0 : Int32)) 97 15 (0 : Int32)) 97 19 ((1 : Int32) - (σ1.1 97 18))) 97 20 (0 : Int32)) 106 ((1 : Int32) - (σ1.1 97 18)).toNatClampNeg (4 : Int32)) 107 ((1 : Int32) - (σ1.1 97 18)).toNatClampNeg (4 : Int32))) hM 5 rfl ?_
    refine Pl.weak (Pl.iast hM rfl rfl (fun hi => ?_))
    replace h := h hi
    refine Pl.seg (pc' := 119) (ls' := [(0, .ref 97), (1, .int x1)]) (st' := [.int (0 : Int32), .int ((1 : Int32) - (σ1.1 97 18)), .ref 109]) (σ' := (s1 (s1 (s1 (s1 (s1 (s1 (s1 (s1 (s1 σ1 97 11 (0 : Int32)) 97 12 (0 : Int32)) 97 13 (0 : Int32)) 97 15 (0 : Int32)) 97 19 ((1 : Int32) - (σ1.1 97 18))) 97 20 (0 : Int32)) 106 ((1 : Int32) - (σ1.1 97 18)).toNatClampNeg (4 : Int32)) 107 ((1 : Int32) - (σ1.1 97 18)).toNatClampNeg (4 : Int32)) 108 ((1 : Int32) - (σ1.1 97 18)).toNatClampNeg (-1 : Int32))) hM 5 rfl ?_
    refine Pl.weak (Pl.iast hM rfl rfl (fun hi => ?_))
    replace h := h hi
    refine Pl.seg (pc' := 144) (ls' := [(0, .ref 97), (1, .int x1)]) (st' := []) (σ' := (s1 (s1 (s1 (s1 (s1 (s1 (s1 (s1 (s1 (s1 (s1 (s1 σ1 97 11 (0 : Int32)) 97 12 (0 : Int32)) 97 13 (0 : Int32)) 97 15 (0 : Int32)) 97 19 ((1 : Int32) - (σ1.1 97 18))) 97 20 (0 : Int32)) 106 ((1 : Int32) - (σ1.1 97 18)).toNatClampNeg (4 : Int32)) 107 ((1 : Int32) - (σ1.1 97 18)).toNatClampNeg (4 : Int32)) 108 ((1 : Int32) - (σ1.1 97 18)).toNatClampNeg (-1 : Int32)) 109 ((1 : Int32) - (σ1.1 97 18)).toNatClampNeg (0 : Int32)) 97 30 ((150 : Int32) * ((1 : Int32) - (σ1.1 97 18)))) 97 37 ((420 : Int32) * ((1 : Int32) - (σ1.1 97 18))))) hM 12 rfl ?_
    exact Pl.live (l' := [(0, .ref 97)]) hM lv_204 ⟨show ndL _ from (by decide : List.Nodup ([0, 1] : List Nat)), show ndL _ from (by decide : List.Nodup ([0] : List Nat)), by rw [lva_204_144]; exact List.forall_mem_cons.mpr ⟨rfl, fun _ h => absurd h List.not_mem_nil⟩⟩ h
  · replace h := h.2 c
    refine Pl.seg (pc' := 28) (ls' := [(0, .ref 97), (1, .int x1)]) (st' := [.int x1, .ref 98, .int x1, .ref 99]) (σ' := σ) hM 6 rfl ?_
    refine Pl.weak (Pl.bald2 hM rfl rfl (fun hi => ?_))
    replace h := h hi
    refine Pl.weak (Pl.bast2 hM rfl rfl (fun hi => ?_))
    replace h := h hi
    refine Pl.seg (pc' := 10) (ls' := [(1, .int (x1 + (1 : Int32))), (0, .ref 97)]) (st' := []) (σ' := (s1 σ 99 x1.toNatClampNeg (vp_nar .byte (σ.1 98 x1.toNatClampNeg)))) hM 2 rfl ?_
    exact Pl.live (l' := [(0, .ref 97), (1, .int (x1 + (1 : Int32)))]) hM lv_204 ⟨show ndL _ from (by decide : List.Nodup ([1, 0] : List Nat)), show ndL _ from (by decide : List.Nodup ([0, 1] : List Nat)), by rw [lva_204_10]; exact List.forall_mem_cons.mpr ⟨rfl, List.forall_mem_cons.mpr ⟨rfl, fun _ h => absurd h List.not_mem_nil⟩⟩⟩ h
set_option maxRecDepth 100000 in
theorem p_204_144 {n d : Nat} {Q : Option Value → Sg → Prop} (σ : Sg) (h : (((σ.1 97 13) = 0 → (∀ w2 σ1, RCx PRG n 189 [.ref 97, .int (0 : Int32)] σ (some (.int w2)) σ1 → (w2 = 0 ∨ w2 = 1) → ((w2 = 0 → (∀ σ3, RCx PRG n 203 [.ref 97] σ1 none σ3 → Pl PRG n d 204 144 [(0, .ref 97)] [] σ3 Q)) ∧ (¬ w2 = 0 → Pl PRG n d 204 166 [(0, .ref 97)] [] σ1 Q)))) ∧ (¬ (σ.1 97 13) = 0 → Pl PRG n d 204 166 [(0, .ref 97)] [] σ Q))) : Pl PRG (n + 1) d 204 144 [(0, .ref 97)] [] σ Q := by
  have hM : PRG[204]? = some M_204 := rfl
  refine Pl.brN1 (c := (σ.1 97 13) = 0) (a := 166) (b := 151) (ls' := [(0, .ref 97)]) (st' := []) (σ' := σ) hM 2 rfl (fun c => ?_) (fun c => ?_)
  · replace h := h.2 c
    exact Pl.live (l' := [(0, .ref 97)]) hM lv_204 ⟨show ndL _ from (by decide : List.Nodup ([0] : List Nat)), show ndL _ from (by decide : List.Nodup ([0] : List Nat)), by rw [lva_204_166]; exact List.forall_mem_cons.mpr ⟨rfl, fun _ h => absurd h List.not_mem_nil⟩⟩ h
  · replace h := h.1 c
    refine Pl.seg (pc' := 153) (ls' := [(0, .ref 97)]) (st' := [.int (0 : Int32), .ref 97]) (σ' := σ) hM 2 rfl ?_
    refine Pl.weak (Pl.cZ hM rfl rfl (by decide) (Mj := M_189) rfl rfl (fun w2 σ1 hw hz => ?_))
    replace h := h w2 σ1 hw hz
    refine Pl.brN (c := w2 = 0) (a := 166) (b := 159) (ls' := [(0, .ref 97)]) (st' := []) (σ' := σ1) hM 1 rfl (fun c => ?_) (fun c => ?_)
    · replace h := h.2 c
      exact Pl.live (l' := [(0, .ref 97)]) hM lv_204 ⟨show ndL _ from (by decide : List.Nodup ([0] : List Nat)), show ndL _ from (by decide : List.Nodup ([0] : List Nat)), by rw [lva_204_166]; exact List.forall_mem_cons.mpr ⟨rfl, fun _ h => absurd h List.not_mem_nil⟩⟩ h
    · replace h := h.1 c
      refine Pl.seg (pc' := 160) (ls' := [(0, .ref 97)]) (st' := [.ref 97]) (σ' := σ1) hM 1 rfl ?_
      refine Pl.weak (Pl.cV hM rfl rfl (by decide) (Mj := M_203) rfl rfl (fun σ3 hw => ?_))
      replace h := h σ3 hw
      refine Pl.seg (pc' := 144) (ls' := [(0, .ref 97)]) (st' := []) (σ' := σ3) hM 1 rfl ?_
      exact Pl.live (l' := [(0, .ref 97)]) hM lv_204 ⟨show ndL _ from (by decide : List.Nodup ([0] : List Nat)), show ndL _ from (by decide : List.Nodup ([0] : List Nat)), by rw [lva_204_144]; exact List.forall_mem_cons.mpr ⟨rfl, fun _ h => absurd h List.not_mem_nil⟩⟩ h
set_option maxRecDepth 100000 in
theorem p_204_166 {n d : Nat} {Q : Option Value → Sg → Prop} (σ : Sg) (h : (((σ.1 97 13) ≤ 0 → (((σ.1 97 15) ≤ 0 → (((σ.1 97 13) ≤ 0 → (((σ.1 97 15) ≤ 0 → Q (some (.int (0 : Int32))) (s1 (s1 (s1 (s1 (s1 (s1 (s1 σ 97 17 (-1 : Int32)) 97 18 (σ.1 97 19)) 97 45 (0 : Int32)) 97 48 (0 : Int32)) 97 86 (0 : Int32)) 152 0 (vp_nar .boolean (0 : Int32))) 152 1 (vp_nar .boolean (0 : Int32)))) ∧ (¬ (σ.1 97 15) ≤ 0 → Q (some (.int (σ.1 97 15))) (s1 σ 97 17 (-1 : Int32))))) ∧ (¬ (σ.1 97 13) ≤ 0 → Q (some (.int (σ.1 97 13))) (s1 σ 97 17 (-1 : Int32))))) ∧ (¬ (σ.1 97 15) ≤ 0 → (((σ.1 97 13) ≤ 0 → (((σ.1 97 15) ≤ 0 → Q (some (.int (0 : Int32))) (s1 (s1 (s1 (s1 (s1 (s1 (s1 σ 97 17 (σ.1 97 16)) 97 18 (σ.1 97 19)) 97 45 (0 : Int32)) 97 48 (0 : Int32)) 97 86 (0 : Int32)) 152 0 (vp_nar .boolean (0 : Int32))) 152 1 (vp_nar .boolean (0 : Int32)))) ∧ (¬ (σ.1 97 15) ≤ 0 → Q (some (.int (σ.1 97 15))) (s1 σ 97 17 (σ.1 97 16))))) ∧ (¬ (σ.1 97 13) ≤ 0 → Q (some (.int (σ.1 97 13))) (s1 σ 97 17 (σ.1 97 16))))))) ∧ (¬ (σ.1 97 13) ≤ 0 → (((σ.1 97 13) ≤ 0 → (((σ.1 97 15) ≤ 0 → Q (some (.int (0 : Int32))) (s1 (s1 (s1 (s1 (s1 (s1 (s1 σ 97 17 (σ.1 97 14)) 97 18 (σ.1 97 19)) 97 45 (0 : Int32)) 97 48 (0 : Int32)) 97 86 (0 : Int32)) 152 0 (vp_nar .boolean (0 : Int32))) 152 1 (vp_nar .boolean (0 : Int32)))) ∧ (¬ (σ.1 97 15) ≤ 0 → Q (some (.int (σ.1 97 15))) (s1 σ 97 17 (σ.1 97 14))))) ∧ (¬ (σ.1 97 13) ≤ 0 → Q (some (.int (σ.1 97 13))) (s1 σ 97 17 (σ.1 97 14))))))) : Pl PRG (n + 1) d 204 166 [(0, .ref 97)] [] σ Q := by
  have hM : PRG[204]? = some M_204 := rfl
  refine Pl.br1 (c := (σ.1 97 13) ≤ 0) (a := 181) (b := 174) (ls' := [(0, .ref 97)]) (st' := [.ref 97]) (σ' := σ) hM 3 rfl (fun c => ?_) (fun c => ?_)
  · replace h := h.1 c
    refine Pl.br (c := (σ.1 97 15) ≤ 0) (a := 195) (b := 188) (ls' := [(0, .ref 97)]) (st' := [.ref 97]) (σ' := σ) hM 3 rfl (fun c => ?_) (fun c => ?_)
    · replace h := h.1 c
      refine Pl.br (c := (σ.1 97 13) ≤ 0) (a := 211) (b := 206) (ls' := [(0, .ref 97)]) (st' := []) (σ' := (s1 σ 97 17 (-1 : Int32))) hM 5 rfl (fun c => ?_) (fun c => ?_)
      · replace h := h.1 c
        refine Pl.br (c := (σ.1 97 15) ≤ 0) (a := 223) (b := 218) (ls' := [(0, .ref 97)]) (st' := []) (σ' := (s1 σ 97 17 (-1 : Int32))) hM 3 rfl (fun c => ?_) (fun c => ?_)
        · replace h := h.1 c
          refine Pl.seg (pc' := 261) (ls' := [(0, .ref 97)]) (st' := [.int (0 : Int32)]) (σ' := (s1 (s1 (s1 (s1 (s1 (s1 (s1 σ 97 17 (-1 : Int32)) 97 18 (σ.1 97 19)) 97 45 (0 : Int32)) 97 48 (0 : Int32)) 97 86 (0 : Int32)) 152 0 (vp_nar .boolean (0 : Int32))) 152 1 (vp_nar .boolean (0 : Int32)))) hM 24 rfl ?_
          refine Pl.weak (Pl.ret hM rfl rfl h)
        · replace h := h.2 c
          refine Pl.seg (pc' := 222) (ls' := [(0, .ref 97)]) (st' := [.int (σ.1 97 15)]) (σ' := (s1 σ 97 17 (-1 : Int32))) hM 2 rfl ?_
          refine Pl.weak (Pl.ret hM rfl rfl h)
      · replace h := h.2 c
        refine Pl.seg (pc' := 210) (ls' := [(0, .ref 97)]) (st' := [.int (σ.1 97 13)]) (σ' := (s1 σ 97 17 (-1 : Int32))) hM 2 rfl ?_
        refine Pl.weak (Pl.ret hM rfl rfl h)
    · replace h := h.2 c
      refine Pl.br (c := (σ.1 97 13) ≤ 0) (a := 211) (b := 206) (ls' := [(0, .ref 97)]) (st' := []) (σ' := (s1 σ 97 17 (σ.1 97 16))) hM 7 rfl (fun c => ?_) (fun c => ?_)
      · replace h := h.1 c
        refine Pl.br (c := (σ.1 97 15) ≤ 0) (a := 223) (b := 218) (ls' := [(0, .ref 97)]) (st' := []) (σ' := (s1 σ 97 17 (σ.1 97 16))) hM 3 rfl (fun c => ?_) (fun c => ?_)
        · replace h := h.1 c
          refine Pl.seg (pc' := 261) (ls' := [(0, .ref 97)]) (st' := [.int (0 : Int32)]) (σ' := (s1 (s1 (s1 (s1 (s1 (s1 (s1 σ 97 17 (σ.1 97 16)) 97 18 (σ.1 97 19)) 97 45 (0 : Int32)) 97 48 (0 : Int32)) 97 86 (0 : Int32)) 152 0 (vp_nar .boolean (0 : Int32))) 152 1 (vp_nar .boolean (0 : Int32)))) hM 24 rfl ?_
          refine Pl.weak (Pl.ret hM rfl rfl h)
        · replace h := h.2 c
          refine Pl.seg (pc' := 222) (ls' := [(0, .ref 97)]) (st' := [.int (σ.1 97 15)]) (σ' := (s1 σ 97 17 (σ.1 97 16))) hM 2 rfl ?_
          refine Pl.weak (Pl.ret hM rfl rfl h)
      · replace h := h.2 c
        refine Pl.seg (pc' := 210) (ls' := [(0, .ref 97)]) (st' := [.int (σ.1 97 13)]) (σ' := (s1 σ 97 17 (σ.1 97 16))) hM 2 rfl ?_
        refine Pl.weak (Pl.ret hM rfl rfl h)
  · replace h := h.2 c
    refine Pl.br (c := (σ.1 97 13) ≤ 0) (a := 211) (b := 206) (ls' := [(0, .ref 97)]) (st' := []) (σ' := (s1 σ 97 17 (σ.1 97 14))) hM 7 rfl (fun c => ?_) (fun c => ?_)
    · replace h := h.1 c
      refine Pl.br (c := (σ.1 97 15) ≤ 0) (a := 223) (b := 218) (ls' := [(0, .ref 97)]) (st' := []) (σ' := (s1 σ 97 17 (σ.1 97 14))) hM 3 rfl (fun c => ?_) (fun c => ?_)
      · replace h := h.1 c
        refine Pl.seg (pc' := 261) (ls' := [(0, .ref 97)]) (st' := [.int (0 : Int32)]) (σ' := (s1 (s1 (s1 (s1 (s1 (s1 (s1 σ 97 17 (σ.1 97 14)) 97 18 (σ.1 97 19)) 97 45 (0 : Int32)) 97 48 (0 : Int32)) 97 86 (0 : Int32)) 152 0 (vp_nar .boolean (0 : Int32))) 152 1 (vp_nar .boolean (0 : Int32)))) hM 24 rfl ?_
        refine Pl.weak (Pl.ret hM rfl rfl h)
      · replace h := h.2 c
        refine Pl.seg (pc' := 222) (ls' := [(0, .ref 97)]) (st' := [.int (σ.1 97 15)]) (σ' := (s1 σ 97 17 (σ.1 97 14))) hM 2 rfl ?_
        refine Pl.weak (Pl.ret hM rfl rfl h)
    · replace h := h.2 c
      refine Pl.seg (pc' := 210) (ls' := [(0, .ref 97)]) (st' := [.int (σ.1 97 13)]) (σ' := (s1 σ 97 17 (σ.1 97 14))) hM 2 rfl ?_
      refine Pl.weak (Pl.ret hM rfl rfl h)
