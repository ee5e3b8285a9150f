/-! what a run that ends has done: the calls that try games out -/
def LV_161 : List (Nat × List Nat) := [(0, [0, 1]), (1, [0, 1]), (2, [0, 1]), (5, [0, 1]), (6, [0, 1, 2]), (7, [0, 1, 2]), (10, [2]), (11, []), (12, [0, 1]), (13, [0, 1]), (16, [0, 1]), (17, [0, 1]), (20, [0, 1]), (23, [0, 1]), (24, [0, 1]), (25, [0, 1, 3]), (26, [0, 1, 3]), (28, [0, 1, 3]), (31, [0, 1, 3]), (32, [0, 1, 3]), (35, [0, 1, 3]), (38, [0, 1, 3]), (41, [0, 1, 3]), (42, [0, 1, 3]), (45, [0, 1, 3]), (46, [0, 1, 3]), (49, [0, 1, 3]), (50, [0, 1, 3]), (51, [0, 1, 3]), (54, [0, 1, 3]), (57, [0, 1, 3]), (60, [0, 1, 3]), (62, [0, 1, 3, 4]), (63, [0, 1, 3, 4]), (66, [0, 1, 3, 4]), (67, [0, 1, 3, 4]), (70, [0, 1, 3, 4]), (72, [0, 1, 3, 4]), (75, [0, 1, 3, 4]), (78, [0]), (79, []), (82, []), (85, []), (86, [0, 1, 3, 4]), (87, [0, 1, 3, 4]), (90, [0, 1, 3, 4]), (92, [0, 1, 3]), (95, [0, 1, 3]), (98, [0, 1, 3]), (101, []), (103, [])]
set_option maxRecDepth 100000 in
theorem lv_161 : chkLv M_161 LV_161 = true := by decide +kernel
set_option maxRecDepth 100000 in
theorem lva_161_25 : lvA LV_161 25 = [0, 1, 3] := by decide +kernel
set_option maxRecDepth 100000 in
theorem lva_161_101 : lvA LV_161 101 = [] := by decide +kernel
set_option maxRecDepth 100000 in
theorem p_161_0 {n d : Nat} {Q : Option Value → Sg → Prop} (σ : Sg) (x1 : Int32) (h : (∀ w2 σ1, RCx PRG n 154 [.ref 0, .int x1] σ (some (.int w2)) σ1 → ((w2 = 0 → (∀ σ3, RCx PRG n 67 [.ref 34, .ref 22] σ1 none σ3 → Pl PRG n d 161 25 [(0, .ref 0), (1, .int x1), (3, .int (0 : Int32))] [] σ3 Q)) ∧ (¬ w2 = 0 → Q (some (.int w2)) σ1)))) : Pl PRG (n + 1) d 161 0 [(0, .ref 0), (1, .int x1)] [] σ Q := by
  have hM : PRG[161]? = some M_161 := rfl
  refine Pl.sg1 (pc' := 2) (ls' := [(0, .ref 0), (1, .int x1)]) (st' := [.int x1, .ref 0]) (σ' := σ) hM 1 rfl ?_
  refine Pl.weak (Pl.cI hM rfl rfl (by decide) (Mj := M_154) rfl rfl (fun w2 σ1 hw => ?_))
  replace h := h w2 σ1 hw
  refine Pl.br (c := w2 = 0) (a := 12) (b := 10) (ls' := [(2, .int w2), (0, .ref 0), (1, .int x1)]) (st' := []) (σ' := σ1) hM 3 rfl (fun c => ?_) (fun c => ?_)
  · replace h := h.1 c
    refine Pl.seg (pc' := 20) (ls' := [(2, .int w2), (0, .ref 0), (1, .int x1)]) (st' := [.ref 22, .ref 34]) (σ' := σ1) hM 4 rfl ?_
    refine Pl.weak (Pl.cV hM rfl rfl (by decide) (Mj := M_67) rfl rfl (fun σ3 hw => ?_))
    replace h := h σ3 hw
    refine Pl.seg (pc' := 25) (ls' := [(3, .int (0 : Int32)), (2, .int w2), (0, .ref 0), (1, .int x1)]) (st' := []) (σ' := σ3) hM 2 rfl ?_
    exact Pl.live (l' := [(0, .ref 0), (1, .int x1), (3, .int (0 : Int32))]) hM lv_161 ⟨show ndL _ from (by decide : List.Nodup ([3, 2, 0, 1] : List Nat)), show ndL _ from (by decide : List.Nodup ([0, 1, 3] : List Nat)), by rw [lva_161_25]; exact List.forall_mem_cons.mpr ⟨rfl, List.forall_mem_cons.mpr ⟨rfl, List.forall_mem_cons.mpr ⟨rfl, fun _ h => absurd h List.not_mem_nil⟩⟩⟩⟩ h
  · replace h := h.2 c
    refine Pl.seg (pc' := 11) (ls' := [(2, .int w2), (0, .ref 0), (1, .int x1)]) (st' := [.int w2]) (σ' := σ1) hM 1 rfl ?_
    refine Pl.weak (Pl.ret hM rfl rfl h)
set_option maxRecDepth 100000 in
theorem p_161_25 {n d : Nat} {Q : Option Value → Sg → Prop} (σ : Sg) (x1 x3 : Int32) (h : (((16 : Int32) ≤ x3 → Pl PRG n d 161 101 [] [] σ Q) ∧ (¬ (16 : Int32) ≤ x3 → (((σ.1 34 6) < 0 → Pl PRG n d 161 101 [] [] σ Q) ∧ (¬ (σ.1 34 6) < 0 → (∀ w2 σ1, RCx PRG n 35 [.ref 34] σ (some (.int w2)) σ1 → (∀ w4 σ3, RCx PRG n 117 [.ref 89, .ref 34, .int x1, .int w2] σ1 (some (.int w4)) σ3 → (∀ w6 σ5, RCx PRG n 81 [.ref 70, .ref 34, .int w4] σ3 (some (.int w6)) σ5 → ((w6 ≤ 0 → (∀ σ7, RCx PRG n 63 [.ref 34, .int w4] σ5 none σ7 → Pl PRG n d 161 25 [(0, .ref 0), (1, .int x1), (3, .int (x3 + (1 : Int32)))] [] σ7 Q)) ∧ (¬ w6 ≤ 0 → Q (some (.int (σ5.1 34 7))) σ5)))))))))) : Pl PRG (n + 1) d 161 25 [(0, .ref 0), (1, .int x1), (3, .int x3)] [] σ Q := by
  have hM : PRG[161]? = some M_161 := rfl
  refine Pl.br1 (c := (16 : Int32) ≤ x3) (a := 101) (b := 31) (ls' := [(0, .ref 0), (1, .int x1), (3, .int x3)]) (st' := []) (σ' := σ) hM 2 rfl (fun c => ?_) (fun c => ?_)
  · replace h := h.1 c
    exact Pl.live (l' := []) hM lv_161 ⟨show ndL _ from (by decide : List.Nodup ([0, 1, 3] : List Nat)), show ndL _ from (by decide : List.Nodup ([] : List Nat)), by rw [lva_161_101]; exact fun _ h => absurd h List.not_mem_nil⟩ h
  · replace h := h.2 c
    refine Pl.br (c := (σ.1 34 6) < 0) (a := 101) (b := 41) (ls' := [(0, .ref 0), (1, .int x1), (3, .int x3)]) (st' := []) (σ' := σ) hM 4 rfl (fun c => ?_) (fun c => ?_)
    · replace h := h.1 c
      exact Pl.live (l' := []) hM lv_161 ⟨show ndL _ from (by decide : List.Nodup ([0, 1, 3] : List Nat)), show ndL _ from (by decide : List.Nodup ([] : List Nat)), by rw [lva_161_101]; exact fun _ h => absurd h List.not_mem_nil⟩ h
    · replace h := h.2 c
      refine Pl.seg (pc' := 54) (ls' := [(0, .ref 0), (1, .int x1), (3, .int x3)]) (st' := [.ref 34, .int x1, .ref 34, .ref 89]) (σ' := σ) hM 7 rfl ?_
      refine Pl.weak (Pl.cI hM rfl rfl (by decide) (Mj := M_35) rfl rfl (fun w2 σ1 hw => ?_))
      replace h := h w2 σ1 hw
      refine Pl.weak (Pl.cI hM rfl rfl (by decide) (Mj := M_117) rfl rfl (fun w4 σ3 hw => ?_))
      replace h := h w4 σ3 hw
      refine Pl.seg (pc' := 72) (ls' := [(4, .int w4), (0, .ref 0), (1, .int x1), (3, .int x3)]) (st' := [.int w4, .ref 34, .ref 70]) (σ' := σ3) hM 6 rfl ?_
      refine Pl.weak (Pl.cI hM rfl rfl (by decide) (Mj := M_81) rfl rfl (fun w6 σ5 hw => ?_))
      replace h := h w6 σ5 hw
      refine Pl.br (c := w6 ≤ 0) (a := 86) (b := 78) (ls' := [(4, .int w4), (0, .ref 0), (1, .int x1), (3, .int x3)]) (st' := []) (σ' := σ5) hM 1 rfl (fun c => ?_) (fun c => ?_)
      · replace h := h.1 c
        refine Pl.seg (pc' := 92) (ls' := [(4, .int w4), (0, .ref 0), (1, .int x1), (3, .int x3)]) (st' := [.int w4, .ref 34]) (σ' := σ5) hM 3 rfl ?_
        refine Pl.weak (Pl.cV hM rfl rfl (by decide) (Mj := M_63) rfl rfl (fun σ7 hw => ?_))
        replace h := h σ7 hw
        refine Pl.seg (pc' := 25) (ls' := [(3, .int (x3 + (1 : Int32))), (4, .int w4), (0, .ref 0), (1, .int x1)]) (st' := []) (σ' := σ7) hM 2 rfl ?_
        exact Pl.live (l' := [(0, .ref 0), (1, .int x1), (3, .int (x3 + (1 : Int32)))]) hM lv_161 ⟨show ndL _ from (by decide : List.Nodup ([3, 4, 0, 1] : List Nat)), show ndL _ from (by decide : List.Nodup ([0, 1, 3] : List Nat)), by rw [lva_161_25]; exact List.forall_mem_cons.mpr ⟨rfl, List.forall_mem_cons.mpr ⟨rfl, List.forall_mem_cons.mpr ⟨rfl, fun _ h => absurd h List.not_mem_nil⟩⟩⟩⟩ h
      · replace h := h.2 c
        refine Pl.seg (pc' := 85) (ls' := [(4, .int w4), (0, .ref 0), (1, .int x1), (3, .int x3)]) (st' := [.int (σ5.1 34 7)]) (σ' := σ5) hM 3 rfl ?_
        refine Pl.weak (Pl.ret hM rfl rfl h)
set_option maxRecDepth 100000 in
theorem p_161_101 {n d : Nat} {Q : Option Value → Sg → Prop} (σ : Sg) (h : Q (some (.int (-3 : Int32))) σ) : Pl PRG (n + 1) d 161 101 [] [] σ Q := by
  have hM : PRG[161]? = some M_161 := rfl
  refine Pl.sg1 (pc' := 103) (ls' := []) (st' := [.int (-3 : Int32)]) (σ' := σ) hM 0 rfl ?_
  refine Pl.weak (Pl.ret hM rfl rfl h)
def LV_167 : List (Nat × List Nat) := [(0, [0]), (1, [0]), (4, [0]), (7, [0]), (10, [0]), (11, [0]), (14, [0]), (17, [0]), (19, [0]), (22, []), (23, []), (24, [0]), (25, [0]), (28, [0]), (29, []), (32, []), (35, [])]
set_option maxRecDepth 100000 in
theorem lv_167 : chkLv M_167 LV_167 = true := by decide +kernel
set_option maxRecDepth 100000 in
theorem lva_167_22 : lvA LV_167 22 = [] := by decide +kernel
set_option maxRecDepth 100000 in
theorem p_167_0 {n d : Nat} {Q : Option Value → Sg → Prop} (σ : Sg) (h : (∀ w2 σ1, RCx PRG n 68 [.ref 22] σ (some (.int w2)) σ1 → (w2 = 0 ∨ w2 = 1) → ((w2 = 0 → Pl PRG n d 167 22 [] [] σ1 Q) ∧ (¬ w2 = 0 → (((σ1.1 93 2) < (8 : Int32) → (∀ w4 σ3, RCx PRG n 5 [.ref 93, .ref 22] σ1 (some (.int w4)) σ3 → Q (some (.int w4)) σ3)) ∧ (¬ (σ1.1 93 2) < (8 : Int32) → Pl PRG n d 167 22 [] [] σ1 Q)))))) : Pl PRG (n + 1) d 167 0 [(0, .ref 0)] [] σ Q := by
  have hM : PRG[167]? = some M_167 := rfl
  refine Pl.sg1 (pc' := 4) (ls' := [(0, .ref 0)]) (st' := [.ref 22]) (σ' := σ) hM 1 rfl ?_
  refine Pl.weak (Pl.cZ hM rfl rfl (by decide) (Mj := M_68) rfl rfl (fun w2 σ1 hw hz => ?_))
  replace h := h w2 σ1 hw hz
  refine Pl.br (c := w2 = 0) (a := 22) (b := 10) (ls' := [(0, .ref 0)]) (st' := []) (σ' := σ1) hM 1 rfl (fun c => ?_) (fun c => ?_)
  · replace h := h.1 c
    exact Pl.live (l' := []) hM lv_167 ⟨show ndL _ from (by decide : List.Nodup ([0] : List Nat)), show ndL _ from (by decide : List.Nodup ([] : List Nat)), by rw [lva_167_22]; exact fun _ h => absurd h List.not_mem_nil⟩ h
  · replace h := h.2 c
    refine Pl.br (c := (σ1.1 93 2) < (8 : Int32)) (a := 24) (b := 22) (ls' := [(0, .ref 0)]) (st' := []) (σ' := σ1) hM 5 rfl (fun c => ?_) (fun c => ?_)
    · replace h := h.1 c
      refine Pl.seg (pc' := 32) (ls' := [(0, .ref 0)]) (st' := [.ref 22, .ref 93]) (σ' := σ1) hM 4 rfl ?_
      refine Pl.weak (Pl.cI hM rfl rfl (by decide) (Mj := M_5) rfl rfl (fun w4 σ3 hw => ?_))
      replace h := h w4 σ3 hw
      refine Pl.weak (Pl.ret hM rfl rfl h)
    · replace h := h.2 c
      exact Pl.live (l' := []) hM lv_167 ⟨show ndL _ from (by decide : List.Nodup ([0] : List Nat)), show ndL _ from (by decide : List.Nodup ([] : List Nat)), by rw [lva_167_22]; exact fun _ h => absurd h List.not_mem_nil⟩ h
set_option maxRecDepth 100000 in
theorem p_167_22 {n d : Nat} {Q : Option Value → Sg → Prop} (σ : Sg) (h : Q (some (.int (-1 : Int32))) σ) : Pl PRG (n + 1) d 167 22 [] [] σ Q := by
  have hM : PRG[167]? = some M_167 := rfl
  refine Pl.sg1 (pc' := 23) (ls' := []) (st' := [.int (-1 : Int32)]) (σ' := σ) hM 0 rfl ?_
  refine Pl.weak (Pl.ret hM rfl rfl h)
def LV_5 : List (Nat × List Nat) := [(0, [0, 1]), (1, [0, 1]), (4, [0, 1]), (6, [0, 1]), (9, []), (10, []), (11, [0, 1]), (12, [0, 1]), (13, [0, 1, 2]), (14, [0, 1, 2]), (16, [0, 1, 2]), (19, [0, 1, 2]), (20, [0, 1, 2]), (23, [0, 1, 2]), (25, [0, 1, 2]), (26, [0, 1, 2]), (27, [0, 1, 2]), (28, [0, 1, 2]), (29, [0, 1, 2, 3]), (30, [0, 1, 2, 3]), (33, [0, 1, 2, 3]), (34, [0, 1, 2, 3]), (35, [0, 1, 2, 3]), (36, [0, 1, 2, 3]), (37, [0, 1, 2, 3]), (40, [0, 1, 2, 3]), (41, [0, 1, 2, 3]), (42, [0, 1, 2, 3]), (43, [0, 1, 2, 3]), (44, [0, 1, 2, 3]), (46, [0, 1, 2, 3, 4]), (48, [0, 1, 2, 3, 4]), (49, [0, 1, 2, 3, 4]), (52, [0, 1, 2, 3, 4]), (55, [0, 1, 2, 3, 4]), (56, [0, 1, 2, 3, 4]), (59, [0, 1, 2, 3, 4]), (60, [0, 1, 2, 3, 4]), (61, [0, 1, 2, 3, 4]), (62, [0, 1, 2, 3, 4]), (63, [0, 1, 2, 3, 4]), (66, [0, 1, 2, 3, 4]), (68, [0, 1, 2, 3, 4]), (69, [0, 1, 2, 3, 4]), (70, [0, 1, 2, 3, 4]), (71, [0, 1, 2, 3, 4]), (72, [0, 1, 2, 3, 4]), (73, [0, 1, 2, 3, 4]), (74, [0, 1, 2, 3, 4]), (75, [0, 1, 2, 3, 4]), (76, [0, 1, 2, 3, 4]), (79, [0, 1, 2, 3, 4]), (80, [0, 1, 2, 3, 4]), (81, [0, 1, 2, 3, 4]), (82, [0, 1, 2, 3, 4]), (83, [0, 1, 2, 3, 4]), (86, [0, 1, 2, 3, 4]), (88, [0, 1, 2, 3, 4]), (89, [0, 1, 2, 3, 4]), (90, [0, 1, 2, 3, 4]), (91, [0, 1, 2, 3, 4]), (92, [0, 1, 2, 3, 4]), (93, [0, 1, 2, 3, 4]), (94, [0, 1, 2, 3, 4]), (95, [0, 1, 2, 3, 4]), (98, [0, 1, 2, 3, 4]), (101, [0, 1, 2]), (104, [0, 1, 2]), (107, [0]), (108, [0]), (109, [0]), (112, [0]), (113, [0]), (114, [0]), (117, [0]), (118, []), (121, []), (122, []), (123, [])]
set_option maxRecDepth 100000 in
theorem lv_5 : chkLv M_5 LV_5 = true := by decide +kernel
set_option maxRecDepth 100000 in
theorem lva_5_13 : lvA LV_5 13 = [0, 1, 2] := by decide +kernel
set_option maxRecDepth 100000 in
theorem lva_5_46 : lvA LV_5 46 = [0, 1, 2, 3, 4] := by decide +kernel
set_option maxRecDepth 100000 in
theorem p_5_0 {n d : Nat} {Q : Option Value → Sg → Prop} (σ : Sg) (h : (((σ.1 93 2) < (8 : Int32) → Pl PRG n d 5 13 [(0, .ref 93), (1, .ref 22), (2, .int (0 : Int32))] [] σ Q) ∧ (¬ (σ.1 93 2) < (8 : Int32) → Q (some (.int (-1 : Int32))) σ))) : Pl PRG (n + 1) d 5 0 [(0, .ref 93), (1, .ref 22)] [] σ Q := by
  have hM : PRG[5]? = some M_5 := rfl
  refine Pl.br1 (c := (σ.1 93 2) < (8 : Int32)) (a := 11) (b := 9) (ls' := [(0, .ref 93), (1, .ref 22)]) (st' := []) (σ' := σ) hM 3 rfl (fun c => ?_) (fun c => ?_)
  · replace h := h.1 c
    refine Pl.seg (pc' := 13) (ls' := [(2, .int (0 : Int32)), (0, .ref 93), (1, .ref 22)]) (st' := []) (σ' := σ) hM 2 rfl ?_
    exact Pl.live (l' := [(0, .ref 93), (1, .ref 22), (2, .int (0 : Int32))]) hM lv_5 ⟨show ndL _ from (by decide : List.Nodup ([2, 0, 1] : List Nat)), show ndL _ from (by decide : List.Nodup ([0, 1, 2] : List Nat)), by rw [lva_5_13]; exact List.forall_mem_cons.mpr ⟨rfl, List.forall_mem_cons.mpr ⟨rfl, List.forall_mem_cons.mpr ⟨rfl, fun _ h => absurd h List.not_mem_nil⟩⟩⟩⟩ h
  · replace h := h.2 c
    refine Pl.seg (pc' := 10) (ls' := [(0, .ref 93), (1, .ref 22)]) (st' := [.int (-1 : Int32)]) (σ' := σ) hM 1 rfl ?_
    refine Pl.weak (Pl.ret hM rfl rfl h)
set_option maxRecDepth 100000 in
theorem p_5_13 {n d : Nat} {Q : Option Value → Sg → Prop} (σ : Sg) (x2 : Int32) (h : (((6 : Int32) ≤ x2 → Q (some (.int (((σ.1 93 2) + (1 : Int32)) - (1 : Int32)))) (s1 σ 93 2 ((σ.1 93 2) + (1 : Int32)))) ∧ (¬ (6 : Int32) ≤ x2 → (inR (((σ.1 93 2) * (6 : Int32)) + x2) 48 = true → (inR (((σ.1 93 2) * (6 : Int32)) + x2) 48 = true → Pl PRG n d 5 46 [(0, .ref 93), (1, .ref 22), (2, .int x2), (3, .int (((σ.1 93 2) * (6 : Int32)) + x2)), (4, .int (0 : Int32))] [] (s1 (s1 σ 94 (((σ.1 93 2) * (6 : Int32)) + x2).toNatClampNeg (0 : Int32)) 95 (((σ.1 93 2) * (6 : Int32)) + x2).toNatClampNeg (0 : Int32)) Q))))) : Pl PRG (n + 1) d 5 13 [(0, .ref 93), (1, .ref 22), (2, .int x2)] [] σ Q := by
  have hM : PRG[5]? = some M_5 := rfl
  refine Pl.br1 (c := (6 : Int32) ≤ x2) (a := 107) (b := 19) (ls' := [(0, .ref 93), (1, .ref 22), (2, .int x2)]) (st' := []) (σ' := σ) hM 2 rfl (fun c => ?_) (fun c => ?_)
  · replace h := h.1 c
    refine Pl.seg (pc' := 123) (ls' := [(0, .ref 93), (1, .ref 22), (2, .int x2)]) (st' := [.int (((σ.1 93 2) + (1 : Int32)) - (1 : Int32))]) (σ' := (s1 σ 93 2 ((σ.1 93 2) + (1 : Int32)))) hM 10 rfl ?_
    refine Pl.weak (Pl.ret hM rfl rfl h)
  · replace h := h.2 c
    refine Pl.seg (pc' := 35) (ls' := [(3, .int (((σ.1 93 2) * (6 : Int32)) + x2)), (0, .ref 93), (1, .ref 22), (2, .int x2)]) (st' := [.int (0 : Int32), .int (((σ.1 93 2) * (6 : Int32)) + x2), .ref 94]) (σ' := σ) hM 11 rfl ?_
    refine Pl.weak (Pl.iast hM rfl rfl (fun hi => ?_))
    replace h := h hi
    refine Pl.seg (pc' := 42) (ls' := [(3, .int (((σ.1 93 2) * (6 : Int32)) + x2)), (0, .ref 93), (1, .ref 22), (2, .int x2)]) (st' := [.int (0 : Int32), .int (((σ.1 93 2) * (6 : Int32)) + x2), .ref 95]) (σ' := (s1 σ 94 (((σ.1 93 2) * (6 : Int32)) + x2).toNatClampNeg (0 : Int32))) hM 4 rfl ?_
    refine Pl.weak (Pl.iast hM rfl rfl (fun hi => ?_))
    replace h := h hi
    refine Pl.seg (pc' := 46) (ls' := [(4, .int (0 : Int32)), (3, .int (((σ.1 93 2) * (6 : Int32)) + x2)), (0, .ref 93), (1, .ref 22), (2, .int x2)]) (st' := []) (σ' := (s1 (s1 σ 94 (((σ.1 93 2) * (6 : Int32)) + x2).toNatClampNeg (0 : Int32)) 95 (((σ.1 93 2) * (6 : Int32)) + x2).toNatClampNeg (0 : Int32))) hM 2 rfl ?_
    exact Pl.live (l' := [(0, .ref 93), (1, .ref 22), (2, .int x2), (3, .int (((σ.1 93 2) * (6 : Int32)) + x2)), (4, .int (0 : Int32))]) hM lv_5 ⟨show ndL _ from (by decide : List.Nodup ([4, 3, 0, 1, 2] : List Nat)), show ndL _ from (by decide : List.Nodup ([0, 1, 2, 3, 4] : List Nat)), by rw [lva_5_46]; exact List.forall_mem_cons.mpr ⟨rfl, List.forall_mem_cons.mpr ⟨rfl, List.forall_mem_cons.mpr ⟨rfl, List.forall_mem_cons.mpr ⟨rfl, List.forall_mem_cons.mpr ⟨rfl, fun _ h => absurd h List.not_mem_nil⟩⟩⟩⟩⟩⟩ h
set_option maxRecDepth 100000 in
theorem p_5_46 {n d : Nat} {Q : Option Value → Sg → Prop} (σ : Sg) (x2 x3 x4 : Int32) (h : (((σ.1 22 7) ≤ x4 → Pl PRG n d 5 13 [(0, .ref 93), (1, .ref 22), (2, .int (x2 + (1 : Int32)))] [] σ Q) ∧ (¬ (σ.1 22 7) ≤ x4 → (inR x3 48 = true → (inR x4 16 = true → (inR x3 48 = true → (inR x3 48 = true → (inR x4 16 = true → (inR x3 48 = true → Pl PRG n d 5 46 [(0, .ref 93), (1, .ref 22), (2, .int x2), (3, .int x3), (4, .int (x4 + (1 : Int32)))] [] (s1 (s1 σ 94 x3.toNatClampNeg ((σ.1 94 x3.toNatClampNeg) + (((σ.1 31 x4.toNatClampNeg) >>> (x2 &&& 31)) &&& (1 : Int32)))) 95 x3.toNatClampNeg ((σ.1 95 x3.toNatClampNeg) + (((σ.1 32 x4.toNatClampNeg) >>> (x2 &&& 31)) &&& (1 : Int32)))) Q))))))))) : Pl PRG (n + 1) d 5 46 [(0, .ref 93), (1, .ref 22), (2, .int x2), (3, .int x3), (4, .int x4)] [] σ Q := by
  have hM : PRG[5]? = some M_5 := rfl
  refine Pl.br1 (c := (σ.1 22 7) ≤ x4) (a := 101) (b := 55) (ls' := [(0, .ref 93), (1, .ref 22), (2, .int x2), (3, .int x3), (4, .int x4)]) (st' := []) (σ' := σ) hM 3 rfl (fun c => ?_) (fun c => ?_)
  · replace h := h.1 c
    refine Pl.seg (pc' := 13) (ls' := [(2, .int (x2 + (1 : Int32))), (0, .ref 93), (1, .ref 22), (3, .int x3), (4, .int x4)]) (st' := []) (σ' := σ) hM 2 rfl ?_
    exact Pl.live (l' := [(0, .ref 93), (1, .ref 22), (2, .int (x2 + (1 : Int32)))]) hM lv_5 ⟨show ndL _ from (by decide : List.Nodup ([2, 0, 1, 3, 4] : List Nat)), show ndL _ from (by decide : List.Nodup ([0, 1, 2] : List Nat)), by rw [lva_5_13]; exact List.forall_mem_cons.mpr ⟨rfl, List.forall_mem_cons.mpr ⟨rfl, List.forall_mem_cons.mpr ⟨rfl, fun _ h => absurd h List.not_mem_nil⟩⟩⟩⟩ h
  · replace h := h.2 c
    refine Pl.seg (pc' := 61) (ls' := [(0, .ref 93), (1, .ref 22), (2, .int x2), (3, .int x3), (4, .int x4)]) (st' := [.int x3, .ref 94, .int x3, .ref 94]) (σ' := σ) hM 4 rfl ?_
    refine Pl.weak (Pl.iald hM rfl rfl (fun hi => ?_))
    replace h := h hi
    refine Pl.seg (pc' := 68) (ls' := [(0, .ref 93), (1, .ref 22), (2, .int x2), (3, .int x3), (4, .int x4)]) (st' := [.int x4, .ref 31, .int (σ.1 94 x3.toNatClampNeg), .int x3, .ref 94]) (σ' := σ) hM 3 rfl ?_
    refine Pl.weak (Pl.iald hM rfl rfl (fun hi => ?_))
    replace h := h hi
    refine Pl.seg (pc' := 74) (ls' := [(0, .ref 93), (1, .ref 22), (2, .int x2), (3, .int x3), (4, .int x4)]) (st' := [.int ((σ.1 94 x3.toNatClampNeg) + (((σ.1 31 x4.toNatClampNeg) >>> (x2 &&& 31)) &&& (1 : Int32))), .int x3, .ref 94]) (σ' := σ) hM 5 rfl ?_
    refine Pl.weak (Pl.iast hM rfl rfl (fun hi => ?_))
    replace h := h hi
    refine Pl.seg (pc' := 81) (ls' := [(0, .ref 93), (1, .ref 22), (2, .int x2), (3, .int x3), (4, .int x4)]) (st' := [.int x3, .ref 95, .int x3, .ref 95]) (σ' := (s1 σ 94 x3.toNatClampNeg ((σ.1 94 x3.toNatClampNeg) + (((σ.1 31 x4.toNatClampNeg) >>> (x2 &&& 31)) &&& (1 : Int32))))) hM 4 rfl ?_
    refine Pl.weak (Pl.iald hM rfl rfl (fun hi => ?_))
    replace h := h hi
    refine Pl.seg (pc' := 88) (ls' := [(0, .ref 93), (1, .ref 22), (2, .int x2), (3, .int x3), (4, .int x4)]) (st' := [.int x4, .ref 32, .int (σ.1 95 x3.toNatClampNeg), .int x3, .ref 95]) (σ' := (s1 σ 94 x3.toNatClampNeg ((σ.1 94 x3.toNatClampNeg) + (((σ.1 31 x4.toNatClampNeg) >>> (x2 &&& 31)) &&& (1 : Int32))))) hM 3 rfl ?_
    refine Pl.weak (Pl.iald hM rfl rfl (fun hi => ?_))
    replace h := h hi
    refine Pl.seg (pc' := 94) (ls' := [(0, .ref 93), (1, .ref 22), (2, .int x2), (3, .int x3), (4, .int x4)]) (st' := [.int ((σ.1 95 x3.toNatClampNeg) + (((σ.1 32 x4.toNatClampNeg) >>> (x2 &&& 31)) &&& (1 : Int32))), .int x3, .ref 95]) (σ' := (s1 σ 94 x3.toNatClampNeg ((σ.1 94 x3.toNatClampNeg) + (((σ.1 31 x4.toNatClampNeg) >>> (x2 &&& 31)) &&& (1 : Int32))))) hM 5 rfl ?_
    refine Pl.weak (Pl.iast hM rfl rfl (fun hi => ?_))
    replace h := h hi
    refine Pl.seg (pc' := 46) (ls' := [(4, .int (x4 + (1 : Int32))), (0, .ref 93), (1, .ref 22), (2, .int x2), (3, .int x3)]) (st' := []) (σ' := (s1 (s1 σ 94 x3.toNatClampNeg ((σ.1 94 x3.toNatClampNeg) + (((σ.1 31 x4.toNatClampNeg) >>> (x2 &&& 31)) &&& (1 : Int32)))) 95 x3.toNatClampNeg ((σ.1 95 x3.toNatClampNeg) + (((σ.1 32 x4.toNatClampNeg) >>> (x2 &&& 31)) &&& (1 : Int32))))) hM 2 rfl ?_
    exact Pl.live (l' := [(0, .ref 93), (1, .ref 22), (2, .int x2), (3, .int x3), (4, .int (x4 + (1 : Int32)))]) hM lv_5 ⟨show ndL _ from (by decide : List.Nodup ([4, 0, 1, 2, 3] : List Nat)), show ndL _ from (by decide : List.Nodup ([0, 1, 2, 3, 4] : List Nat)), by rw [lva_5_46]; exact List.forall_mem_cons.mpr ⟨rfl, List.forall_mem_cons.mpr ⟨rfl, List.forall_mem_cons.mpr ⟨rfl, List.forall_mem_cons.mpr ⟨rfl, List.forall_mem_cons.mpr ⟨rfl, fun _ h => absurd h List.not_mem_nil⟩⟩⟩⟩⟩⟩ h
def LV_286 : List (Nat × List Nat) := [(0, [0, 1]), (1, [0, 1]), (4, [0, 1]), (7, [0, 1]), (8, [0, 1]), (11, [0, 1]), (12, [0, 1]), (13, [0, 1]), (16, [0, 1]), (17, [0, 1]), (20, [0, 1]), (21, [0, 1]), (24, []), (25, []), (26, [0, 1]), (27, [0, 1]), (30, [0, 1]), (31, [0, 1, 2]), (32, [0, 1, 2]), (33, [0, 1, 2, 3]), (34, [0, 1, 2, 3]), (36, [0, 1, 2, 3, 4]), (38, [0, 1, 2, 3, 4]), (39, [0, 1, 2, 3, 4]), (42, [0, 1, 2, 4]), (43, [0, 1, 2, 4]), (46, [0, 1, 2, 4]), (48, [0, 1, 2, 4, 5]), (49, [0, 1, 2, 4, 5]), (52, [0, 1, 2, 4, 5]), (54, [0, 1, 2, 4, 5, 6]), (55, [0, 1, 2, 4, 5, 6]), (56, [0, 1, 2, 3, 4, 5, 6]), (57, [0, 1, 2, 3, 4, 5, 6]), (59, [0, 1, 2, 3, 4, 5, 6, 7]), (61, [0, 1, 2, 3, 4, 5, 6, 7]), (62, [0, 1, 2, 3, 4, 5, 6, 7]), (65, [0, 1, 2, 3, 4, 5, 6, 7]), (68, [0, 1, 2, 3, 4, 5, 6, 7]), (69, [0, 1, 2, 3, 4, 5, 6, 7]), (70, [0, 1, 2, 3, 4, 5, 6, 7]), (73, [0, 1, 2, 3, 4, 5, 6, 7]), (75, [0, 1, 2, 3, 4, 5, 6, 7]), (77, [0, 1, 2, 3, 4, 5, 6, 7]), (78, [0, 1, 2, 3, 4, 5, 6, 7]), (79, [0, 1, 2, 3, 4, 5, 6, 7]), (80, [0, 1, 2, 3, 4, 5, 6, 7]), (81, [0, 1, 2, 3, 4, 5, 6, 7]), (84, [0, 1, 2, 3, 4, 5, 6, 7]), (85, [0, 1, 2, 3, 4, 5, 6, 7]), (87, [0, 1, 2, 3, 4, 5, 6, 7]), (90, [0, 1, 2, 3, 4, 5, 6, 7]), (92, [0, 1, 2, 3, 4, 5, 6, 7]), (95, [0, 1, 2, 4, 5, 6, 7]), (97, [0, 1, 2, 4, 5, 6, 7]), (98, [0, 1, 2, 3, 4, 5, 6, 7]), (101, [0, 1, 2, 3, 4, 5, 6, 7]), (104, [0, 1, 2, 3, 4]), (105, [0, 1, 2, 3, 4]), (106, [0, 1, 2, 3, 4]), (109, [0, 1, 2, 3, 4]), (110, [0, 1, 2, 3, 4]), (113, [0, 1, 2, 3, 4]), (114, [0, 1, 2, 3, 4]), (117, [0, 1, 2, 3, 4]), (120, [0, 2, 3]), (121, [2, 3]), (122, [3]), (125, [3]), (126, [])]
set_option maxRecDepth 100000 in
theorem lv_286 : chkLv M_286 LV_286 = true := by decide +kernel
set_option maxRecDepth 100000 in
theorem lva_286_24 : lvA LV_286 24 = [] := by decide +kernel
set_option maxRecDepth 100000 in
theorem lva_286_36 : lvA LV_286 36 = [0, 1, 2, 3, 4] := by decide +kernel
set_option maxRecDepth 100000 in
theorem lva_286_59 : lvA LV_286 59 = [0, 1, 2, 3, 4, 5, 6, 7] := by decide +kernel
set_option maxRecDepth 100000 in
theorem lva_286_98 : lvA LV_286 98 = [0, 1, 2, 3, 4, 5, 6, 7] := by decide +kernel
set_option maxRecDepth 100000 in
theorem lva_286_104 : lvA LV_286 104 = [0, 1, 2, 3, 4] := by decide +kernel
set_option maxRecDepth 100000 in
theorem p_286_0 {n d : Nat} {Q : Option Value → Sg → Prop} (σ : Sg) (x1 : Int32) (h : (((σ.1 97 45) = 0 → Pl PRG n d 286 24 [] [] σ Q) ∧ (¬ (σ.1 97 45) = 0 → ((x1 < 0 → Pl PRG n d 286 24 [] [] σ Q) ∧ (¬ x1 < 0 → (∀ w2 σ1, RCx PRG n 210 [.ref 97] σ (some (.int w2)) σ1 → ((x1 < (w2 - (σ1.1 97 48)) → Pl PRG n d 286 36 [(0, .ref 97), (1, .int x1), (2, .int (σ1.1 97 48)), (3, .int (-1 : Int32)), (4, .int (0 : Int32))] [] σ1 Q) ∧ (¬ x1 < (w2 - (σ1.1 97 48)) → Pl PRG n d 286 24 [] [] σ1 Q)))))))) : Pl PRG (n + 1) d 286 0 [(0, .ref 97), (1, .int x1)] [] σ Q := by
  have hM : PRG[286]? = some M_286 := rfl
  refine Pl.br1 (c := (σ.1 97 45) = 0) (a := 24) (b := 7) (ls' := [(0, .ref 97), (1, .int x1)]) (st' := []) (σ' := σ) hM 2 rfl (fun c => ?_) (fun c => ?_)
  · replace h := h.1 c
    exact Pl.live (l' := []) hM lv_286 ⟨show ndL _ from (by decide : List.Nodup ([0, 1] : List Nat)), show ndL _ from (by decide : List.Nodup ([] : List Nat)), by rw [lva_286_24]; exact fun _ h => absurd h List.not_mem_nil⟩ h
  · replace h := h.2 c
    refine Pl.br (c := x1 < 0) (a := 24) (b := 11) (ls' := [(0, .ref 97), (1, .int x1)]) (st' := []) (σ' := σ) hM 2 rfl (fun c => ?_) (fun c => ?_)
    · replace h := h.1 c
      exact Pl.live (l' := []) hM lv_286 ⟨show ndL _ from (by decide : List.Nodup ([0, 1] : List Nat)), show ndL _ from (by decide : List.Nodup ([] : List Nat)), by rw [lva_286_24]; exact fun _ h => absurd h List.not_mem_nil⟩ h
    · replace h := h.2 c
      refine Pl.seg (pc' := 13) (ls' := [(0, .ref 97), (1, .int x1)]) (st' := [.ref 97, .int x1]) (σ' := σ) hM 2 rfl ?_
      refine Pl.weak (Pl.cI hM rfl rfl (by decide) (Mj := M_210) rfl rfl (fun w2 σ1 hw => ?_))
      replace h := h w2 σ1 hw
      refine Pl.br (c := x1 < (w2 - (σ1.1 97 48))) (a := 26) (b := 24) (ls' := [(0, .ref 97), (1, .int x1)]) (st' := []) (σ' := σ1) hM 4 rfl (fun c => ?_) (fun c => ?_)
      · replace h := h.1 c
        refine Pl.seg (pc' := 36) (ls' := [(4, .int (0 : Int32)), (3, .int (-1 : Int32)), (2, .int (σ1.1 97 48)), (0, .ref 97), (1, .int x1)]) (st' := []) (σ' := σ1) hM 7 rfl ?_
        exact Pl.live (l' := [(0, .ref 97), (1, .int x1), (2, .int (σ1.1 97 48)), (3, .int (-1 : Int32)), (4, .int (0 : Int32))]) hM lv_286 ⟨show ndL _ from (by decide : List.Nodup ([4, 3, 2, 0, 1] : List Nat)), show ndL _ from (by decide : List.Nodup ([0, 1, 2, 3, 4] : List Nat)), by rw [lva_286_36]; exact List.forall_mem_cons.mpr ⟨rfl, List.forall_mem_cons.mpr ⟨rfl, List.forall_mem_cons.mpr ⟨rfl, List.forall_mem_cons.mpr ⟨rfl, List.forall_mem_cons.mpr ⟨rfl, fun _ h => absurd h List.not_mem_nil⟩⟩⟩⟩⟩⟩ h
      · replace h := h.2 c
        exact Pl.live (l' := []) hM lv_286 ⟨show ndL _ from (by decide : List.Nodup ([0, 1] : List Nat)), show ndL _ from (by decide : List.Nodup ([] : List Nat)), by rw [lva_286_24]; exact fun _ h => absurd h List.not_mem_nil⟩ h
set_option maxRecDepth 100000 in
theorem p_286_24 {n d : Nat} {Q : Option Value → Sg → Prop} (σ : Sg) (h : Q (some (.int (-1 : Int32))) σ) : Pl PRG (n + 1) d 286 24 [] [] σ Q := by
  have hM : PRG[286]? = some M_286 := rfl
  refine Pl.sg1 (pc' := 25) (ls' := []) (st' := [.int (-1 : Int32)]) (σ' := σ) hM 0 rfl ?_
  refine Pl.weak (Pl.ret hM rfl rfl h)
set_option maxRecDepth 100000 in
theorem p_286_36 {n d : Nat} {Q : Option Value → Sg → Prop} (σ : Sg) (x1 x2 x3 x4 : Int32) (h : ((x1 < x4 → Q (some (.int x3)) (s1 σ 97 48 x2)) ∧ (¬ x1 < x4 → (∀ w2 σ1, RCx PRG n 283 [.ref 97] σ (some (.int w2)) σ1 → (∀ w4 σ3, RCx PRG n 233 [.ref 97] σ1 (some (.int w4)) σ3 → Pl PRG n d 286 59 [(0, .ref 97), (1, .int x1), (2, .int x2), (3, .int (-1 : Int32)), (4, .int x4), (5, .int w2), (6, .int w4), (7, .int (0 : Int32))] [] σ3 Q))))) : Pl PRG (n + 1) d 286 36 [(0, .ref 97), (1, .int x1), (2, .int x2), (3, .int x3), (4, .int x4)] [] σ Q := by
  have hM : PRG[286]? = some M_286 := rfl
  refine Pl.br1 (c := x1 < x4) (a := 120) (b := 42) (ls' := [(0, .ref 97), (1, .int x1), (2, .int x2), (3, .int x3), (4, .int x4)]) (st' := []) (σ' := σ) hM 2 rfl (fun c => ?_) (fun c => ?_)
  · replace h := h.1 c
    refine Pl.seg (pc' := 126) (ls' := [(0, .ref 97), (1, .int x1), (2, .int x2), (3, .int x3), (4, .int x4)]) (st' := [.int x3]) (σ' := (s1 σ 97 48 x2)) hM 4 rfl ?_
    refine Pl.weak (Pl.ret hM rfl rfl h)
  · replace h := h.2 c
    refine Pl.seg (pc' := 43) (ls' := [(0, .ref 97), (1, .int x1), (2, .int x2), (3, .int x3), (4, .int x4)]) (st' := [.ref 97]) (σ' := σ) hM 1 rfl ?_
    refine Pl.weak (Pl.cI hM rfl rfl (by decide) (Mj := M_283) rfl rfl (fun w2 σ1 hw => ?_))
    replace h := h w2 σ1 hw
    refine Pl.seg (pc' := 49) (ls' := [(5, .int w2), (0, .ref 97), (1, .int x1), (2, .int x2), (3, .int x3), (4, .int x4)]) (st' := [.ref 97]) (σ' := σ1) hM 2 rfl ?_
    refine Pl.weak (Pl.cI hM rfl rfl (by decide) (Mj := M_233) rfl rfl (fun w4 σ3 hw => ?_))
    replace h := h w4 σ3 hw
    refine Pl.seg (pc' := 59) (ls' := [(7, .int (0 : Int32)), (3, .int (-1 : Int32)), (6, .int w4), (5, .int w2), (0, .ref 97), (1, .int x1), (2, .int x2), (4, .int x4)]) (st' := []) (σ' := σ3) hM 5 rfl ?_
    exact Pl.live (l' := [(0, .ref 97), (1, .int x1), (2, .int x2), (3, .int (-1 : Int32)), (4, .int x4), (5, .int w2), (6, .int w4), (7, .int (0 : Int32))]) hM lv_286 ⟨show ndL _ from (by decide : List.Nodup ([7, 3, 6, 5, 0, 1, 2, 4] : List Nat)), show ndL _ from (by decide : List.Nodup ([0, 1, 2, 3, 4, 5, 6, 7] : List Nat)), by rw [lva_286_59]; exact List.forall_mem_cons.mpr ⟨rfl, List.forall_mem_cons.mpr ⟨rfl, List.forall_mem_cons.mpr ⟨rfl, List.forall_mem_cons.mpr ⟨rfl, List.forall_mem_cons.mpr ⟨rfl, List.forall_mem_cons.mpr ⟨rfl, List.forall_mem_cons.mpr ⟨rfl, List.forall_mem_cons.mpr ⟨rfl, fun _ h => absurd h List.not_mem_nil⟩⟩⟩⟩⟩⟩⟩⟩⟩ h
set_option maxRecDepth 100000 in
theorem p_286_59 {n d : Nat} {Q : Option Value → Sg → Prop} (σ : Sg) (x1 x2 x3 x4 x5 x6 x7 : Int32) (h : (∀ w2 σ1, RCx PRG n 210 [.ref 97] σ (some (.int w2)) σ1 → ((w2 ≤ x7 → Pl PRG n d 286 104 [(0, .ref 97), (1, .int x1), (2, .int x2), (3, .int x3), (4, .int x4)] [] σ1 Q) ∧ (¬ w2 ≤ x7 → ((x3 = (-1 : Int32) → ((((x6 >>> (x7 &&& 31)) &&& (1 : Int32)) = (1 : Int32) → (∀ w4 σ3, RCx PRG n 285 [.ref 97, .int x7] σ1 (some (.int w4)) σ3 → ((w4 = x5 → Pl PRG n d 286 98 [(0, .ref 97), (1, .int x1), (2, .int x2), (3, .int x7), (4, .int x4), (5, .int x5), (6, .int x6), (7, .int x7)] [] σ3 Q) ∧ (¬ w4 = x5 → Pl PRG n d 286 98 [(0, .ref 97), (1, .int x1), (2, .int x2), (3, .int x3), (4, .int x4), (5, .int x5), (6, .int x6), (7, .int x7)] [] σ3 Q)))) ∧ (¬ ((x6 >>> (x7 &&& 31)) &&& (1 : Int32)) = (1 : Int32) → Pl PRG n d 286 98 [(0, .ref 97), (1, .int x1), (2, .int x2), (3, .int x3), (4, .int x4), (5, .int x5), (6, .int x6), (7, .int x7)] [] σ1 Q))) ∧ (¬ x3 = (-1 : Int32) → Pl PRG n d 286 104 [(0, .ref 97), (1, .int x1), (2, .int x2), (3, .int x3), (4, .int x4)] [] σ1 Q)))))) : Pl PRG (n + 1) d 286 59 [(0, .ref 97), (1, .int x1), (2, .int x2), (3, .int x3), (4, .int x4), (5, .int x5), (6, .int x6), (7, .int x7)] [] σ Q := by
  have hM : PRG[286]? = some M_286 := rfl
  refine Pl.sg1 (pc' := 62) (ls' := [(0, .ref 97), (1, .int x1), (2, .int x2), (3, .int x3), (4, .int x4), (5, .int x5), (6, .int x6), (7, .int x7)]) (st' := [.ref 97, .int x7]) (σ' := σ) hM 1 rfl ?_
  refine Pl.weak (Pl.cI hM rfl rfl (by decide) (Mj := M_210) rfl rfl (fun w2 σ1 hw => ?_))
  replace h := h w2 σ1 hw
  refine Pl.br (c := w2 ≤ x7) (a := 104) (b := 68) (ls' := [(0, .ref 97), (1, .int x1), (2, .int x2), (3, .int x3), (4, .int x4), (5, .int x5), (6, .int x6), (7, .int x7)]) (st' := []) (σ' := σ1) hM 1 rfl (fun c => ?_) (fun c => ?_)
  · replace h := h.1 c
    exact Pl.live (l' := [(0, .ref 97), (1, .int x1), (2, .int x2), (3, .int x3), (4, .int x4)]) hM lv_286 ⟨show ndL _ from (by decide : List.Nodup ([0, 1, 2, 3, 4, 5, 6, 7] : List Nat)), show ndL _ from (by decide : List.Nodup ([0, 1, 2, 3, 4] : List Nat)), by rw [lva_286_104]; exact List.forall_mem_cons.mpr ⟨rfl, List.forall_mem_cons.mpr ⟨rfl, List.forall_mem_cons.mpr ⟨rfl, List.forall_mem_cons.mpr ⟨rfl, List.forall_mem_cons.mpr ⟨rfl, fun _ h => absurd h List.not_mem_nil⟩⟩⟩⟩⟩⟩ h
  · replace h := h.2 c
    refine Pl.brN (c := x3 = (-1 : Int32)) (a := 104) (b := 73) (ls' := [(0, .ref 97), (1, .int x1), (2, .int x2), (3, .int x3), (4, .int x4), (5, .int x5), (6, .int x6), (7, .int x7)]) (st' := []) (σ' := σ1) hM 3 rfl (fun c => ?_) (fun c => ?_)
    · replace h := h.2 c
      exact Pl.live (l' := [(0, .ref 97), (1, .int x1), (2, .int x2), (3, .int x3), (4, .int x4)]) hM lv_286 ⟨show ndL _ from (by decide : List.Nodup ([0, 1, 2, 3, 4, 5, 6, 7] : List Nat)), show ndL _ from (by decide : List.Nodup ([0, 1, 2, 3, 4] : List Nat)), by rw [lva_286_104]; exact List.forall_mem_cons.mpr ⟨rfl, List.forall_mem_cons.mpr ⟨rfl, List.forall_mem_cons.mpr ⟨rfl, List.forall_mem_cons.mpr ⟨rfl, List.forall_mem_cons.mpr ⟨rfl, fun _ h => absurd h List.not_mem_nil⟩⟩⟩⟩⟩⟩ h
    · replace h := h.1 c
      refine Pl.brN (c := ((x6 >>> (x7 &&& 31)) &&& (1 : Int32)) = (1 : Int32)) (a := 98) (b := 84) (ls' := [(0, .ref 97), (1, .int x1), (2, .int x2), (3, .int x3), (4, .int x4), (5, .int x5), (6, .int x6), (7, .int x7)]) (st' := []) (σ' := σ1) hM 7 rfl (fun c => ?_) (fun c => ?_)
      · replace h := h.2 c
        exact Pl.live (l' := [(0, .ref 97), (1, .int x1), (2, .int x2), (3, .int x3), (4, .int x4), (5, .int x5), (6, .int x6), (7, .int x7)]) hM lv_286 ⟨show ndL _ from (by decide : List.Nodup ([0, 1, 2, 3, 4, 5, 6, 7] : List Nat)), show ndL _ from (by decide : List.Nodup ([0, 1, 2, 3, 4, 5, 6, 7] : List Nat)), by rw [lva_286_98]; exact List.forall_mem_cons.mpr ⟨rfl, List.forall_mem_cons.mpr ⟨rfl, List.forall_mem_cons.mpr ⟨rfl, List.forall_mem_cons.mpr ⟨rfl, List.forall_mem_cons.mpr ⟨rfl, List.forall_mem_cons.mpr ⟨rfl, List.forall_mem_cons.mpr ⟨rfl, List.forall_mem_cons.mpr ⟨rfl, fun _ h => absurd h List.not_mem_nil⟩⟩⟩⟩⟩⟩⟩⟩⟩ h
      · replace h := h.1 c
        refine Pl.seg (pc' := 87) (ls' := [(0, .ref 97), (1, .int x1), (2, .int x2), (3, .int x3), (4, .int x4), (5, .int x5), (6, .int x6), (7, .int x7)]) (st' := [.int x7, .ref 97]) (σ' := σ1) hM 2 rfl ?_
        refine Pl.weak (Pl.cI hM rfl rfl (by decide) (Mj := M_285) rfl rfl (fun w4 σ3 hw => ?_))
        replace h := h w4 σ3 hw
        refine Pl.brN (c := w4 = x5) (a := 98) (b := 95) (ls' := [(0, .ref 97), (1, .int x1), (2, .int x2), (3, .int x3), (4, .int x4), (5, .int x5), (6, .int x6), (7, .int x7)]) (st' := []) (σ' := σ3) hM 2 rfl (fun c => ?_) (fun c => ?_)
        · replace h := h.2 c
          exact Pl.live (l' := [(0, .ref 97), (1, .int x1), (2, .int x2), (3, .int x3), (4, .int x4), (5, .int x5), (6, .int x6), (7, .int x7)]) hM lv_286 ⟨show ndL _ from (by decide : List.Nodup ([0, 1, 2, 3, 4, 5, 6, 7] : List Nat)), show ndL _ from (by decide : List.Nodup ([0, 1, 2, 3, 4, 5, 6, 7] : List Nat)), by rw [lva_286_98]; exact List.forall_mem_cons.mpr ⟨rfl, List.forall_mem_cons.mpr ⟨rfl, List.forall_mem_cons.mpr ⟨rfl, List.forall_mem_cons.mpr ⟨rfl, List.forall_mem_cons.mpr ⟨rfl, List.forall_mem_cons.mpr ⟨rfl, List.forall_mem_cons.mpr ⟨rfl, List.forall_mem_cons.mpr ⟨rfl, fun _ h => absurd h List.not_mem_nil⟩⟩⟩⟩⟩⟩⟩⟩⟩ h
        · replace h := h.1 c
          refine Pl.seg (pc' := 98) (ls' := [(3, .int x7), (0, .ref 97), (1, .int x1), (2, .int x2), (4, .int x4), (5, .int x5), (6, .int x6), (7, .int x7)]) (st' := []) (σ' := σ3) hM 2 rfl ?_
          exact Pl.live (l' := [(0, .ref 97), (1, .int x1), (2, .int x2), (3, .int x7), (4, .int x4), (5, .int x5), (6, .int x6), (7, .int x7)]) hM lv_286 ⟨show ndL _ from (by decide : List.Nodup ([3, 0, 1, 2, 4, 5, 6, 7] : List Nat)), show ndL _ from (by decide : List.Nodup ([0, 1, 2, 3, 4, 5, 6, 7] : List Nat)), by rw [lva_286_98]; exact List.forall_mem_cons.mpr ⟨rfl, List.forall_mem_cons.mpr ⟨rfl, List.forall_mem_cons.mpr ⟨rfl, List.forall_mem_cons.mpr ⟨rfl, List.forall_mem_cons.mpr ⟨rfl, List.forall_mem_cons.mpr ⟨rfl, List.forall_mem_cons.mpr ⟨rfl, List.forall_mem_cons.mpr ⟨rfl, fun _ h => absurd h List.not_mem_nil⟩⟩⟩⟩⟩⟩⟩⟩⟩ h
set_option maxRecDepth 100000 in
theorem p_286_104 {n d : Nat} {Q : Option Value → Sg → Prop} (σ : Sg) (x1 x2 x3 x4 : Int32) (h : (∀ w2 σ1, RCx PRG n 230 [.ref 97] σ (some (.int w2)) σ1 → (∀ w4 σ3, RCx PRG n 235 [.ref 97, .int w2, .int x3] σ1 (some (.int w4)) σ3 → Pl PRG n d 286 36 [(0, .ref 97), (1, .int x1), (2, .int x2), (3, .int x3), (4, .int (x4 + (1 : Int32)))] [] σ3 Q))) : Pl PRG (n + 1) d 286 104 [(0, .ref 97), (1, .int x1), (2, .int x2), (3, .int x3), (4, .int x4)] [] σ Q := by
  have hM : PRG[286]? = some M_286 := rfl
  refine Pl.sg1 (pc' := 106) (ls' := [(0, .ref 97), (1, .int x1), (2, .int x2), (3, .int x3), (4, .int x4)]) (st' := [.ref 97, .ref 97]) (σ' := σ) hM 1 rfl ?_
  refine Pl.weak (Pl.cI hM rfl rfl (by decide) (Mj := M_230) rfl rfl (fun w2 σ1 hw => ?_))
  replace h := h w2 σ1 hw
  refine Pl.seg (pc' := 110) (ls' := [(0, .ref 97), (1, .int x1), (2, .int x2), (3, .int x3), (4, .int x4)]) (st' := [.int x3, .int w2, .ref 97]) (σ' := σ1) hM 1 rfl ?_
  refine Pl.weak (Pl.cI hM rfl rfl (by decide) (Mj := M_235) rfl rfl (fun w4 σ3 hw => ?_))
  replace h := h w4 σ3 hw
  refine Pl.seg (pc' := 36) (ls' := [(4, .int (x4 + (1 : Int32))), (0, .ref 97), (1, .int x1), (2, .int x2), (3, .int x3)]) (st' := []) (σ' := σ3) hM 3 rfl ?_
  exact Pl.live (l' := [(0, .ref 97), (1, .int x1), (2, .int x2), (3, .int x3), (4, .int (x4 + (1 : Int32)))]) hM lv_286 ⟨show ndL _ from (by decide : List.Nodup ([4, 0, 1, 2, 3] : List Nat)), show ndL _ from (by decide : List.Nodup ([0, 1, 2, 3, 4] : List Nat)), by rw [lva_286_36]; exact List.forall_mem_cons.mpr ⟨rfl, List.forall_mem_cons.mpr ⟨rfl, List.forall_mem_cons.mpr ⟨rfl, List.forall_mem_cons.mpr ⟨rfl, List.forall_mem_cons.mpr ⟨rfl, fun _ h => absurd h List.not_mem_nil⟩⟩⟩⟩⟩⟩ h
set_option maxRecDepth 100000 in
theorem p_286_98 {n d : Nat} {Q : Option Value → Sg → Prop} (σ : Sg) (x1 x2 x3 x4 x5 x6 x7 : Int32) (h : Pl PRG n d 286 59 [(0, .ref 97), (1, .int x1), (2, .int x2), (3, .int x3), (4, .int x4), (5, .int x5), (6, .int x6), (7, .int (x7 + (1 : Int32)))] [] σ Q) : Pl PRG (n + 1) d 286 98 [(0, .ref 97), (1, .int x1), (2, .int x2), (3, .int x3), (4, .int x4), (5, .int x5), (6, .int x6), (7, .int x7)] [] σ Q := by
  have hM : PRG[286]? = some M_286 := rfl
  refine Pl.sg1 (pc' := 59) (ls' := [(7, .int (x7 + (1 : Int32))), (0, .ref 97), (1, .int x1), (2, .int x2), (3, .int x3), (4, .int x4), (5, .int x5), (6, .int x6)]) (st' := []) (σ' := σ) hM 1 rfl ?_
  exact Pl.live (l' := [(0, .ref 97), (1, .int x1), (2, .int x2), (3, .int x3), (4, .int x4), (5, .int x5), (6, .int x6), (7, .int (x7 + (1 : Int32)))]) hM lv_286 ⟨show ndL _ from (by decide : List.Nodup ([7, 0, 1, 2, 3, 4, 5, 6] : List Nat)), show ndL _ from (by decide : List.Nodup ([0, 1, 2, 3, 4, 5, 6, 7] : List Nat)), by rw [lva_286_59]; exact List.forall_mem_cons.mpr ⟨rfl, List.forall_mem_cons.mpr ⟨rfl, List.forall_mem_cons.mpr ⟨rfl, List.forall_mem_cons.mpr ⟨rfl, List.forall_mem_cons.mpr ⟨rfl, List.forall_mem_cons.mpr ⟨rfl, List.forall_mem_cons.mpr ⟨rfl, List.forall_mem_cons.mpr ⟨rfl, fun _ h => absurd h List.not_mem_nil⟩⟩⟩⟩⟩⟩⟩⟩⟩ h
def LV_299 : List (Nat × List Nat) := [(0, [0, 1]), (1, [0, 1]), (2, [0, 1]), (5, [0, 1]), (8, []), (9, []), (10, [0, 1]), (11, [0, 1]), (14, [0, 1]), (17, []), (19, []), (20, [0, 1]), (21, [0, 1]), (24, [0, 1]), (25, [0, 1, 2]), (27, [0, 1, 2]), (28, [0, 1, 2, 3]), (29, [0, 1, 2, 3]), (31, [0, 1, 2, 3]), (34, [0, 1, 2, 3]), (35, [0, 1, 2, 3]), (38, [0, 1, 2, 3]), (39, [0, 1, 2, 3]), (42, [0, 1, 2, 3]), (45, [0, 1, 2, 3]), (46, [0, 1, 2, 3]), (47, [0, 1, 2, 3]), (50, [0, 1, 2, 3]), (51, [0, 1, 2, 3]), (52, [0, 1, 2, 3]), (55, [0, 1, 2, 3]), (58, [0, 1, 2, 3]), (60, [0, 1, 2, 3, 4]), (61, [0, 1, 2, 3, 4]), (63, [0, 1, 2, 3, 4]), (66, [0, 1, 2, 3, 4]), (69, [0, 1, 2]), (70, [0, 1, 2]), (73, [0, 1, 2]), (74, [0, 1, 2, 3]), (77, [0, 1, 2, 3, 4]), (78, [0, 1, 2, 3, 4]), (79, [0, 1, 2, 3, 4]), (82, [0, 1, 2, 3, 4]), (84, [0, 1, 2, 3]), (87, [0, 1, 2, 3]), (88, [0, 1, 2, 3]), (91, [0, 2, 3]), (92, [2, 3]), (93, [3]), (96, [3]), (97, [])]
set_option maxRecDepth 100000 in
theorem lv_299 : chkLv M_299 LV_299 = true := by decide +kernel
set_option maxRecDepth 100000 in
theorem lva_299_28 : lvA LV_299 28 = [0, 1, 2, 3] := by decide +kernel
set_option maxRecDepth 100000 in
theorem lva_299_88 : lvA LV_299 88 = [0, 1, 2, 3] := by decide +kernel
set_option maxRecDepth 100000 in
theorem lva_299_91 : lvA LV_299 91 = [0, 2, 3] := by decide +kernel
set_option maxRecDepth 100000 in
theorem p_299_0 {n d : Nat} {Q : Option Value → Sg → Prop} (σ : Sg) (x1 : Int32) (h : (∀ w2 σ1, RCx PRG n 291 [.ref 97, .int x1] σ (some (.int w2)) σ1 → (w2 = 0 ∨ w2 = 1) → ((w2 = 0 → Q (some (.int (-1 : Int32))) σ1) ∧ (¬ w2 = 0 → (∀ w4 σ3, RCx PRG n 290 [.ref 97] σ1 (some (.int w4)) σ3 → (w4 = 0 ∨ w4 = 1) → ((w4 = 0 → Q (some (.int (-2 : Int32))) σ3) ∧ (¬ w4 = 0 → Pl PRG n d 299 28 [(0, .ref 97), (1, .int x1), (2, .int (σ3.1 97 48)), (3, .int (-3 : Int32))] [] σ3 Q))))))) : Pl PRG (n + 1) d 299 0 [(0, .ref 97), (1, .int x1)] [] σ Q := by
  have hM : PRG[299]? = some M_299 := rfl
  refine Pl.sg1 (pc' := 2) (ls' := [(0, .ref 97), (1, .int x1)]) (st' := [.int x1, .ref 97]) (σ' := σ) hM 1 rfl ?_
  refine Pl.weak (Pl.cZ hM rfl rfl (by decide) (Mj := M_291) rfl rfl (fun w2 σ1 hw hz => ?_))
  replace h := h w2 σ1 hw hz
  refine Pl.brN (c := w2 = 0) (a := 10) (b := 8) (ls' := [(0, .ref 97), (1, .int x1)]) (st' := []) (σ' := σ1) hM 1 rfl (fun c => ?_) (fun c => ?_)
  · replace h := h.2 c
    refine Pl.seg (pc' := 11) (ls' := [(0, .ref 97), (1, .int x1)]) (st' := [.ref 97]) (σ' := σ1) hM 1 rfl ?_
    refine Pl.weak (Pl.cZ hM rfl rfl (by decide) (Mj := M_290) rfl rfl (fun w4 σ3 hw hz => ?_))
    replace h := h w4 σ3 hw hz
    refine Pl.brN (c := w4 = 0) (a := 20) (b := 17) (ls' := [(0, .ref 97), (1, .int x1)]) (st' := []) (σ' := σ3) hM 1 rfl (fun c => ?_) (fun c => ?_)
    · replace h := h.2 c
      refine Pl.seg (pc' := 28) (ls' := [(3, .int (-3 : Int32)), (2, .int (σ3.1 97 48)), (0, .ref 97), (1, .int x1)]) (st' := []) (σ' := σ3) hM 5 rfl ?_
      exact Pl.live (l' := [(0, .ref 97), (1, .int x1), (2, .int (σ3.1 97 48)), (3, .int (-3 : Int32))]) hM lv_299 ⟨show ndL _ from (by decide : List.Nodup ([3, 2, 0, 1] : List Nat)), show ndL _ from (by decide : List.Nodup ([0, 1, 2, 3] : List Nat)), by rw [lva_299_28]; exact List.forall_mem_cons.mpr ⟨rfl, List.forall_mem_cons.mpr ⟨rfl, List.forall_mem_cons.mpr ⟨rfl, List.forall_mem_cons.mpr ⟨rfl, fun _ h => absurd h List.not_mem_nil⟩⟩⟩⟩⟩ h
    · replace h := h.1 c
      refine Pl.seg (pc' := 19) (ls' := [(0, .ref 97), (1, .int x1)]) (st' := [.int (-2 : Int32)]) (σ' := σ3) hM 1 rfl ?_
      refine Pl.weak (Pl.ret hM rfl rfl h)
  · replace h := h.1 c
    refine Pl.seg (pc' := 9) (ls' := [(0, .ref 97), (1, .int x1)]) (st' := [.int (-1 : Int32)]) (σ' := σ1) hM 1 rfl ?_
    refine Pl.weak (Pl.ret hM rfl rfl h)
set_option maxRecDepth 100000 in
theorem p_299_28 {n d : Nat} {Q : Option Value → Sg → Prop} (σ : Sg) (x1 x2 x3 : Int32) (h : ((x3 = (-3 : Int32) → (∀ w2 σ1, RCx PRG n 210 [.ref 97] σ (some (.int w2)) σ1 → ((w2 ≤ (σ.1 97 48) → Pl PRG n d 299 91 [(0, .ref 97), (2, .int x2), (3, .int x3)] [] σ1 Q) ∧ (¬ w2 ≤ (σ.1 97 48) → (∀ σ3, RCx PRG n 289 [.ref 97, .int x1] σ1 none σ3 → (∀ w5 σ4, RCx PRG n 293 [.ref 97, .int (σ3.1 97 78)] σ3 (some (.int w5)) σ4 → (∀ w7 σ6, RCx PRG n 297 [.ref 97, .int w5] σ4 (some (.int w7)) σ6 → ((w7 ≤ 0 → (∀ w9 σ8, RCx PRG n 230 [.ref 97] σ6 (some (.int w9)) σ8 → (∀ w11 σ10, RCx PRG n 235 [.ref 97, .int w9, .int w5] σ8 (some (.int w11)) σ10 → Pl PRG n d 299 88 [(0, .ref 97), (1, .int x1), (2, .int x2), (3, .int x3)] [] σ10 Q))) ∧ (¬ w7 ≤ 0 → Pl PRG n d 299 88 [(0, .ref 97), (1, .int x1), (2, .int x2), (3, .int (σ6.1 97 48))] [] σ6 Q))))))))) ∧ (¬ x3 = (-3 : Int32) → Pl PRG n d 299 91 [(0, .ref 97), (2, .int x2), (3, .int x3)] [] σ Q))) : Pl PRG (n + 1) d 299 28 [(0, .ref 97), (1, .int x1), (2, .int x2), (3, .int x3)] [] σ Q := by
  have hM : PRG[299]? = some M_299 := rfl
  refine Pl.brN1 (c := x3 = (-3 : Int32)) (a := 91) (b := 34) (ls' := [(0, .ref 97), (1, .int x1), (2, .int x2), (3, .int x3)]) (st' := []) (σ' := σ) hM 2 rfl (fun c => ?_) (fun c => ?_)
  · replace h := h.2 c
    exact Pl.live (l' := [(0, .ref 97), (2, .int x2), (3, .int x3)]) hM lv_299 ⟨show ndL _ from (by decide : List.Nodup ([0, 1, 2, 3] : List Nat)), show ndL _ from (by decide : List.Nodup ([0, 2, 3] : List Nat)), by rw [lva_299_91]; exact List.forall_mem_cons.mpr ⟨rfl, List.forall_mem_cons.mpr ⟨rfl, List.forall_mem_cons.mpr ⟨rfl, fun _ h => absurd h List.not_mem_nil⟩⟩⟩⟩ h
  · replace h := h.1 c
    refine Pl.seg (pc' := 39) (ls' := [(0, .ref 97), (1, .int x1), (2, .int x2), (3, .int x3)]) (st' := [.ref 97, .int (σ.1 97 48)]) (σ' := σ) hM 3 rfl ?_
    refine Pl.weak (Pl.cI hM rfl rfl (by decide) (Mj := M_210) rfl rfl (fun w2 σ1 hw => ?_))
    replace h := h w2 σ1 hw
    refine Pl.br (c := w2 ≤ (σ.1 97 48)) (a := 91) (b := 45) (ls' := [(0, .ref 97), (1, .int x1), (2, .int x2), (3, .int x3)]) (st' := []) (σ' := σ1) hM 1 rfl (fun c => ?_) (fun c => ?_)
    · replace h := h.1 c
      exact Pl.live (l' := [(0, .ref 97), (2, .int x2), (3, .int x3)]) hM lv_299 ⟨show ndL _ from (by decide : List.Nodup ([0, 1, 2, 3] : List Nat)), show ndL _ from (by decide : List.Nodup ([0, 2, 3] : List Nat)), by rw [lva_299_91]; exact List.forall_mem_cons.mpr ⟨rfl, List.forall_mem_cons.mpr ⟨rfl, List.forall_mem_cons.mpr ⟨rfl, fun _ h => absurd h List.not_mem_nil⟩⟩⟩⟩ h
    · replace h := h.2 c
      refine Pl.seg (pc' := 47) (ls' := [(0, .ref 97), (1, .int x1), (2, .int x2), (3, .int x3)]) (st' := [.int x1, .ref 97]) (σ' := σ1) hM 2 rfl ?_
      refine Pl.weak (Pl.cV hM rfl rfl (by decide) (Mj := M_289) rfl rfl (fun σ3 hw => ?_))
      replace h := h σ3 hw
      refine Pl.seg (pc' := 55) (ls' := [(0, .ref 97), (1, .int x1), (2, .int x2), (3, .int x3)]) (st' := [.int (σ3.1 97 78), .ref 97]) (σ' := σ3) hM 3 rfl ?_
      refine Pl.weak (Pl.cI hM rfl rfl (by decide) (Mj := M_293) rfl rfl (fun w5 σ4 hw => ?_))
      replace h := h w5 σ4 hw
      refine Pl.seg (pc' := 63) (ls' := [(4, .int w5), (0, .ref 97), (1, .int x1), (2, .int x2), (3, .int x3)]) (st' := [.int w5, .ref 97]) (σ' := σ4) hM 3 rfl ?_
      refine Pl.weak (Pl.cI hM rfl rfl (by decide) (Mj := M_297) rfl rfl (fun w7 σ6 hw => ?_))
      replace h := h w7 σ6 hw
      refine Pl.br (c := w7 ≤ 0) (a := 77) (b := 69) (ls' := [(4, .int w5), (0, .ref 97), (1, .int x1), (2, .int x2), (3, .int x3)]) (st' := []) (σ' := σ6) hM 1 rfl (fun c => ?_) (fun c => ?_)
      · replace h := h.1 c
        refine Pl.seg (pc' := 79) (ls' := [(4, .int w5), (0, .ref 97), (1, .int x1), (2, .int x2), (3, .int x3)]) (st' := [.ref 97, .ref 97]) (σ' := σ6) hM 2 rfl ?_
        refine Pl.weak (Pl.cI hM rfl rfl (by decide) (Mj := M_230) rfl rfl (fun w9 σ8 hw => ?_))
        replace h := h w9 σ8 hw
        refine Pl.seg (pc' := 84) (ls' := [(4, .int w5), (0, .ref 97), (1, .int x1), (2, .int x2), (3, .int x3)]) (st' := [.int w5, .int w9, .ref 97]) (σ' := σ8) hM 1 rfl ?_
        refine Pl.weak (Pl.cI hM rfl rfl (by decide) (Mj := M_235) rfl rfl (fun w11 σ10 hw => ?_))
        replace h := h w11 σ10 hw
        refine Pl.seg (pc' := 88) (ls' := [(4, .int w5), (0, .ref 97), (1, .int x1), (2, .int x2), (3, .int x3)]) (st' := []) (σ' := σ10) hM 1 rfl ?_
        exact Pl.live (l' := [(0, .ref 97), (1, .int x1), (2, .int x2), (3, .int x3)]) hM lv_299 ⟨show ndL _ from (by decide : List.Nodup ([4, 0, 1, 2, 3] : List Nat)), show ndL _ from (by decide : List.Nodup ([0, 1, 2, 3] : List Nat)), by rw [lva_299_88]; exact List.forall_mem_cons.mpr ⟨rfl, List.forall_mem_cons.mpr ⟨rfl, List.forall_mem_cons.mpr ⟨rfl, List.forall_mem_cons.mpr ⟨rfl, fun _ h => absurd h List.not_mem_nil⟩⟩⟩⟩⟩ h
      · replace h := h.2 c
        refine Pl.seg (pc' := 88) (ls' := [(3, .int (σ6.1 97 48)), (4, .int w5), (0, .ref 97), (1, .int x1), (2, .int x2)]) (st' := []) (σ' := σ6) hM 4 rfl ?_
        exact Pl.live (l' := [(0, .ref 97), (1, .int x1), (2, .int x2), (3, .int (σ6.1 97 48))]) hM lv_299 ⟨show ndL _ from (by decide : List.Nodup ([3, 4, 0, 1, 2] : List Nat)), show ndL _ from (by decide : List.Nodup ([0, 1, 2, 3] : List Nat)), by rw [lva_299_88]; exact List.forall_mem_cons.mpr ⟨rfl, List.forall_mem_cons.mpr ⟨rfl, List.forall_mem_cons.mpr ⟨rfl, List.forall_mem_cons.mpr ⟨rfl, fun _ h => absurd h List.not_mem_nil⟩⟩⟩⟩⟩ h
set_option maxRecDepth 100000 in
theorem p_299_91 {n d : Nat} {Q : Option Value → Sg → Prop} (σ : Sg) (x2 x3 : Int32) (h : Q (some (.int x3)) (s1 σ 97 48 x2)) : Pl PRG (n + 1) d 299 91 [(0, .ref 97), (2, .int x2), (3, .int x3)] [] σ Q := by
  have hM : PRG[299]? = some M_299 := rfl
  refine Pl.sg1 (pc' := 97) (ls' := [(0, .ref 97), (2, .int x2), (3, .int x3)]) (st' := [.int x3]) (σ' := (s1 σ 97 48 x2)) hM 3 rfl ?_
  refine Pl.weak (Pl.ret hM rfl rfl h)
set_option maxRecDepth 100000 in
theorem p_299_88 {n d : Nat} {Q : Option Value → Sg → Prop} (σ : Sg) (x1 x2 x3 : Int32) (h : Pl PRG n d 299 28 [(0, .ref 97), (1, .int x1), (2, .int x2), (3, .int x3)] [] σ Q) : Pl PRG (n + 1) d 299 88 [(0, .ref 97), (1, .int x1), (2, .int x2), (3, .int x3)] [] σ Q := by
  have hM : PRG[299]? = some M_299 := rfl
  refine Pl.sg1 (pc' := 28) (ls' := [(0, .ref 97), (1, .int x1), (2, .int x2), (3, .int x3)]) (st' := []) (σ' := σ) hM 0 rfl ?_
  exact Pl.live (l' := [(0, .ref 97), (1, .int x1), (2, .int x2), (3, .int x3)]) hM lv_299 ⟨show ndL _ from (by decide : List.Nodup ([0, 1, 2, 3] : List Nat)), show ndL _ from (by decide : List.Nodup ([0, 1, 2, 3] : List Nat)), by rw [lva_299_28]; exact List.forall_mem_cons.mpr ⟨rfl, List.forall_mem_cons.mpr ⟨rfl, List.forall_mem_cons.mpr ⟨rfl, List.forall_mem_cons.mpr ⟨rfl, fun _ h => absurd h List.not_mem_nil⟩⟩⟩⟩⟩ h
def LV_305 : List (Nat × List Nat) := [(0, [0]), (1, [0]), (2, [0]), (5, [0]), (8, [0]), (9, [0]), (10, [0]), (13, [0]), (16, [0]), (17, [0]), (18, [0]), (21, [0]), (24, [0]), (25, [0]), (26, [0, 1]), (27, [0, 1]), (28, [0, 1]), (31, [0, 1]), (32, [0, 1]), (35, [0, 1]), (36, [0, 1]), (37, [0, 1]), (40, [0, 1]), (41, [0, 1]), (42, [0, 1]), (43, [0, 1]), (46, [0, 1]), (49, [0]), (50, [0]), (51, [0, 1]), (52, [0, 1]), (54, [0, 1]), (57, [0, 1]), (58, [0, 1]), (61, [0, 1]), (62, [0, 1]), (63, [0, 1]), (66, [0, 1]), (67, [0, 1]), (68, [0, 1]), (69, [0, 1]), (70, [0, 1]), (73, [0, 1]), (74, [0, 1]), (75, [0, 1]), (78, [0, 1]), (79, [0, 1]), (80, [0, 1]), (81, [0, 1]), (84, [0, 1]), (87, [])]
set_option maxRecDepth 100000 in
theorem lv_305 : chkLv M_305 LV_305 = true := by decide +kernel
set_option maxRecDepth 100000 in
theorem lva_305_26 : lvA LV_305 26 = [0, 1] := by decide +kernel
set_option maxRecDepth 100000 in
theorem lva_305_51 : lvA LV_305 51 = [0, 1] := by decide +kernel
set_option maxRecDepth 100000 in
theorem p_305_0 {n d : Nat} {Q : Option Value → Sg → Prop} (σ : Sg) (h : (((σ.1 97 45) = 0 ∨ (σ.1 97 45) = 1) → Pl PRG n d 305 26 [(0, .ref 97), (1, .int (0 : Int32))] [] (s1 (s1 (s1 σ 97 80 (σ.1 97 45)) 97 82 (σ.1 97 47)) 97 83 (σ.1 97 48)) Q)) : Pl PRG (n + 1) d 305 0 [(0, .ref 97)] [] σ Q := by
  have hM : PRG[305]? = some M_305 := rfl
  refine Pl.sg1 (pc' := 5) (ls' := [(0, .ref 97)]) (st' := [.int (σ.1 97 45), .ref 97]) (σ' := σ) hM 2 rfl ?_
  refine Pl.weak (Pl.putZ hM rfl rfl rfl rfl (fun hi => ?_))
  replace h := h hi
  refine Pl.seg (pc' := 26) (ls' := [(1, .int (0 : Int32)), (0, .ref 97)]) (st' := []) (σ' := (s1 (s1 (s1 σ 97 80 (σ.1 97 45)) 97 82 (σ.1 97 47)) 97 83 (σ.1 97 48))) hM 10 rfl ?_
  exact Pl.live (l' := [(0, .ref 97), (1, .int (0 : Int32))]) hM lv_305 ⟨show ndL _ from (by decide : List.Nodup ([1, 0] : List Nat)), show ndL _ from (by decide : List.Nodup ([0, 1] : List Nat)), by rw [lva_305_26]; exact List.forall_mem_cons.mpr ⟨rfl, List.forall_mem_cons.mpr ⟨rfl, fun _ h => absurd h List.not_mem_nil⟩⟩⟩ h
set_option maxRecDepth 100000 in
theorem p_305_26 {n d : Nat} {Q : Option Value → Sg → Prop} (σ : Sg) (x1 : Int32) (h : (((4 : Int32) ≤ x1 → Pl PRG n d 305 51 [(0, .ref 97), (1, .int (0 : Int32))] [] σ Q) ∧ (¬ (4 : Int32) ≤ x1 → (inR x1 4 = true → (inR x1 4 = true → Pl PRG n d 305 26 [(0, .ref 97), (1, .int (x1 + (1 : Int32)))] [] (s1 σ 147 x1.toNatClampNeg (σ.1 125 x1.toNatClampNeg)) Q))))) : Pl PRG (n + 1) d 305 26 [(0, .ref 97), (1, .int x1)] [] σ Q := by
  have hM : PRG[305]? = some M_305 := rfl
  refine Pl.br1 (c := (4 : Int32) ≤ x1) (a := 49) (b := 31) (ls' := [(0, .ref 97), (1, .int x1)]) (st' := []) (σ' := σ) hM 2 rfl (fun c => ?_) (fun c => ?_)
  · replace h := h.1 c
    refine Pl.seg (pc' := 51) (ls' := [(1, .int (0 : Int32)), (0, .ref 97)]) (st' := []) (σ' := σ) hM 2 rfl ?_
    exact Pl.live (l' := [(0, .ref 97), (1, .int (0 : Int32))]) hM lv_305 ⟨show ndL _ from (by decide : List.Nodup ([1, 0] : List Nat)), show ndL _ from (by decide : List.Nodup ([0, 1] : List Nat)), by rw [lva_305_51]; exact List.forall_mem_cons.mpr ⟨rfl, List.forall_mem_cons.mpr ⟨rfl, fun _ h => absurd h List.not_mem_nil⟩⟩⟩ h
  · replace h := h.2 c
    refine Pl.seg (pc' := 41) (ls' := [(0, .ref 97), (1, .int x1)]) (st' := [.int x1, .ref 125, .int x1, .ref 147]) (σ' := σ) hM 6 rfl ?_
    refine Pl.weak (Pl.iald hM rfl rfl (fun hi => ?_))
    replace h := h hi
    refine Pl.weak (Pl.iast hM rfl rfl (fun hi => ?_))
    replace h := h hi
    refine Pl.seg (pc' := 26) (ls' := [(1, .int (x1 + (1 : Int32))), (0, .ref 97)]) (st' := []) (σ' := (s1 σ 147 x1.toNatClampNeg (σ.1 125 x1.toNatClampNeg))) hM 2 rfl ?_
    exact Pl.live (l' := [(0, .ref 97), (1, .int (x1 + (1 : Int32)))]) hM lv_305 ⟨show ndL _ from (by decide : List.Nodup ([1, 0] : List Nat)), show ndL _ from (by decide : List.Nodup ([0, 1] : List Nat)), by rw [lva_305_26]; exact List.forall_mem_cons.mpr ⟨rfl, List.forall_mem_cons.mpr ⟨rfl, fun _ h => absurd h List.not_mem_nil⟩⟩⟩ h
set_option maxRecDepth 100000 in
theorem p_305_51 {n d : Nat} {Q : Option Value → Sg → Prop} (σ : Sg) (x1 : Int32) (h : (((16 : Int32) ≤ x1 → Q none σ) ∧ (¬ (16 : Int32) ≤ x1 → (inR x1 16 = true → (inR x1 16 = true → (inR x1 16 = true → (inR x1 16 = true → Pl PRG n d 305 51 [(0, .ref 97), (1, .int (x1 + (1 : Int32)))] [] (s1 (s1 σ 148 x1.toNatClampNeg (σ.1 126 x1.toNatClampNeg)) 149 x1.toNatClampNeg (σ.1 127 x1.toNatClampNeg)) Q))))))) : Pl PRG (n + 1) d 305 51 [(0, .ref 97), (1, .int x1)] [] σ Q := by
  have hM : PRG[305]? = some M_305 := rfl
  refine Pl.br1 (c := (16 : Int32) ≤ x1) (a := 87) (b := 57) (ls' := [(0, .ref 97), (1, .int x1)]) (st' := []) (σ' := σ) hM 2 rfl (fun c => ?_) (fun c => ?_)
  · replace h := h.1 c
    refine Pl.weak (Pl.ret hM rfl rfl h)
  · replace h := h.2 c
    refine Pl.seg (pc' := 67) (ls' := [(0, .ref 97), (1, .int x1)]) (st' := [.int x1, .ref 126, .int x1, .ref 148]) (σ' := σ) hM 6 rfl ?_
    refine Pl.weak (Pl.iald hM rfl rfl (fun hi => ?_))
    replace h := h hi
    refine Pl.weak (Pl.iast hM rfl rfl (fun hi => ?_))
    replace h := h hi
    refine Pl.seg (pc' := 79) (ls' := [(0, .ref 97), (1, .int x1)]) (st' := [.int x1, .ref 127, .int x1, .ref 149]) (σ' := (s1 σ 148 x1.toNatClampNeg (σ.1 126 x1.toNatClampNeg))) hM 6 rfl ?_
    refine Pl.weak (Pl.iald hM rfl rfl (fun hi => ?_))
    replace h := h hi
    refine Pl.weak (Pl.iast hM rfl rfl (fun hi => ?_))
    replace h := h hi
    refine Pl.seg (pc' := 51) (ls' := [(1, .int (x1 + (1 : Int32))), (0, .ref 97)]) (st' := []) (σ' := (s1 (s1 σ 148 x1.toNatClampNeg (σ.1 126 x1.toNatClampNeg)) 149 x1.toNatClampNeg (σ.1 127 x1.toNatClampNeg))) hM 2 rfl ?_
    exact Pl.live (l' := [(0, .ref 97), (1, .int (x1 + (1 : Int32)))]) hM lv_305 ⟨show ndL _ from (by decide : List.Nodup ([1, 0] : List Nat)), show ndL _ from (by decide : List.Nodup ([0, 1] : List Nat)), by rw [lva_305_51]; exact List.forall_mem_cons.mpr ⟨rfl, List.forall_mem_cons.mpr ⟨rfl, fun _ h => absurd h List.not_mem_nil⟩⟩⟩ h
def LV_306 : List (Nat × List Nat) := [(0, [0]), (1, [0]), (2, [0]), (5, [0]), (8, [0]), (9, [0]), (10, [0]), (13, [0]), (16, [0]), (17, [0]), (18, [0]), (21, [0]), (24, [0]), (25, [0]), (26, [0, 1]), (27, [0, 1]), (28, [0, 1]), (31, [0, 1]), (32, [0, 1]), (35, [0, 1]), (36, [0, 1]), (37, [0, 1]), (40, [0, 1]), (41, [0, 1]), (42, [0, 1]), (43, [0, 1]), (46, [0, 1]), (49, [0]), (50, [0]), (51, [0, 1]), (52, [0, 1]), (54, [0, 1]), (57, [0, 1]), (58, [0, 1]), (61, [0, 1]), (62, [0, 1]), (63, [0, 1]), (66, [0, 1]), (67, [0, 1]), (68, [0, 1]), (69, [0, 1]), (70, [0, 1]), (73, [0, 1]), (74, [0, 1]), (75, [0, 1]), (78, [0, 1]), (79, [0, 1]), (80, [0, 1]), (81, [0, 1]), (84, [0, 1]), (87, [])]
set_option maxRecDepth 100000 in
theorem lv_306 : chkLv M_306 LV_306 = true := by decide +kernel
set_option maxRecDepth 100000 in
theorem lva_306_26 : lvA LV_306 26 = [0, 1] := by decide +kernel
set_option maxRecDepth 100000 in
theorem lva_306_51 : lvA LV_306 51 = [0, 1] := by decide +kernel
set_option maxRecDepth 100000 in
theorem p_306_0 {n d : Nat} {Q : Option Value → Sg → Prop} (σ : Sg) (h : (((σ.1 97 80) = 0 ∨ (σ.1 97 80) = 1) → Pl PRG n d 306 26 [(0, .ref 97), (1, .int (0 : Int32))] [] (s1 (s1 (s1 σ 97 45 (σ.1 97 80)) 97 47 (σ.1 97 82)) 97 48 (σ.1 97 83)) Q)) : Pl PRG (n + 1) d 306 0 [(0, .ref 97)] [] σ Q := by
  have hM : PRG[306]? = some M_306 := rfl
  refine Pl.sg1 (pc' := 5) (ls' := [(0, .ref 97)]) (st' := [.int (σ.1 97 80), .ref 97]) (σ' := σ) hM 2 rfl ?_
  refine Pl.weak (Pl.putZ hM rfl rfl rfl rfl (fun hi => ?_))
  replace h := h hi
  refine Pl.seg (pc' := 26) (ls' := [(1, .int (0 : Int32)), (0, .ref 97)]) (st' := []) (σ' := (s1 (s1 (s1 σ 97 45 (σ.1 97 80)) 97 47 (σ.1 97 82)) 97 48 (σ.1 97 83))) hM 10 rfl ?_
  exact Pl.live (l' := [(0, .ref 97), (1, .int (0 : Int32))]) hM lv_306 ⟨show ndL _ from (by decide : List.Nodup ([1, 0] : List Nat)), show ndL _ from (by decide : List.Nodup ([0, 1] : List Nat)), by rw [lva_306_26]; exact List.forall_mem_cons.mpr ⟨rfl, List.forall_mem_cons.mpr ⟨rfl, fun _ h => absurd h List.not_mem_nil⟩⟩⟩ h
set_option maxRecDepth 100000 in
theorem p_306_26 {n d : Nat} {Q : Option Value → Sg → Prop} (σ : Sg) (x1 : Int32) (h : (((4 : Int32) ≤ x1 → Pl PRG n d 306 51 [(0, .ref 97), (1, .int (0 : Int32))] [] σ Q) ∧ (¬ (4 : Int32) ≤ x1 → (inR x1 4 = true → (inR x1 4 = true → Pl PRG n d 306 26 [(0, .ref 97), (1, .int (x1 + (1 : Int32)))] [] (s1 σ 125 x1.toNatClampNeg (σ.1 147 x1.toNatClampNeg)) Q))))) : Pl PRG (n + 1) d 306 26 [(0, .ref 97), (1, .int x1)] [] σ Q := by
  have hM : PRG[306]? = some M_306 := rfl
  refine Pl.br1 (c := (4 : Int32) ≤ x1) (a := 49) (b := 31) (ls' := [(0, .ref 97), (1, .int x1)]) (st' := []) (σ' := σ) hM 2 rfl (fun c => ?_) (fun c => ?_)
  · replace h := h.1 c
    refine Pl.seg (pc' := 51) (ls' := [(1, .int (0 : Int32)), (0, .ref 97)]) (st' := []) (σ' := σ) hM 2 rfl ?_
    exact Pl.live (l' := [(0, .ref 97), (1, .int (0 : Int32))]) hM lv_306 ⟨show ndL _ from (by decide : List.Nodup ([1, 0] : List Nat)), show ndL _ from (by decide : List.Nodup ([0, 1] : List Nat)), by rw [lva_306_51]; exact List.forall_mem_cons.mpr ⟨rfl, List.forall_mem_cons.mpr ⟨rfl, fun _ h => absurd h List.not_mem_nil⟩⟩⟩ h
  · replace h := h.2 c
    refine Pl.seg (pc' := 41) (ls' := [(0, .ref 97), (1, .int x1)]) (st' := [.int x1, .ref 147, .int x1, .ref 125]) (σ' := σ) hM 6 rfl ?_
    refine Pl.weak (Pl.iald hM rfl rfl (fun hi => ?_))
    replace h := h hi
    refine Pl.weak (Pl.iast hM rfl rfl (fun hi => ?_))
    replace h := h hi
    refine Pl.seg (pc' := 26) (ls' := [(1, .int (x1 + (1 : Int32))), (0, .ref 97)]) (st' := []) (σ' := (s1 σ 125 x1.toNatClampNeg (σ.1 147 x1.toNatClampNeg))) hM 2 rfl ?_
    exact Pl.live (l' := [(0, .ref 97), (1, .int (x1 + (1 : Int32)))]) hM lv_306 ⟨show ndL _ from (by decide : List.Nodup ([1, 0] : List Nat)), show ndL _ from (by decide : List.Nodup ([0, 1] : List Nat)), by rw [lva_306_26]; exact List.forall_mem_cons.mpr ⟨rfl, List.forall_mem_cons.mpr ⟨rfl, fun _ h => absurd h List.not_mem_nil⟩⟩⟩ h
set_option maxRecDepth 100000 in
theorem p_306_51 {n d : Nat} {Q : Option Value → Sg → Prop} (σ : Sg) (x1 : Int32) (h : (((16 : Int32) ≤ x1 → Q none σ) ∧ (¬ (16 : Int32) ≤ x1 → (inR x1 16 = true → (inR x1 16 = true → (inR x1 16 = true → (inR x1 16 = true → Pl PRG n d 306 51 [(0, .ref 97), (1, .int (x1 + (1 : Int32)))] [] (s1 (s1 σ 126 x1.toNatClampNeg (σ.1 148 x1.toNatClampNeg)) 127 x1.toNatClampNeg (σ.1 149 x1.toNatClampNeg)) Q))))))) : Pl PRG (n + 1) d 306 51 [(0, .ref 97), (1, .int x1)] [] σ Q := by
  have hM : PRG[306]? = some M_306 := rfl
  refine Pl.br1 (c := (16 : Int32) ≤ x1) (a := 87) (b := 57) (ls' := [(0, .ref 97), (1, .int x1)]) (st' := []) (σ' := σ) hM 2 rfl (fun c => ?_) (fun c => ?_)
  · replace h := h.1 c
    refine Pl.weak (Pl.ret hM rfl rfl h)
  · replace h := h.2 c
    refine Pl.seg (pc' := 67) (ls' := [(0, .ref 97), (1, .int x1)]) (st' := [.int x1, .ref 148, .int x1, .ref 126]) (σ' := σ) hM 6 rfl ?_
    refine Pl.weak (Pl.iald hM rfl rfl (fun hi => ?_))
    replace h := h hi
    refine Pl.weak (Pl.iast hM rfl rfl (fun hi => ?_))
    replace h := h hi
    refine Pl.seg (pc' := 79) (ls' := [(0, .ref 97), (1, .int x1)]) (st' := [.int x1, .ref 149, .int x1, .ref 127]) (σ' := (s1 σ 126 x1.toNatClampNeg (σ.1 148 x1.toNatClampNeg))) hM 6 rfl ?_
    refine Pl.weak (Pl.iald hM rfl rfl (fun hi => ?_))
    replace h := h hi
    refine Pl.weak (Pl.iast hM rfl rfl (fun hi => ?_))
    replace h := h hi
    refine Pl.seg (pc' := 51) (ls' := [(1, .int (x1 + (1 : Int32))), (0, .ref 97)]) (st' := []) (σ' := (s1 (s1 σ 126 x1.toNatClampNeg (σ.1 148 x1.toNatClampNeg)) 127 x1.toNatClampNeg (σ.1 149 x1.toNatClampNeg))) hM 2 rfl ?_
    exact Pl.live (l' := [(0, .ref 97), (1, .int (x1 + (1 : Int32)))]) hM lv_306 ⟨show ndL _ from (by decide : List.Nodup ([1, 0] : List Nat)), show ndL _ from (by decide : List.Nodup ([0, 1] : List Nat)), by rw [lva_306_51]; exact List.forall_mem_cons.mpr ⟨rfl, List.forall_mem_cons.mpr ⟨rfl, fun _ h => absurd h List.not_mem_nil⟩⟩⟩ h
def LV_308 : List (Nat × List Nat) := [(0, [0, 1, 2, 3]), (1, [0, 1, 2, 3]), (2, [0, 1, 2, 3]), (5, [0, 1, 2, 3]), (8, [0, 1, 2, 3]), (9, [0, 1, 2, 3]), (10, [0, 1, 2, 3]), (13, [0, 1, 2, 3]), (16, []), (19, []), (20, [0, 1, 2, 3]), (21, [0, 1, 2, 3]), (24, [0, 1, 2, 3]), (25, [0, 1, 2, 3]), (26, [0, 2, 3]), (27, [0, 2, 3]), (28, [0, 2, 3]), (31, [0, 2, 3]), (32, [0, 2, 3]), (33, [0, 2, 3]), (34, [0, 3]), (35, [0]), (38, [0]), (39, [0]), (41, [0, 4]), (42, [4]), (45, [4]), (47, [])]
set_option maxRecDepth 100000 in
theorem lv_308 : chkLv M_308 LV_308 = true := by decide +kernel
set_option maxRecDepth 100000 in
theorem lva_308_16 : lvA LV_308 16 = [] := by decide +kernel
set_option maxRecDepth 100000 in
theorem p_308_0 {n d : Nat} {Q : Option Value → Sg → Prop} (σ : Sg) (x1 x2 x3 : Int32) (h : (∀ w2 σ1, RCx PRG n 218 [.ref 97, .int x1] σ (some (.int w2)) σ1 → (w2 = 0 ∨ w2 = 1) → ((w2 = 0 → Pl PRG n d 308 16 [] [] σ1 Q) ∧ (¬ w2 = 0 → (∀ w4 σ3, RCx PRG n 307 [.ref 97, .int x3] σ1 (some (.int w4)) σ3 → (w4 = 0 ∨ w4 = 1) → ((w4 = 0 → Pl PRG n d 308 16 [] [] σ3 Q) ∧ (¬ w4 = 0 → (∀ σ5, RCx PRG n 305 [.ref 97] σ3 none σ5 → (∀ w7 σ6, RCx PRG n 304 [.ref 97, .int x1, .int x2, .int x3] σ5 (some (.int w7)) σ6 → (∀ w9 σ8, RCx PRG n 304 [.ref 97, .int (0 : Int32), .int x2, .int x3] σ6 (some (.int w9)) σ8 → (∀ σ10, RCx PRG n 306 [.ref 97] σ8 none σ10 → Q (some (.int (w7 - w9))) σ10))))))))))) : Pl PRG (n + 1) d 308 0 [(0, .ref 97), (1, .int x1), (2, .int x2), (3, .int x3)] [] σ Q := by
  have hM : PRG[308]? = some M_308 := rfl
  refine Pl.sg1 (pc' := 2) (ls' := [(0, .ref 97), (1, .int x1), (2, .int x2), (3, .int x3)]) (st' := [.int x1, .ref 97]) (σ' := σ) hM 1 rfl ?_
  refine Pl.weak (Pl.cZ hM rfl rfl (by decide) (Mj := M_218) rfl rfl (fun w2 σ1 hw hz => ?_))
  replace h := h w2 σ1 hw hz
  refine Pl.br (c := w2 = 0) (a := 16) (b := 8) (ls' := [(0, .ref 97), (1, .int x1), (2, .int x2), (3, .int x3)]) (st' := []) (σ' := σ1) hM 1 rfl (fun c => ?_) (fun c => ?_)
  · replace h := h.1 c
    exact Pl.live (l' := []) hM lv_308 ⟨show ndL _ from (by decide : List.Nodup ([0, 1, 2, 3] : List Nat)), show ndL _ from (by decide : List.Nodup ([] : List Nat)), by rw [lva_308_16]; exact fun _ h => absurd h List.not_mem_nil⟩ h
  · replace h := h.2 c
    refine Pl.seg (pc' := 10) (ls' := [(0, .ref 97), (1, .int x1), (2, .int x2), (3, .int x3)]) (st' := [.int x3, .ref 97]) (σ' := σ1) hM 2 rfl ?_
    refine Pl.weak (Pl.cZ hM rfl rfl (by decide) (Mj := M_307) rfl rfl (fun w4 σ3 hw hz => ?_))
    replace h := h w4 σ3 hw hz
    refine Pl.brN (c := w4 = 0) (a := 20) (b := 16) (ls' := [(0, .ref 97), (1, .int x1), (2, .int x2), (3, .int x3)]) (st' := []) (σ' := σ3) hM 1 rfl (fun c => ?_) (fun c => ?_)
    · replace h := h.2 c
      refine Pl.seg (pc' := 21) (ls' := [(0, .ref 97), (1, .int x1), (2, .int x2), (3, .int x3)]) (st' := [.ref 97]) (σ' := σ3) hM 1 rfl ?_
      refine Pl.weak (Pl.cV hM rfl rfl (by decide) (Mj := M_305) rfl rfl (fun σ5 hw => ?_))
      replace h := h σ5 hw
      refine Pl.seg (pc' := 28) (ls' := [(0, .ref 97), (1, .int x1), (2, .int x2), (3, .int x3)]) (st' := [.int x3, .int x2, .int x1, .ref 97]) (σ' := σ5) hM 4 rfl ?_
      refine Pl.weak (Pl.cI hM rfl rfl (by decide) (Mj := M_304) rfl rfl (fun w7 σ6 hw => ?_))
      replace h := h w7 σ6 hw
      refine Pl.seg (pc' := 35) (ls' := [(0, .ref 97), (1, .int x1), (2, .int x2), (3, .int x3)]) (st' := [.int x3, .int x2, .int (0 : Int32), .ref 97, .int w7]) (σ' := σ6) hM 4 rfl ?_
      refine Pl.weak (Pl.cI hM rfl rfl (by decide) (Mj := M_304) rfl rfl (fun w9 σ8 hw => ?_))
      replace h := h w9 σ8 hw
      refine Pl.seg (pc' := 42) (ls' := [(4, .int (w7 - w9)), (0, .ref 97), (1, .int x1), (2, .int x2), (3, .int x3)]) (st' := [.ref 97]) (σ' := σ8) hM 3 rfl ?_
      refine Pl.weak (Pl.cV hM rfl rfl (by decide) (Mj := M_306) rfl rfl (fun σ10 hw => ?_))
      replace h := h σ10 hw
      refine Pl.seg (pc' := 47) (ls' := [(4, .int (w7 - w9)), (0, .ref 97), (1, .int x1), (2, .int x2), (3, .int x3)]) (st' := [.int (w7 - w9)]) (σ' := σ10) hM 1 rfl ?_
      refine Pl.weak (Pl.ret hM rfl rfl h)
    · replace h := h.1 c
      exact Pl.live (l' := []) hM lv_308 ⟨show ndL _ from (by decide : List.Nodup ([0, 1, 2, 3] : List Nat)), show ndL _ from (by decide : List.Nodup ([] : List Nat)), by rw [lva_308_16]; exact fun _ h => absurd h List.not_mem_nil⟩ h
set_option maxRecDepth 100000 in
theorem p_308_16 {n d : Nat} {Q : Option Value → Sg → Prop} (σ : Sg) (h : Q (some (.int (-1000 : Int32))) σ) : Pl PRG (n + 1) d 308 16 [] [] σ Q := by
  have hM : PRG[308]? = some M_308 := rfl
  refine Pl.sg1 (pc' := 19) (ls' := []) (st' := [.int (-1000 : Int32)]) (σ' := σ) hM 0 rfl ?_
  refine Pl.weak (Pl.ret hM rfl rfl h)
def LV_309 : List (Nat × List Nat) := [(0, [0, 1, 2, 3]), (1, [0, 1, 2, 3]), (2, [0, 1, 2, 3]), (5, [0, 1, 2, 3]), (8, [0, 1, 2, 3]), (9, [0, 1, 2, 3]), (10, [0, 1, 2, 3]), (11, [0, 1, 2, 3]), (14, [0, 1, 2, 3]), (17, []), (20, []), (21, [0, 1, 2, 3]), (22, [0, 1, 2, 3]), (25, [0, 1, 2, 3]), (26, [0, 1, 2, 3]), (27, [0, 1, 2, 3]), (28, [0, 1, 2, 3]), (29, [0, 1, 2, 3]), (32, [0, 1, 2, 3]), (34, [0, 1, 2, 3, 4]), (35, [0, 1, 2, 3, 4]), (37, [0, 1, 2, 3, 4, 5]), (38, [0, 1, 2, 3, 4, 5]), (40, [0, 1, 2, 3, 4, 5, 6]), (41, [0, 1, 2, 3, 4, 5, 6]), (43, [0, 1, 2, 3, 4, 5, 6, 7]), (45, [0, 1, 2, 3, 4, 5, 6, 7]), (46, [0, 1, 2, 3, 4, 5, 6, 7]), (47, [0, 1, 2, 3, 4, 5, 6, 7]), (50, [0, 1, 2, 3, 4, 5, 6, 7]), (51, [0, 1, 2, 3, 4, 5, 6, 7]), (54, [0, 1, 2, 3, 4, 5, 6, 7]), (55, [0, 1, 2, 3, 4, 5, 6, 7]), (56, [0, 1, 2, 3, 4, 5, 6, 7]), (59, [0, 1, 2, 3, 4, 5, 6, 7]), (60, [0, 1, 2, 3, 4, 5, 6, 7]), (62, [0, 1, 2, 3, 4, 5, 6, 7]), (63, [0, 1, 2, 3, 4, 5, 6, 7]), (64, [0, 1, 2, 3, 4, 5, 6, 7]), (67, [0, 1, 2, 3, 4, 5, 6, 7]), (69, [0, 1, 2, 3, 4, 5, 6, 7]), (70, [0, 1, 2, 3, 4, 5, 6, 7]), (72, [0, 1, 2, 3, 4, 5, 6, 7, 8]), (74, [0, 1, 2, 3, 4, 5, 6, 7, 8]), (76, [0, 1, 2, 3, 4, 5, 6, 7, 8]), (79, [0, 1, 2, 3, 4, 5, 6, 7]), (82, [0, 1, 2, 3, 4, 7, 8]), (84, [0, 1, 2, 3, 4, 7, 8]), (86, [0, 1, 2, 3, 4, 5, 7, 8]), (88, [0, 1, 2, 3, 4, 5, 7]), (90, [0, 1, 2, 3, 4, 5, 6, 7]), (93, [0, 1, 2, 3, 4, 5, 6, 7]), (96, [0, 3, 5, 6]), (97, [3, 5, 6]), (100, [3, 5, 6]), (101, [5, 6]), (104, [5]), (106, []), (109, [6]), (111, [])]
set_option maxRecDepth 100000 in
theorem lv_309 : chkLv M_309 LV_309 = true := by decide +kernel
set_option maxRecDepth 100000 in
theorem lva_309_17 : lvA LV_309 17 = [] := by decide +kernel
set_option maxRecDepth 100000 in
theorem lva_309_43 : lvA LV_309 43 = [0, 1, 2, 3, 4, 5, 6, 7] := by decide +kernel
set_option maxRecDepth 100000 in
theorem lva_309_90 : lvA LV_309 90 = [0, 1, 2, 3, 4, 5, 6, 7] := by decide +kernel
set_option maxRecDepth 100000 in
theorem p_309_0 {n d : Nat} {Q : Option Value → Sg → Prop} (σ : Sg) (x1 x2 x3 : Int32) (h : (∀ w2 σ1, RCx PRG n 307 [.ref 97, .int x2] σ (some (.int w2)) σ1 → (w2 = 0 ∨ w2 = 1) → ((w2 = 0 → Pl PRG n d 309 17 [] [] σ1 Q) ∧ (¬ w2 = 0 → (∀ w4 σ3, RCx PRG n 195 [.int x3, .int (0 : Int32), .int (1 : Int32)] σ1 (some (.int w4)) σ3 → (w4 = 0 ∨ w4 = 1) → ((w4 = 0 → Pl PRG n d 309 17 [] [] σ3 Q) ∧ (¬ w4 = 0 → (∀ σ5, RCx PRG n 305 [.ref 97] σ3 none σ5 → (∀ w7 σ6, RCx PRG n 304 [.ref 97, .int (0 : Int32), .int x1, .int x2] σ5 (some (.int w7)) σ6 → Pl PRG n d 309 43 [(0, .ref 97), (1, .int x1), (2, .int x2), (3, .int x3), (4, .int w7), (5, .int (0 : Int32)), (6, .int (0 : Int32)), (7, .int (1 : Int32))] [] σ6 Q))))))))) : Pl PRG (n + 1) d 309 0 [(0, .ref 97), (1, .int x1), (2, .int x2), (3, .int x3)] [] σ Q := by
  have hM : PRG[309]? = some M_309 := rfl
  refine Pl.sg1 (pc' := 2) (ls' := [(0, .ref 97), (1, .int x1), (2, .int x2), (3, .int x3)]) (st' := [.int x2, .ref 97]) (σ' := σ) hM 1 rfl ?_
  refine Pl.weak (Pl.cZ hM rfl rfl (by decide) (Mj := M_307) rfl rfl (fun w2 σ1 hw hz => ?_))
  replace h := h w2 σ1 hw hz
  refine Pl.br (c := w2 = 0) (a := 17) (b := 8) (ls' := [(0, .ref 97), (1, .int x1), (2, .int x2), (3, .int x3)]) (st' := []) (σ' := σ1) hM 1 rfl (fun c => ?_) (fun c => ?_)
  · replace h := h.1 c
    exact Pl.live (l' := []) hM lv_309 ⟨show ndL _ from (by decide : List.Nodup ([0, 1, 2, 3] : List Nat)), show ndL _ from (by decide : List.Nodup ([] : List Nat)), by rw [lva_309_17]; exact fun _ h => absurd h List.not_mem_nil⟩ h
  · replace h := h.2 c
    refine Pl.seg (pc' := 11) (ls' := [(0, .ref 97), (1, .int x1), (2, .int x2), (3, .int x3)]) (st' := [.int (1 : Int32), .int (0 : Int32), .int x3]) (σ' := σ1) hM 3 rfl ?_
    refine Pl.weak (Pl.cZ hM rfl rfl (by decide) (Mj := M_195) rfl rfl (fun w4 σ3 hw hz => ?_))
    replace h := h w4 σ3 hw hz
    refine Pl.brN (c := w4 = 0) (a := 21) (b := 17) (ls' := [(0, .ref 97), (1, .int x1), (2, .int x2), (3, .int x3)]) (st' := []) (σ' := σ3) hM 1 rfl (fun c => ?_) (fun c => ?_)
    · replace h := h.2 c
      refine Pl.seg (pc' := 22) (ls' := [(0, .ref 97), (1, .int x1), (2, .int x2), (3, .int x3)]) (st' := [.ref 97]) (σ' := σ3) hM 1 rfl ?_
      refine Pl.weak (Pl.cV hM rfl rfl (by decide) (Mj := M_305) rfl rfl (fun σ5 hw => ?_))
      replace h := h σ5 hw
      refine Pl.seg (pc' := 29) (ls' := [(0, .ref 97), (1, .int x1), (2, .int x2), (3, .int x3)]) (st' := [.int x2, .int x1, .int (0 : Int32), .ref 97]) (σ' := σ5) hM 4 rfl ?_
      refine Pl.weak (Pl.cI hM rfl rfl (by decide) (Mj := M_304) rfl rfl (fun w7 σ6 hw => ?_))
      replace h := h w7 σ6 hw
      refine Pl.seg (pc' := 43) (ls' := [(7, .int (1 : Int32)), (6, .int (0 : Int32)), (5, .int (0 : Int32)), (4, .int w7), (0, .ref 97), (1, .int x1), (2, .int x2), (3, .int x3)]) (st' := []) (σ' := σ6) hM 7 rfl ?_
      exact Pl.live (l' := [(0, .ref 97), (1, .int x1), (2, .int x2), (3, .int x3), (4, .int w7), (5, .int (0 : Int32)), (6, .int (0 : Int32)), (7, .int (1 : Int32))]) hM lv_309 ⟨show ndL _ from (by decide : List.Nodup ([7, 6, 5, 4, 0, 1, 2, 3] : List Nat)), show ndL _ from (by decide : List.Nodup ([0, 1, 2, 3, 4, 5, 6, 7] : List Nat)), by rw [lva_309_43]; exact List.forall_mem_cons.mpr ⟨rfl, List.forall_mem_cons.mpr ⟨rfl, List.forall_mem_cons.mpr ⟨rfl, List.forall_mem_cons.mpr ⟨rfl, List.forall_mem_cons.mpr ⟨rfl, List.forall_mem_cons.mpr ⟨rfl, List.forall_mem_cons.mpr ⟨rfl, List.forall_mem_cons.mpr ⟨rfl, fun _ h => absurd h List.not_mem_nil⟩⟩⟩⟩⟩⟩⟩⟩⟩ h
    · replace h := h.1 c
      exact Pl.live (l' := []) hM lv_309 ⟨show ndL _ from (by decide : List.Nodup ([0, 1, 2, 3] : List Nat)), show ndL _ from (by decide : List.Nodup ([] : List Nat)), by rw [lva_309_17]; exact fun _ h => absurd h List.not_mem_nil⟩ h
set_option maxRecDepth 100000 in
theorem p_309_17 {n d : Nat} {Q : Option Value → Sg → Prop} (σ : Sg) (h : Q (some (.int (-1000 : Int32))) σ) : Pl PRG (n + 1) d 309 17 [] [] σ Q := by
  have hM : PRG[309]? = some M_309 := rfl
  refine Pl.sg1 (pc' := 20) (ls' := []) (st' := [.int (-1000 : Int32)]) (σ' := σ) hM 0 rfl ?_
  refine Pl.weak (Pl.ret hM rfl rfl h)
set_option maxRecDepth 100000 in
theorem p_309_43 {n d : Nat} {Q : Option Value → Sg → Prop} (σ : Sg) (x1 x2 x3 x4 x5 x6 x7 : Int32) (h : (inR (σ.1 97 18) 2 = true → ((((1 : Int32) <<< ((σ.1 109 (σ.1 97 18).toNatClampNeg) &&& 31)) ≤ x7 → (∀ σ1, RCx PRG n 306 [.ref 97] σ none σ1 → ((x3 = 0 → Q (some (.int x5)) σ1) ∧ (¬ x3 = 0 → Q (some (.int x6)) σ1)))) ∧ (¬ ((1 : Int32) <<< ((σ.1 109 (σ.1 97 18).toNatClampNeg) &&& 31)) ≤ x7 → (∀ w3 σ2, RCx PRG n 304 [.ref 97, .int x7, .int x1, .int x2] σ (some (.int w3)) σ2 → ((x6 < (w3 - x4) → Pl PRG n d 309 90 [(0, .ref 97), (1, .int x1), (2, .int x2), (3, .int x3), (4, .int x4), (5, .int x7), (6, .int (w3 - x4)), (7, .int x7)] [] σ2 Q) ∧ (¬ x6 < (w3 - x4) → Pl PRG n d 309 90 [(0, .ref 97), (1, .int x1), (2, .int x2), (3, .int x3), (4, .int x4), (5, .int x5), (6, .int x6), (7, .int x7)] [] σ2 Q))))))) : Pl PRG (n + 1) d 309 43 [(0, .ref 97), (1, .int x1), (2, .int x2), (3, .int x3), (4, .int x4), (5, .int x5), (6, .int x6), (7, .int x7)] [] σ Q := by
  have hM : PRG[309]? = some M_309 := rfl
  refine Pl.sg1 (pc' := 54) (ls' := [(0, .ref 97), (1, .int x1), (2, .int x2), (3, .int x3), (4, .int x4), (5, .int x5), (6, .int x6), (7, .int x7)]) (st' := [.int (σ.1 97 18), .ref 109, .int (1 : Int32), .int x7]) (σ' := σ) hM 5 rfl ?_
  refine Pl.weak (Pl.iald hM rfl rfl (fun hi => ?_))
  replace h := h hi
  refine Pl.br (c := ((1 : Int32) <<< ((σ.1 109 (σ.1 97 18).toNatClampNeg) &&& 31)) ≤ x7) (a := 96) (b := 59) (ls' := [(0, .ref 97), (1, .int x1), (2, .int x2), (3, .int x3), (4, .int x4), (5, .int x5), (6, .int x6), (7, .int x7)]) (st' := []) (σ' := σ) hM 2 rfl (fun c => ?_) (fun c => ?_)
  · replace h := h.1 c
    refine Pl.seg (pc' := 97) (ls' := [(0, .ref 97), (1, .int x1), (2, .int x2), (3, .int x3), (4, .int x4), (5, .int x5), (6, .int x6), (7, .int x7)]) (st' := [.ref 97]) (σ' := σ) hM 1 rfl ?_
    refine Pl.weak (Pl.cV hM rfl rfl (by decide) (Mj := M_306) rfl rfl (fun σ1 hw => ?_))
    replace h := h σ1 hw
    refine Pl.brN (c := x3 = 0) (a := 109) (b := 104) (ls' := [(0, .ref 97), (1, .int x1), (2, .int x2), (3, .int x3), (4, .int x4), (5, .int x5), (6, .int x6), (7, .int x7)]) (st' := []) (σ' := σ1) hM 2 rfl (fun c => ?_) (fun c => ?_)
    · replace h := h.2 c
      refine Pl.seg (pc' := 111) (ls' := [(0, .ref 97), (1, .int x1), (2, .int x2), (3, .int x3), (4, .int x4), (5, .int x5), (6, .int x6), (7, .int x7)]) (st' := [.int x6]) (σ' := σ1) hM 1 rfl ?_
      refine Pl.weak (Pl.ret hM rfl rfl h)
    · replace h := h.1 c
      refine Pl.seg (pc' := 111) (ls' := [(0, .ref 97), (1, .int x1), (2, .int x2), (3, .int x3), (4, .int x4), (5, .int x5), (6, .int x6), (7, .int x7)]) (st' := [.int x5]) (σ' := σ1) hM 2 rfl ?_
      refine Pl.weak (Pl.ret hM rfl rfl h)
  · replace h := h.2 c
    refine Pl.seg (pc' := 64) (ls' := [(0, .ref 97), (1, .int x1), (2, .int x2), (3, .int x3), (4, .int x4), (5, .int x5), (6, .int x6), (7, .int x7)]) (st' := [.int x2, .int x1, .int x7, .ref 97]) (σ' := σ) hM 4 rfl ?_
    refine Pl.weak (Pl.cI hM rfl rfl (by decide) (Mj := M_304) rfl rfl (fun w3 σ2 hw => ?_))
    replace h := h w3 σ2 hw
    refine Pl.br (c := x6 < (w3 - x4)) (a := 82) (b := 79) (ls' := [(8, .int (w3 - x4)), (0, .ref 97), (1, .int x1), (2, .int x2), (3, .int x3), (4, .int x4), (5, .int x5), (6, .int x6), (7, .int x7)]) (st' := []) (σ' := σ2) hM 6 rfl (fun c => ?_) (fun c => ?_)
    · replace h := h.1 c
      refine Pl.seg (pc' := 90) (ls' := [(6, .int (w3 - x4)), (5, .int x7), (8, .int (w3 - x4)), (0, .ref 97), (1, .int x1), (2, .int x2), (3, .int x3), (4, .int x4), (7, .int x7)]) (st' := []) (σ' := σ2) hM 4 rfl ?_
      exact Pl.live (l' := [(0, .ref 97), (1, .int x1), (2, .int x2), (3, .int x3), (4, .int x4), (5, .int x7), (6, .int (w3 - x4)), (7, .int x7)]) hM lv_309 ⟨show ndL _ from (by decide : List.Nodup ([6, 5, 8, 0, 1, 2, 3, 4, 7] : List Nat)), show ndL _ from (by decide : List.Nodup ([0, 1, 2, 3, 4, 5, 6, 7] : List Nat)), by rw [lva_309_90]; exact List.forall_mem_cons.mpr ⟨rfl, List.forall_mem_cons.mpr ⟨rfl, List.forall_mem_cons.mpr ⟨rfl, List.forall_mem_cons.mpr ⟨rfl, List.forall_mem_cons.mpr ⟨rfl, List.forall_mem_cons.mpr ⟨rfl, List.forall_mem_cons.mpr ⟨rfl, List.forall_mem_cons.mpr ⟨rfl, fun _ h => absurd h List.not_mem_nil⟩⟩⟩⟩⟩⟩⟩⟩⟩ h
    · replace h := h.2 c
      refine Pl.seg (pc' := 90) (ls' := [(8, .int (w3 - x4)), (0, .ref 97), (1, .int x1), (2, .int x2), (3, .int x3), (4, .int x4), (5, .int x5), (6, .int x6), (7, .int x7)]) (st' := []) (σ' := σ2) hM 1 rfl ?_
      exact Pl.live (l' := [(0, .ref 97), (1, .int x1), (2, .int x2), (3, .int x3), (4, .int x4), (5, .int x5), (6, .int x6), (7, .int x7)]) hM lv_309 ⟨show ndL _ from (by decide : List.Nodup ([8, 0, 1, 2, 3, 4, 5, 6, 7] : List Nat)), show ndL _ from (by decide : List.Nodup ([0, 1, 2, 3, 4, 5, 6, 7] : List Nat)), by rw [lva_309_90]; exact List.forall_mem_cons.mpr ⟨rfl, List.forall_mem_cons.mpr ⟨rfl, List.forall_mem_cons.mpr ⟨rfl, List.forall_mem_cons.mpr ⟨rfl, List.forall_mem_cons.mpr ⟨rfl, List.forall_mem_cons.mpr ⟨rfl, List.forall_mem_cons.mpr ⟨rfl, List.forall_mem_cons.mpr ⟨rfl, fun _ h => absurd h List.not_mem_nil⟩⟩⟩⟩⟩⟩⟩⟩⟩ h
set_option maxRecDepth 100000 in
theorem p_309_90 {n d : Nat} {Q : Option Value → Sg → Prop} (σ : Sg) (x1 x2 x3 x4 x5 x6 x7 : Int32) (h : Pl PRG n d 309 43 [(0, .ref 97), (1, .int x1), (2, .int x2), (3, .int x3), (4, .int x4), (5, .int x5), (6, .int x6), (7, .int (x7 + (1 : Int32)))] [] σ Q) : Pl PRG (n + 1) d 309 90 [(0, .ref 97), (1, .int x1), (2, .int x2), (3, .int x3), (4, .int x4), (5, .int x5), (6, .int x6), (7, .int x7)] [] σ Q := by
  have hM : PRG[309]? = some M_309 := rfl
  refine Pl.sg1 (pc' := 43) (ls' := [(7, .int (x7 + (1 : Int32))), (0, .ref 97), (1, .int x1), (2, .int x2), (3, .int x3), (4, .int x4), (5, .int x5), (6, .int x6)]) (st' := []) (σ' := σ) hM 1 rfl ?_
  exact Pl.live (l' := [(0, .ref 97), (1, .int x1), (2, .int x2), (3, .int x3), (4, .int x4), (5, .int x5), (6, .int x6), (7, .int (x7 + (1 : Int32)))]) hM lv_309 ⟨show ndL _ from (by decide : List.Nodup ([7, 0, 1, 2, 3, 4, 5, 6] : List Nat)), show ndL _ from (by decide : List.Nodup ([0, 1, 2, 3, 4, 5, 6, 7] : List Nat)), by rw [lva_309_43]; exact List.forall_mem_cons.mpr ⟨rfl, List.forall_mem_cons.mpr ⟨rfl, List.forall_mem_cons.mpr ⟨rfl, List.forall_mem_cons.mpr ⟨rfl, List.forall_mem_cons.mpr ⟨rfl, List.forall_mem_cons.mpr ⟨rfl, List.forall_mem_cons.mpr ⟨rfl, List.forall_mem_cons.mpr ⟨rfl, fun _ h => absurd h List.not_mem_nil⟩⟩⟩⟩⟩⟩⟩⟩⟩ h
def LV_310 : List (Nat × List Nat) := [(0, [0]), (1, [0]), (4, [0]), (7, [0]), (8, [0]), (11, [0]), (12, [0]), (15, [0]), (18, [0]), (19, [0]), (22, [0]), (24, [0]), (27, []), (28, []), (29, [0]), (30, [0]), (31, [0, 1]), (32, [0, 1]), (34, [0, 1]), (37, [0, 1]), (38, [0, 1]), (41, [0, 1]), (43, [0, 1]), (44, [0, 1]), (47, [0, 1]), (48, [0, 1]), (49, [0, 1]), (50, [0, 1]), (51, [0, 1]), (52, [0, 1]), (53, [0, 1]), (56, [0, 1]), (58, [0, 1]), (59, [0, 1]), (62, [0, 1]), (63, [0, 1]), (64, [0, 1]), (65, [0, 1]), (66, [0, 1]), (67, [0, 1]), (70, [0, 1]), (73, [0]), (74, [0]), (75, [0]), (78, [0]), (79, [0]), (82, [0]), (83, [0]), (84, [0]), (85, [0]), (86, [0]), (87, [0, 1]), (88, [0, 1]), (89, [0, 1, 2]), (90, [0, 1, 2]), (91, [0, 1, 2]), (94, [0, 1, 2]), (97, [0, 1, 2]), (98, [0, 1, 2]), (101, [0, 1, 2]), (102, [0, 1, 2]), (103, [0, 1, 2]), (104, [0, 1, 2, 3]), (105, [0, 1, 2, 3]), (106, [0, 1, 2, 3]), (107, [0, 1, 2, 3]), (110, [0, 1, 2, 3]), (112, [0, 1, 2, 3, 4]), (113, [0, 1, 2, 3, 4]), (115, [0, 1, 2, 3, 4]), (116, [0, 1, 2, 3, 4]), (119, [0, 1, 2, 3, 4]), (120, [0, 1, 2, 3, 4]), (121, [0, 1, 2, 3, 4]), (122, [0, 1, 2, 3, 4]), (125, [0, 1, 2, 3, 4]), (126, [0, 1, 2, 3, 4]), (127, [0, 1, 2, 3, 4]), (128, [0, 1, 2, 3, 4]), (129, [0, 1, 2, 4]), (130, [0, 1, 2, 4]), (133, [0, 1, 2, 4]), (134, [0, 1, 2, 4]), (135, [0, 1, 2, 4]), (136, [0, 1, 2, 4]), (139, [0, 1, 2, 4]), (141, [0, 1, 2, 4, 5]), (142, [0, 1, 2, 4, 5]), (144, [0, 1, 2, 4, 5, 6]), (146, [0, 1, 2, 4, 5, 6]), (148, [0, 1, 2, 4, 5, 6]), (151, [0, 1, 2, 4, 5, 6]), (152, [0, 1, 2, 4, 5, 6]), (155, [0, 1, 2, 4, 5, 6]), (157, [0, 1, 2, 4, 5, 6]), (158, [0, 1, 2, 4, 5, 6]), (161, [0, 1, 2, 4, 5, 6]), (162, [0, 1, 2, 4, 5, 6]), (164, [0, 1, 2, 4, 5, 6]), (165, [0, 1, 2, 4, 5, 6]), (166, [0, 1, 2, 4, 5, 6]), (167, [0, 1, 2, 4, 5, 6]), (169, [0, 1, 2, 4, 5, 6]), (171, [0, 1, 2, 4, 5, 6]), (172, [0, 1, 2, 4, 5, 6]), (173, [0, 1, 2, 4, 5, 6]), (174, [0, 1, 2, 4, 5, 6]), (175, [0, 1, 2, 4, 5, 6]), (176, [0, 1, 2, 4, 5, 6]), (177, [0, 1, 2, 4, 5, 6]), (180, [0, 1, 2, 4, 5, 6]), (182, [0, 1, 2, 4, 5, 6]), (183, [0, 1, 2, 4, 5, 6]), (186, [0, 1, 2, 4, 5, 6]), (187, [0, 1, 2, 4, 5, 6]), (189, [0, 1, 2, 4, 5, 6]), (190, [0, 1, 2, 4, 5, 6]), (191, [0, 1, 2, 4, 5, 6]), (192, [0, 1, 2, 4, 5, 6]), (194, [0, 1, 2, 4, 5, 6]), (196, [0, 1, 2, 4, 5, 6]), (197, [0, 1, 2, 4, 5, 6]), (198, [0, 1, 2, 4, 5, 6]), (199, [0, 1, 2, 4, 5, 6]), (200, [0, 1, 2, 4, 5, 6]), (201, [0, 1, 2, 4, 5, 6]), (204, [0, 1, 2, 4, 5, 6]), (207, [0, 1, 2]), (210, [0, 1, 2]), (213, [0]), (214, [0]), (215, [0]), (218, [0]), (219, [0]), (220, [0]), (223, [0]), (224, []), (227, []), (228, []), (229, [])]
set_option maxRecDepth 100000 in
theorem lv_310 : chkLv M_310 LV_310 = true := by decide +kernel
set_option maxRecDepth 100000 in
theorem lva_310_27 : lvA LV_310 27 = [] := by decide +kernel
set_option maxRecDepth 100000 in
theorem lva_310_31 : lvA LV_310 31 = [0, 1] := by decide +kernel
set_option maxRecDepth 100000 in
theorem lva_310_89 : lvA LV_310 89 = [0, 1, 2] := by decide +kernel
set_option maxRecDepth 100000 in
theorem lva_310_144 : lvA LV_310 144 = [0, 1, 2, 4, 5, 6] := by decide +kernel
set_option maxRecDepth 100000 in
theorem p_310_0 {n d : Nat} {Q : Option Value → Sg → Prop} (σ : Sg) (h : (((σ.1 97 45) = 0 → Pl PRG n d 310 27 [] [] σ Q) ∧ (¬ (σ.1 97 45) = 0 → (∀ w2 σ1, RCx PRG n 210 [.ref 97] σ (some (.int w2)) σ1 → (((σ.1 97 48) < w2 → Pl PRG n d 310 27 [] [] σ1 Q) ∧ (¬ (σ.1 97 48) < w2 → (((σ1.1 97 86) = (8 : Int32) → Pl PRG n d 310 27 [] [] σ1 Q) ∧ (¬ (σ1.1 97 86) = (8 : Int32) → Pl PRG n d 310 31 [(0, .ref 97), (1, .int (0 : Int32))] [] σ1 Q)))))))) : Pl PRG (n + 1) d 310 0 [(0, .ref 97)] [] σ Q := by
  have hM : PRG[310]? = some M_310 := rfl
  refine Pl.br1 (c := (σ.1 97 45) = 0) (a := 27) (b := 7) (ls' := [(0, .ref 97)]) (st' := []) (σ' := σ) hM 2 rfl (fun c => ?_) (fun c => ?_)
  · replace h := h.1 c
    exact Pl.live (l' := []) hM lv_310 ⟨show ndL _ from (by decide : List.Nodup ([0] : List Nat)), show ndL _ from (by decide : List.Nodup ([] : List Nat)), by rw [lva_310_27]; exact fun _ h => absurd h List.not_mem_nil⟩ h
  · replace h := h.2 c
    refine Pl.seg (pc' := 12) (ls' := [(0, .ref 97)]) (st' := [.ref 97, .int (σ.1 97 48)]) (σ' := σ) hM 3 rfl ?_
    refine Pl.weak (Pl.cI hM rfl rfl (by decide) (Mj := M_210) rfl rfl (fun w2 σ1 hw => ?_))
    replace h := h w2 σ1 hw
    refine Pl.br (c := (σ.1 97 48) < w2) (a := 27) (b := 18) (ls' := [(0, .ref 97)]) (st' := []) (σ' := σ1) hM 1 rfl (fun c => ?_) (fun c => ?_)
    · replace h := h.1 c
      exact Pl.live (l' := []) hM lv_310 ⟨show ndL _ from (by decide : List.Nodup ([0] : List Nat)), show ndL _ from (by decide : List.Nodup ([] : List Nat)), by rw [lva_310_27]; exact fun _ h => absurd h List.not_mem_nil⟩ h
    · replace h := h.2 c
      refine Pl.brN (c := (σ1.1 97 86) = (8 : Int32)) (a := 29) (b := 27) (ls' := [(0, .ref 97)]) (st' := []) (σ' := σ1) hM 4 rfl (fun c => ?_) (fun c => ?_)
      · replace h := h.2 c
        refine Pl.seg (pc' := 31) (ls' := [(1, .int (0 : Int32)), (0, .ref 97)]) (st' := []) (σ' := σ1) hM 2 rfl ?_
        exact Pl.live (l' := [(0, .ref 97), (1, .int (0 : Int32))]) hM lv_310 ⟨show ndL _ from (by decide : List.Nodup ([1, 0] : List Nat)), show ndL _ from (by decide : List.Nodup ([0, 1] : List Nat)), by rw [lva_310_31]; exact List.forall_mem_cons.mpr ⟨rfl, List.forall_mem_cons.mpr ⟨rfl, fun _ h => absurd h List.not_mem_nil⟩⟩⟩ h
      · replace h := h.1 c
        exact Pl.live (l' := []) hM lv_310 ⟨show ndL _ from (by decide : List.Nodup ([0] : List Nat)), show ndL _ from (by decide : List.Nodup ([] : List Nat)), by rw [lva_310_27]; exact fun _ h => absurd h List.not_mem_nil⟩ h
set_option maxRecDepth 100000 in
theorem p_310_27 {n d : Nat} {Q : Option Value → Sg → Prop} (σ : Sg) (h : Q (some (.int (-1 : Int32))) σ) : Pl PRG (n + 1) d 310 27 [] [] σ Q := by
  have hM : PRG[310]? = some M_310 := rfl
  refine Pl.sg1 (pc' := 28) (ls' := []) (st' := [.int (-1 : Int32)]) (σ' := σ) hM 0 rfl ?_
  refine Pl.weak (Pl.ret hM rfl rfl h)
set_option maxRecDepth 100000 in
theorem p_310_31 {n d : Nat} {Q : Option Value → Sg → Prop} (σ : Sg) (x1 : Int32) (h : (((6 : Int32) ≤ x1 → (inR (σ.1 97 18) 2 = true → Pl PRG n d 310 89 [(0, .ref 97), (1, .int (((1 : Int32) <<< ((σ.1 109 (σ.1 97 18).toNatClampNeg) &&& 31)) - (1 : Int32))), (2, .int (0 : Int32))] [] σ Q)) ∧ (¬ (6 : Int32) ≤ x1 → (inR (((6 : Int32) * (σ.1 97 86)) + x1) 48 = true → (inR (((6 : Int32) * (σ.1 97 86)) + x1) 48 = true → Pl PRG n d 310 31 [(0, .ref 97), (1, .int (x1 + (1 : Int32)))] [] (s1 (s1 σ 150 (((6 : Int32) * (σ.1 97 86)) + x1).toNatClampNeg (0 : Int32)) 151 (((6 : Int32) * (σ.1 97 86)) + x1).toNatClampNeg (0 : Int32)) Q))))) : Pl PRG (n + 1) d 310 31 [(0, .ref 97), (1, .int x1)] [] σ Q := by
  have hM : PRG[310]? = some M_310 := rfl
  refine Pl.br1 (c := (6 : Int32) ≤ x1) (a := 73) (b := 37) (ls' := [(0, .ref 97), (1, .int x1)]) (st' := []) (σ' := σ) hM 2 rfl (fun c => ?_) (fun c => ?_)
  · replace h := h.1 c
    refine Pl.seg (pc' := 82) (ls' := [(0, .ref 97), (1, .int x1)]) (st' := [.int (σ.1 97 18), .ref 109, .int (1 : Int32)]) (σ' := σ) hM 5 rfl ?_
    refine Pl.weak (Pl.iald hM rfl rfl (fun hi => ?_))
    replace h := h hi
    refine Pl.seg (pc' := 89) (ls' := [(2, .int (0 : Int32)), (1, .int (((1 : Int32) <<< ((σ.1 109 (σ.1 97 18).toNatClampNeg) &&& 31)) - (1 : Int32))), (0, .ref 97)]) (st' := []) (σ' := σ) hM 6 rfl ?_
    exact Pl.live (l' := [(0, .ref 97), (1, .int (((1 : Int32) <<< ((σ.1 109 (σ.1 97 18).toNatClampNeg) &&& 31)) - (1 : Int32))), (2, .int (0 : Int32))]) hM lv_310 ⟨show ndL _ from (by decide : List.Nodup ([2, 1, 0] : List Nat)), show ndL _ from (by decide : List.Nodup ([0, 1, 2] : List Nat)), by rw [lva_310_89]; exact List.forall_mem_cons.mpr ⟨rfl, List.forall_mem_cons.mpr ⟨rfl, List.forall_mem_cons.mpr ⟨rfl, fun _ h => absurd h List.not_mem_nil⟩⟩⟩⟩ h
  · replace h := h.2 c
    refine Pl.seg (pc' := 51) (ls' := [(0, .ref 97), (1, .int x1)]) (st' := [.int (0 : Int32), .int (((6 : Int32) * (σ.1 97 86)) + x1), .ref 150]) (σ' := σ) hM 9 rfl ?_
    refine Pl.weak (Pl.iast hM rfl rfl (fun hi => ?_))
    replace h := h hi
    refine Pl.seg (pc' := 66) (ls' := [(0, .ref 97), (1, .int x1)]) (st' := [.int (0 : Int32), .int (((6 : Int32) * (σ.1 97 86)) + x1), .ref 151]) (σ' := (s1 σ 150 (((6 : Int32) * (σ.1 97 86)) + x1).toNatClampNeg (0 : Int32))) hM 9 rfl ?_
    refine Pl.weak (Pl.iast hM rfl rfl (fun hi => ?_))
    replace h := h hi
    refine Pl.seg (pc' := 31) (ls' := [(1, .int (x1 + (1 : Int32))), (0, .ref 97)]) (st' := []) (σ' := (s1 (s1 σ 150 (((6 : Int32) * (σ.1 97 86)) + x1).toNatClampNeg (0 : Int32)) 151 (((6 : Int32) * (σ.1 97 86)) + x1).toNatClampNeg (0 : Int32))) hM 2 rfl ?_
    exact Pl.live (l' := [(0, .ref 97), (1, .int (x1 + (1 : Int32)))]) hM lv_310 ⟨show ndL _ from (by decide : List.Nodup ([1, 0] : List Nat)), show ndL _ from (by decide : List.Nodup ([0, 1] : List Nat)), by rw [lva_310_31]; exact List.forall_mem_cons.mpr ⟨rfl, List.forall_mem_cons.mpr ⟨rfl, fun _ h => absurd h List.not_mem_nil⟩⟩⟩ h
set_option maxRecDepth 100000 in
theorem p_310_89 {n d : Nat} {Q : Option Value → Sg → Prop} (σ : Sg) (x1 x2 : Int32) (h : (((σ.1 97 48) ≤ x2 → Q (some (.int (((σ.1 97 86) + (1 : Int32)) - (1 : Int32)))) (s1 σ 97 86 ((σ.1 97 86) + (1 : Int32)))) ∧ (¬ (σ.1 97 48) ≤ x2 → (inR x2 16 = true → (∀ w2 σ1, RCx PRG n 255 [.ref 97, .int x2, .int x1] σ (some (.int w2)) σ1 → (inR x2 16 = true → (inR (σ.1 127 x2.toNatClampNeg) 4 = true → (∀ w4 σ3, RCx PRG n 225 [.ref 97, .int (σ.1 127 x2.toNatClampNeg), .int x2] σ1 (some (.int w4)) σ3 → (∀ w6 σ5, RCx PRG n 254 [.ref 97, .int w2, .int (σ1.1 126 x2.toNatClampNeg), .int ((σ1.1 125 (σ.1 127 x2.toNatClampNeg).toNatClampNeg) &&& (w4 ^^^ (-1 : Int32)))] σ3 (some (.int w6)) σ5 → Pl PRG n d 310 144 [(0, .ref 97), (1, .int x1), (2, .int x2), (4, .int w2), (5, .int w6), (6, .int (0 : Int32))] [] σ5 Q))))))))) : Pl PRG (n + 1) d 310 89 [(0, .ref 97), (1, .int x1), (2, .int x2)] [] σ Q := by
  have hM : PRG[310]? = some M_310 := rfl
  refine Pl.br1 (c := (σ.1 97 48) ≤ x2) (a := 213) (b := 97) (ls' := [(0, .ref 97), (1, .int x1), (2, .int x2)]) (st' := []) (σ' := σ) hM 3 rfl (fun c => ?_) (fun c => ?_)
  · replace h := h.1 c
    refine Pl.seg (pc' := 229) (ls' := [(0, .ref 97), (1, .int x1), (2, .int x2)]) (st' := [.int (((σ.1 97 86) + (1 : Int32)) - (1 : Int32))]) (σ' := (s1 σ 97 86 ((σ.1 97 86) + (1 : Int32)))) hM 10 rfl ?_
    refine Pl.weak (Pl.ret hM rfl rfl h)
  · replace h := h.2 c
    refine Pl.seg (pc' := 102) (ls' := [(0, .ref 97), (1, .int x1), (2, .int x2)]) (st' := [.int x2, .ref 127]) (σ' := σ) hM 3 rfl ?_
    refine Pl.weak (Pl.iald hM rfl rfl (fun hi => ?_))
    replace h := h hi
    refine Pl.seg (pc' := 107) (ls' := [(3, .int (σ.1 127 x2.toNatClampNeg)), (0, .ref 97), (1, .int x1), (2, .int x2)]) (st' := [.int x1, .int x2, .ref 97]) (σ' := σ) hM 4 rfl ?_
    refine Pl.weak (Pl.cI hM rfl rfl (by decide) (Mj := M_255) rfl rfl (fun w2 σ1 hw => ?_))
    replace h := h w2 σ1 hw
    refine Pl.seg (pc' := 120) (ls' := [(4, .int w2), (3, .int (σ.1 127 x2.toNatClampNeg)), (0, .ref 97), (1, .int x1), (2, .int x2)]) (st' := [.int x2, .ref 126, .int w2, .ref 97]) (σ' := σ1) hM 6 rfl ?_
    refine Pl.weak (Pl.iald hM rfl rfl (fun hi => ?_))
    replace h := h hi
    refine Pl.seg (pc' := 126) (ls' := [(4, .int w2), (3, .int (σ.1 127 x2.toNatClampNeg)), (0, .ref 97), (1, .int x1), (2, .int x2)]) (st' := [.int (σ.1 127 x2.toNatClampNeg), .ref 125, .int (σ1.1 126 x2.toNatClampNeg), .int w2, .ref 97]) (σ' := σ1) hM 3 rfl ?_
    refine Pl.weak (Pl.iald hM rfl rfl (fun hi => ?_))
    replace h := h hi
    refine Pl.seg (pc' := 130) (ls' := [(4, .int w2), (3, .int (σ.1 127 x2.toNatClampNeg)), (0, .ref 97), (1, .int x1), (2, .int x2)]) (st' := [.int x2, .int (σ.1 127 x2.toNatClampNeg), .ref 97, .int (σ1.1 125 (σ.1 127 x2.toNatClampNeg).toNatClampNeg), .int (σ1.1 126 x2.toNatClampNeg), .int w2, .ref 97]) (σ' := σ1) hM 3 rfl ?_
    refine Pl.weak (Pl.cI hM rfl rfl (by decide) (Mj := M_225) rfl rfl (fun w4 σ3 hw => ?_))
    replace h := h w4 σ3 hw
    refine Pl.seg (pc' := 136) (ls' := [(4, .int w2), (3, .int (σ.1 127 x2.toNatClampNeg)), (0, .ref 97), (1, .int x1), (2, .int x2)]) (st' := [.int ((σ1.1 125 (σ.1 127 x2.toNatClampNeg).toNatClampNeg) &&& (w4 ^^^ (-1 : Int32))), .int (σ1.1 126 x2.toNatClampNeg), .int w2, .ref 97]) (σ' := σ3) hM 3 rfl ?_
    refine Pl.weak (Pl.cI hM rfl rfl (by decide) (Mj := M_254) rfl rfl (fun w6 σ5 hw => ?_))
    replace h := h w6 σ5 hw
    refine Pl.seg (pc' := 144) (ls' := [(6, .int (0 : Int32)), (5, .int w6), (4, .int w2), (3, .int (σ.1 127 x2.toNatClampNeg)), (0, .ref 97), (1, .int x1), (2, .int x2)]) (st' := []) (σ' := σ5) hM 3 rfl ?_
    exact Pl.live (l' := [(0, .ref 97), (1, .int x1), (2, .int x2), (4, .int w2), (5, .int w6), (6, .int (0 : Int32))]) hM lv_310 ⟨show ndL _ from (by decide : List.Nodup ([6, 5, 4, 3, 0, 1, 2] : List Nat)), show ndL _ from (by decide : List.Nodup ([0, 1, 2, 4, 5, 6] : List Nat)), by rw [lva_310_144]; exact List.forall_mem_cons.mpr ⟨rfl, List.forall_mem_cons.mpr ⟨rfl, List.forall_mem_cons.mpr ⟨rfl, List.forall_mem_cons.mpr ⟨rfl, List.forall_mem_cons.mpr ⟨rfl, List.forall_mem_cons.mpr ⟨rfl, fun _ h => absurd h List.not_mem_nil⟩⟩⟩⟩⟩⟩⟩ h
set_option maxRecDepth 100000 in
theorem p_310_144 {n d : Nat} {Q : Option Value → Sg → Prop} (σ : Sg) (x1 x2 x4 x5 x6 : Int32) (h : (((6 : Int32) ≤ x6 → Pl PRG n d 310 89 [(0, .ref 97), (1, .int x1), (2, .int (x2 + (1 : Int32)))] [] σ Q) ∧ (¬ (6 : Int32) ≤ x6 → (inR (((6 : Int32) * (σ.1 97 86)) + x6) 48 = true → (inR (((6 : Int32) * (σ.1 97 86)) + x6) 48 = true → (inR (((6 : Int32) * (σ.1 97 86)) + x6) 48 = true → (inR (((6 : Int32) * (σ.1 97 86)) + x6) 48 = true → Pl PRG n d 310 144 [(0, .ref 97), (1, .int x1), (2, .int x2), (4, .int x4), (5, .int x5), (6, .int (x6 + (1 : Int32)))] [] (s1 (s1 σ 150 (((6 : Int32) * (σ.1 97 86)) + x6).toNatClampNeg ((σ.1 150 (((6 : Int32) * (σ.1 97 86)) + x6).toNatClampNeg) + ((x4 >>> (x6 &&& 31)) &&& (1 : Int32)))) 151 (((6 : Int32) * (σ.1 97 86)) + x6).toNatClampNeg ((σ.1 151 (((6 : Int32) * (σ.1 97 86)) + x6).toNatClampNeg) + ((x5 >>> (x6 &&& 31)) &&& (1 : Int32)))) Q))))))) : Pl PRG (n + 1) d 310 144 [(0, .ref 97), (1, .int x1), (2, .int x2), (4, .int x4), (5, .int x5), (6, .int x6)] [] σ Q := by
  have hM : PRG[310]? = some M_310 := rfl
  refine Pl.br1 (c := (6 : Int32) ≤ x6) (a := 207) (b := 151) (ls' := [(0, .ref 97), (1, .int x1), (2, .int x2), (4, .int x4), (5, .int x5), (6, .int x6)]) (st' := []) (σ' := σ) hM 2 rfl (fun c => ?_) (fun c => ?_)
  · replace h := h.1 c
    refine Pl.seg (pc' := 89) (ls' := [(2, .int (x2 + (1 : Int32))), (0, .ref 97), (1, .int x1), (4, .int x4), (5, .int x5), (6, .int x6)]) (st' := []) (σ' := σ) hM 2 rfl ?_
    exact Pl.live (l' := [(0, .ref 97), (1, .int x1), (2, .int (x2 + (1 : Int32)))]) hM lv_310 ⟨show ndL _ from (by decide : List.Nodup ([2, 0, 1, 4, 5, 6] : List Nat)), show ndL _ from (by decide : List.Nodup ([0, 1, 2] : List Nat)), by rw [lva_310_89]; exact List.forall_mem_cons.mpr ⟨rfl, List.forall_mem_cons.mpr ⟨rfl, List.forall_mem_cons.mpr ⟨rfl, fun _ h => absurd h List.not_mem_nil⟩⟩⟩⟩ h
  · replace h := h.2 c
    refine Pl.seg (pc' := 166) (ls' := [(0, .ref 97), (1, .int x1), (2, .int x2), (4, .int x4), (5, .int x5), (6, .int x6)]) (st' := [.int (((6 : Int32) * (σ.1 97 86)) + x6), .ref 150, .int (((6 : Int32) * (σ.1 97 86)) + x6), .ref 150]) (σ' := σ) hM 9 rfl ?_
    refine Pl.weak (Pl.iald hM rfl rfl (fun hi => ?_))
    replace h := h hi
    refine Pl.seg (pc' := 175) (ls' := [(0, .ref 97), (1, .int x1), (2, .int x2), (4, .int x4), (5, .int x5), (6, .int x6)]) (st' := [.int ((σ.1 150 (((6 : Int32) * (σ.1 97 86)) + x6).toNatClampNeg) + ((x4 >>> (x6 &&& 31)) &&& (1 : Int32))), .int (((6 : Int32) * (σ.1 97 86)) + x6), .ref 150]) (σ' := σ) hM 6 rfl ?_
    refine Pl.weak (Pl.iast hM rfl rfl (fun hi => ?_))
    replace h := h hi
    refine Pl.seg (pc' := 191) (ls' := [(0, .ref 97), (1, .int x1), (2, .int x2), (4, .int x4), (5, .int x5), (6, .int x6)]) (st' := [.int (((6 : Int32) * (σ.1 97 86)) + x6), .ref 151, .int (((6 : Int32) * (σ.1 97 86)) + x6), .ref 151]) (σ' := (s1 σ 150 (((6 : Int32) * (σ.1 97 86)) + x6).toNatClampNeg ((σ.1 150 (((6 : Int32) * (σ.1 97 86)) + x6).toNatClampNeg) + ((x4 >>> (x6 &&& 31)) &&& (1 : Int32))))) hM 9 rfl ?_
    refine Pl.weak (Pl.iald hM rfl rfl (fun hi => ?_))
    replace h := h hi
    refine Pl.seg (pc' := 200) (ls' := [(0, .ref 97), (1, .int x1), (2, .int x2), (4, .int x4), (5, .int x5), (6, .int x6)]) (st' := [.int ((σ.1 151 (((6 : Int32) * (σ.1 97 86)) + x6).toNatClampNeg) + ((x5 >>> (x6 &&& 31)) &&& (1 : Int32))), .int (((6 : Int32) * (σ.1 97 86)) + x6), .ref 151]) (σ' := (s1 σ 150 (((6 : Int32) * (σ.1 97 86)) + x6).toNatClampNeg ((σ.1 150 (((6 : Int32) * (σ.1 97 86)) + x6).toNatClampNeg) + ((x4 >>> (x6 &&& 31)) &&& (1 : Int32))))) hM 6 rfl ?_
    refine Pl.weak (Pl.iast hM rfl rfl (fun hi => ?_))
    replace h := h hi
    refine Pl.seg (pc' := 144) (ls' := [(6, .int (x6 + (1 : Int32))), (0, .ref 97), (1, .int x1), (2, .int x2), (4, .int x4), (5, .int x5)]) (st' := []) (σ' := (s1 (s1 σ 150 (((6 : Int32) * (σ.1 97 86)) + x6).toNatClampNeg ((σ.1 150 (((6 : Int32) * (σ.1 97 86)) + x6).toNatClampNeg) + ((x4 >>> (x6 &&& 31)) &&& (1 : Int32)))) 151 (((6 : Int32) * (σ.1 97 86)) + x6).toNatClampNeg ((σ.1 151 (((6 : Int32) * (σ.1 97 86)) + x6).toNatClampNeg) + ((x5 >>> (x6 &&& 31)) &&& (1 : Int32))))) hM 2 rfl ?_
    exact Pl.live (l' := [(0, .ref 97), (1, .int x1), (2, .int x2), (4, .int x4), (5, .int x5), (6, .int (x6 + (1 : Int32)))]) hM lv_310 ⟨show ndL _ from (by decide : List.Nodup ([6, 0, 1, 2, 4, 5] : List Nat)), show ndL _ from (by decide : List.Nodup ([0, 1, 2, 4, 5, 6] : List Nat)), by rw [lva_310_144]; exact List.forall_mem_cons.mpr ⟨rfl, List.forall_mem_cons.mpr ⟨rfl, List.forall_mem_cons.mpr ⟨rfl, List.forall_mem_cons.mpr ⟨rfl, List.forall_mem_cons.mpr ⟨rfl, List.forall_mem_cons.mpr ⟨rfl, fun _ h => absurd h List.not_mem_nil⟩⟩⟩⟩⟩⟩⟩ h
