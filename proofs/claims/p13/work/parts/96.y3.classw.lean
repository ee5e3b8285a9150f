/-! what a run that ends has done: the calls of the class -/
set_option maxRecDepth 100000 in
theorem p_126_0 {n d : Nat} {Q : Option Value → Sg → Prop} (σ : Sg) (x1 : Int32) (h : (∀ σ1, RCx PRG n 33 [.ref 22, .int x1] σ none σ1 → Q (some (.int (1 : Int32))) σ1)) : Pl PRG (n + 1) d 126 0 [(0, .ref 0), (1, .int x1)] [] σ Q := by
  have hM : PRG[126]? = some M_126 := rfl
  refine Pl.sg1 (pc' := 5) (ls' := [(0, .ref 0), (1, .int x1)]) (st' := [.int x1, .ref 22]) (σ' := σ) hM 2 rfl ?_
  refine Pl.weak (Pl.cV hM rfl rfl (by decide) (Mj := M_33) rfl rfl (fun σ1 hw => ?_))
  replace h := h σ1 hw
  refine Pl.seg (pc' := 9) (ls' := [(0, .ref 0), (1, .int x1)]) (st' := [.int (1 : Int32)]) (σ' := σ1) hM 1 rfl ?_
  refine Pl.weak (Pl.ret hM rfl rfl h)
def LV_127 : List (Nat × List Nat) := [(0, [0, 1]), (1, [0, 1]), (2, [0, 1]), (5, [0, 1]), (8, [0, 1]), (9, [0, 1]), (10, [0, 1]), (11, [0, 1]), (14, [0, 1]), (15, [0]), (18, [0]), (19, []), (22, []), (25, []), (28, []), (29, []), (32, []), (33, [])]
set_option maxRecDepth 100000 in
theorem lv_127 : chkLv M_127 LV_127 = true := by decide +kernel
set_option maxRecDepth 100000 in
theorem lva_127_32 : lvA LV_127 32 = [] := by decide +kernel
set_option maxRecDepth 100000 in
theorem p_127_0 {n d : Nat} {Q : Option Value → Sg → Prop} (σ : Sg) (x1 : Int32) (h : (∀ w2 σ1, RCx PRG n 18 [.ref 3] σ (some (.int w2)) σ1 → (((x1 &&& (w2 ^^^ (-1 : Int32))) = 0 → (∀ w4 σ3, RCx PRG n 2 [.int x1] σ1 (some (.int w4)) σ3 → ((w4 = (σ3.1 3 11) → Q (some (.int (1 : Int32))) σ3) ∧ (¬ w4 = (σ3.1 3 11) → Pl PRG n d 127 32 [] [] σ3 Q)))) ∧ (¬ (x1 &&& (w2 ^^^ (-1 : Int32))) = 0 → Pl PRG n d 127 32 [] [] σ1 Q)))) : Pl PRG (n + 1) d 127 0 [(0, .ref 0), (1, .int x1)] [] σ Q := by
  have hM : PRG[127]? = some M_127 := rfl
  refine Pl.sg1 (pc' := 5) (ls' := [(0, .ref 0), (1, .int x1)]) (st' := [.ref 3, .int x1]) (σ' := σ) hM 2 rfl ?_
  refine Pl.weak (Pl.cI hM rfl rfl (by decide) (Mj := M_18) rfl rfl (fun w2 σ1 hw => ?_))
  replace h := h w2 σ1 hw
  refine Pl.brN (c := (x1 &&& (w2 ^^^ (-1 : Int32))) = 0) (a := 32) (b := 14) (ls' := [(0, .ref 0), (1, .int x1)]) (st' := []) (σ' := σ1) hM 4 rfl (fun c => ?_) (fun c => ?_)
  · replace h := h.2 c
    exact Pl.live (l' := []) hM lv_127 ⟨show ndL _ from (by decide : List.Nodup ([0, 1] : List Nat)), show ndL _ from (by decide : List.Nodup ([] : List Nat)), by rw [lva_127_32]; exact fun _ h => absurd h List.not_mem_nil⟩ h
  · replace h := h.1 c
    refine Pl.seg (pc' := 15) (ls' := [(0, .ref 0), (1, .int x1)]) (st' := [.int x1]) (σ' := σ1) hM 1 rfl ?_
    refine Pl.weak (Pl.cI hM rfl rfl (by decide) (Mj := M_2) rfl rfl (fun w4 σ3 hw => ?_))
    replace h := h w4 σ3 hw
    refine Pl.brN (c := w4 = (σ3.1 3 11)) (a := 32) (b := 28) (ls' := [(0, .ref 0), (1, .int x1)]) (st' := []) (σ' := σ3) hM 4 rfl (fun c => ?_) (fun c => ?_)
    · replace h := h.2 c
      exact Pl.live (l' := []) hM lv_127 ⟨show ndL _ from (by decide : List.Nodup ([0, 1] : List Nat)), show ndL _ from (by decide : List.Nodup ([] : List Nat)), by rw [lva_127_32]; exact fun _ h => absurd h List.not_mem_nil⟩ h
    · replace h := h.1 c
      refine Pl.seg (pc' := 33) (ls' := [(0, .ref 0), (1, .int x1)]) (st' := [.int (1 : Int32)]) (σ' := σ3) hM 2 rfl ?_
      refine Pl.weak (Pl.ret hM rfl rfl h)
set_option maxRecDepth 100000 in
theorem p_127_32 {n d : Nat} {Q : Option Value → Sg → Prop} (σ : Sg) (h : Q (some (.int (0 : Int32))) σ) : Pl PRG (n + 1) d 127 32 [] [] σ Q := by
  have hM : PRG[127]? = some M_127 := rfl
  refine Pl.sg1 (pc' := 33) (ls' := []) (st' := [.int (0 : Int32)]) (σ' := σ) hM 0 rfl ?_
  refine Pl.weak (Pl.ret hM rfl rfl h)
def LV_128 : List (Nat × List Nat) := [(0, [0, 1, 2, 3]), (1, [0, 1, 2, 3]), (4, [0, 1, 2, 3]), (7, [0, 1, 2, 3]), (9, [0, 1, 2, 3, 4]), (10, [0, 1, 2, 3, 4]), (11, [0, 1, 2, 3, 4]), (14, [0, 1, 2, 3, 4]), (17, [0, 1, 2, 3, 4]), (18, [0, 1, 2, 3, 4]), (19, [0, 1, 2, 3, 4]), (22, [0, 1, 2, 3, 4]), (25, [0, 1, 2, 3, 4]), (26, [0, 1, 2, 3, 4]), (27, [0, 1, 2, 3, 4]), (30, [0, 1, 2, 3, 4]), (33, [0, 1, 2, 3, 4]), (34, [0, 1, 2, 3, 4]), (35, [0, 1, 2, 3, 4]), (36, [0, 1, 2, 3, 4]), (39, [0, 1, 2, 3, 4]), (40, [0, 1, 2, 3, 4]), (41, [0, 1, 2, 3, 4]), (42, [0, 1, 2, 3, 4]), (45, [0, 1, 2, 3, 4]), (46, [0, 1, 2, 3, 4]), (47, [0, 1, 2, 3, 4]), (48, [0, 1, 2, 3, 4]), (51, []), (52, []), (53, [0, 1, 2, 3, 4]), (54, [1, 2, 3, 4]), (57, [1, 2, 3, 4]), (58, [1, 2, 3, 4]), (59, [1, 2, 3, 4]), (60, [1, 2, 3, 4]), (62, [1, 2, 3]), (63, [2, 3]), (64, [3]), (65, [3]), (66, []), (67, []), (68, []), (69, []), (70, []), (73, []), (74, [])]
set_option maxRecDepth 100000 in
theorem lv_128 : chkLv M_128 LV_128 = true := by decide +kernel
set_option maxRecDepth 100000 in
theorem lva_128_51 : lvA LV_128 51 = [] := by decide +kernel
set_option maxRecDepth 100000 in
theorem p_128_0 {n d : Nat} {Q : Option Value → Sg → Prop} (σ : Sg) (x1 x2 x3 : Int32) (h : (∀ w2 σ1, RCx PRG n 18 [.ref 3] σ (some (.int w2)) σ1 → (∀ w4 σ3, RCx PRG n 127 [.ref 0, .int x1] σ1 (some (.int w4)) σ3 → (w4 = 0 ∨ w4 = 1) → ((w4 = 0 → Pl PRG n d 128 51 [] [] σ3 Q) ∧ (¬ w4 = 0 → (∀ w6 σ5, RCx PRG n 127 [.ref 0, .int x2] σ3 (some (.int w6)) σ5 → (w6 = 0 ∨ w6 = 1) → ((w6 = 0 → Pl PRG n d 128 51 [] [] σ5 Q) ∧ (¬ w6 = 0 → (∀ w8 σ7, RCx PRG n 127 [.ref 0, .int x3] σ5 (some (.int w8)) σ7 → (w8 = 0 ∨ w8 = 1) → ((w8 = 0 → Pl PRG n d 128 51 [] [] σ7 Q) ∧ (¬ w8 = 0 → (((x1 &&& x2) = 0 → (((x1 &&& x3) = 0 → (((x2 &&& x3) = 0 → (∀ σ9, RCx PRG n 32 [.ref 22, .int x1, .int x2, .int x3, .int (w2 &&& (((x1 ||| x2) ||| x3) ^^^ (-1 : Int32)))] σ7 none σ9 → Q (some (.int (1 : Int32))) σ9)) ∧ (¬ (x2 &&& x3) = 0 → Pl PRG n d 128 51 [] [] σ7 Q))) ∧ (¬ (x1 &&& x3) = 0 → Pl PRG n d 128 51 [] [] σ7 Q))) ∧ (¬ (x1 &&& x2) = 0 → Pl PRG n d 128 51 [] [] σ7 Q))))))))))))) : Pl PRG (n + 1) d 128 0 [(0, .ref 0), (1, .int x1), (2, .int x2), (3, .int x3)] [] σ Q := by
  have hM : PRG[128]? = some M_128 := rfl
  refine Pl.sg1 (pc' := 4) (ls' := [(0, .ref 0), (1, .int x1), (2, .int x2), (3, .int x3)]) (st' := [.ref 3]) (σ' := σ) hM 1 rfl ?_
  refine Pl.weak (Pl.cI hM rfl rfl (by decide) (Mj := M_18) rfl rfl (fun w2 σ1 hw => ?_))
  replace h := h w2 σ1 hw
  refine Pl.seg (pc' := 11) (ls' := [(4, .int w2), (0, .ref 0), (1, .int x1), (2, .int x2), (3, .int x3)]) (st' := [.int x1, .ref 0]) (σ' := σ1) hM 3 rfl ?_
  refine Pl.weak (Pl.cZ hM rfl rfl (by decide) (Mj := M_127) rfl rfl (fun w4 σ3 hw hz => ?_))
  replace h := h w4 σ3 hw hz
  refine Pl.br (c := w4 = 0) (a := 51) (b := 17) (ls' := [(4, .int w2), (0, .ref 0), (1, .int x1), (2, .int x2), (3, .int x3)]) (st' := []) (σ' := σ3) hM 1 rfl (fun c => ?_) (fun c => ?_)
  · replace h := h.1 c
    exact Pl.live (l' := []) hM lv_128 ⟨show ndL _ from (by decide : List.Nodup ([4, 0, 1, 2, 3] : List Nat)), show ndL _ from (by decide : List.Nodup ([] : List Nat)), by rw [lva_128_51]; exact fun _ h => absurd h List.not_mem_nil⟩ h
  · replace h := h.2 c
    refine Pl.seg (pc' := 19) (ls' := [(4, .int w2), (0, .ref 0), (1, .int x1), (2, .int x2), (3, .int x3)]) (st' := [.int x2, .ref 0]) (σ' := σ3) hM 2 rfl ?_
    refine Pl.weak (Pl.cZ hM rfl rfl (by decide) (Mj := M_127) rfl rfl (fun w6 σ5 hw hz => ?_))
    replace h := h w6 σ5 hw hz
    refine Pl.br (c := w6 = 0) (a := 51) (b := 25) (ls' := [(4, .int w2), (0, .ref 0), (1, .int x1), (2, .int x2), (3, .int x3)]) (st' := []) (σ' := σ5) hM 1 rfl (fun c => ?_) (fun c => ?_)
    · replace h := h.1 c
      exact Pl.live (l' := []) hM lv_128 ⟨show ndL _ from (by decide : List.Nodup ([4, 0, 1, 2, 3] : List Nat)), show ndL _ from (by decide : List.Nodup ([] : List Nat)), by rw [lva_128_51]; exact fun _ h => absurd h List.not_mem_nil⟩ h
    · replace h := h.2 c
      refine Pl.seg (pc' := 27) (ls' := [(4, .int w2), (0, .ref 0), (1, .int x1), (2, .int x2), (3, .int x3)]) (st' := [.int x3, .ref 0]) (σ' := σ5) hM 2 rfl ?_
      refine Pl.weak (Pl.cZ hM rfl rfl (by decide) (Mj := M_127) rfl rfl (fun w8 σ7 hw hz => ?_))
      replace h := h w8 σ7 hw hz
      refine Pl.br (c := w8 = 0) (a := 51) (b := 33) (ls' := [(4, .int w2), (0, .ref 0), (1, .int x1), (2, .int x2), (3, .int x3)]) (st' := []) (σ' := σ7) hM 1 rfl (fun c => ?_) (fun c => ?_)
      · replace h := h.1 c
        exact Pl.live (l' := []) hM lv_128 ⟨show ndL _ from (by decide : List.Nodup ([4, 0, 1, 2, 3] : List Nat)), show ndL _ from (by decide : List.Nodup ([] : List Nat)), by rw [lva_128_51]; exact fun _ h => absurd h List.not_mem_nil⟩ h
      · replace h := h.2 c
        refine Pl.brN (c := (x1 &&& x2) = 0) (a := 51) (b := 39) (ls' := [(4, .int w2), (0, .ref 0), (1, .int x1), (2, .int x2), (3, .int x3)]) (st' := []) (σ' := σ7) hM 4 rfl (fun c => ?_) (fun c => ?_)
        · replace h := h.2 c
          exact Pl.live (l' := []) hM lv_128 ⟨show ndL _ from (by decide : List.Nodup ([4, 0, 1, 2, 3] : List Nat)), show ndL _ from (by decide : List.Nodup ([] : List Nat)), by rw [lva_128_51]; exact fun _ h => absurd h List.not_mem_nil⟩ h
        · replace h := h.1 c
          refine Pl.brN (c := (x1 &&& x3) = 0) (a := 51) (b := 45) (ls' := [(4, .int w2), (0, .ref 0), (1, .int x1), (2, .int x2), (3, .int x3)]) (st' := []) (σ' := σ7) hM 4 rfl (fun c => ?_) (fun c => ?_)
          · replace h := h.2 c
            exact Pl.live (l' := []) hM lv_128 ⟨show ndL _ from (by decide : List.Nodup ([4, 0, 1, 2, 3] : List Nat)), show ndL _ from (by decide : List.Nodup ([] : List Nat)), by rw [lva_128_51]; exact fun _ h => absurd h List.not_mem_nil⟩ h
          · replace h := h.1 c
            refine Pl.br (c := (x2 &&& x3) = 0) (a := 53) (b := 51) (ls' := [(4, .int w2), (0, .ref 0), (1, .int x1), (2, .int x2), (3, .int x3)]) (st' := []) (σ' := σ7) hM 4 rfl (fun c => ?_) (fun c => ?_)
            · replace h := h.1 c
              refine Pl.seg (pc' := 70) (ls' := [(4, .int w2), (0, .ref 0), (1, .int x1), (2, .int x2), (3, .int x3)]) (st' := [.int (w2 &&& (((x1 ||| x2) ||| x3) ^^^ (-1 : Int32))), .int x3, .int x2, .int x1, .ref 22]) (σ' := σ7) hM 14 rfl ?_
              refine Pl.weak (Pl.cV hM rfl rfl (by decide) (Mj := M_32) rfl rfl (fun σ9 hw => ?_))
              replace h := h σ9 hw
              refine Pl.seg (pc' := 74) (ls' := [(4, .int w2), (0, .ref 0), (1, .int x1), (2, .int x2), (3, .int x3)]) (st' := [.int (1 : Int32)]) (σ' := σ9) hM 1 rfl ?_
              refine Pl.weak (Pl.ret hM rfl rfl h)
            · replace h := h.2 c
              exact Pl.live (l' := []) hM lv_128 ⟨show ndL _ from (by decide : List.Nodup ([4, 0, 1, 2, 3] : List Nat)), show ndL _ from (by decide : List.Nodup ([] : List Nat)), by rw [lva_128_51]; exact fun _ h => absurd h List.not_mem_nil⟩ h
set_option maxRecDepth 100000 in
theorem p_128_51 {n d : Nat} {Q : Option Value → Sg → Prop} (σ : Sg) (h : Q (some (.int (0 : Int32))) σ) : Pl PRG (n + 1) d 128 51 [] [] σ Q := by
  have hM : PRG[128]? = some M_128 := rfl
  refine Pl.sg1 (pc' := 52) (ls' := []) (st' := [.int (0 : Int32)]) (σ' := σ) hM 0 rfl ?_
  refine Pl.weak (Pl.ret hM rfl rfl h)
def LV_129 : List (Nat × List Nat) := [(0, [1]), (1, [1]), (4, [1]), (5, []), (6, []), (9, []), (10, []), (13, []), (14, [])]
set_option maxRecDepth 100000 in
theorem lv_129 : chkLv M_129 LV_129 = true := by decide +kernel
set_option maxRecDepth 100000 in
theorem lva_129_13 : lvA LV_129 13 = [] := by decide +kernel
set_option maxRecDepth 100000 in
theorem p_129_0 {n d : Nat} {Q : Option Value → Sg → Prop} (σ : Sg) (x1 : Int32) (h : ((x1 < 0 → Pl PRG n d 129 13 [] [] σ Q) ∧ (¬ x1 < 0 → (((4 : Int32) ≤ x1 → Pl PRG n d 129 13 [] [] σ Q) ∧ (¬ (4 : Int32) ≤ x1 → Q (some (.int (1 : Int32))) σ))))) : Pl PRG (n + 1) d 129 0 [(0, .ref 0), (1, .int x1)] [] σ Q := by
  have hM : PRG[129]? = some M_129 := rfl
  refine Pl.br1 (c := x1 < 0) (a := 13) (b := 4) (ls' := [(0, .ref 0), (1, .int x1)]) (st' := []) (σ' := σ) hM 1 rfl (fun c => ?_) (fun c => ?_)
  · replace h := h.1 c
    exact Pl.live (l' := []) hM lv_129 ⟨show ndL _ from (by decide : List.Nodup ([0, 1] : List Nat)), show ndL _ from (by decide : List.Nodup ([] : List Nat)), by rw [lva_129_13]; exact fun _ h => absurd h List.not_mem_nil⟩ h
  · replace h := h.2 c
    refine Pl.br (c := (4 : Int32) ≤ x1) (a := 13) (b := 9) (ls' := [(0, .ref 0), (1, .int x1)]) (st' := []) (σ' := σ) hM 3 rfl (fun c => ?_) (fun c => ?_)
    · replace h := h.1 c
      exact Pl.live (l' := []) hM lv_129 ⟨show ndL _ from (by decide : List.Nodup ([0, 1] : List Nat)), show ndL _ from (by decide : List.Nodup ([] : List Nat)), by rw [lva_129_13]; exact fun _ h => absurd h List.not_mem_nil⟩ h
    · replace h := h.2 c
      refine Pl.seg (pc' := 14) (ls' := [(0, .ref 0), (1, .int x1)]) (st' := [.int (1 : Int32)]) (σ' := σ) hM 2 rfl ?_
      refine Pl.weak (Pl.ret hM rfl rfl h)
set_option maxRecDepth 100000 in
theorem p_129_13 {n d : Nat} {Q : Option Value → Sg → Prop} (σ : Sg) (h : Q (some (.int (0 : Int32))) σ) : Pl PRG (n + 1) d 129 13 [] [] σ Q := by
  have hM : PRG[129]? = some M_129 := rfl
  refine Pl.sg1 (pc' := 14) (ls' := []) (st' := [.int (0 : Int32)]) (σ' := σ) hM 0 rfl ?_
  refine Pl.weak (Pl.ret hM rfl rfl h)
def LV_130 : List (Nat × List Nat) := [(0, [0, 1]), (1, [0, 1]), (4, [0, 1]), (7, [0, 1]), (10, [0, 1]), (11, [0, 1]), (14, [0, 1]), (17, [0, 1]), (20, [0, 1]), (21, [0, 1]), (22, [0, 1]), (25, [0, 1]), (28, []), (29, []), (30, [0, 1]), (31, [1]), (34, [1]), (35, []), (38, []), (39, [])]
set_option maxRecDepth 100000 in
theorem lv_130 : chkLv M_130 LV_130 = true := by decide +kernel
set_option maxRecDepth 100000 in
theorem lva_130_28 : lvA LV_130 28 = [] := by decide +kernel
set_option maxRecDepth 100000 in
theorem p_130_0 {n d : Nat} {Q : Option Value → Sg → Prop} (σ : Sg) (x1 : Int32) (h : (((σ.1 22 2) = 0 → Pl PRG n d 130 28 [] [] σ Q) ∧ (¬ (σ.1 22 2) = 0 → ((0 < (σ.1 22 7) → Pl PRG n d 130 28 [] [] σ Q) ∧ (¬ 0 < (σ.1 22 7) → (∀ w2 σ1, RCx PRG n 129 [.ref 0, .int x1] σ (some (.int w2)) σ1 → (w2 = 0 ∨ w2 = 1) → ((w2 = 0 → Pl PRG n d 130 28 [] [] σ1 Q) ∧ (¬ w2 = 0 → (∀ σ3, RCx PRG n 31 [.ref 22, .int x1] σ1 none σ3 → Q (some (.int (1 : Int32))) σ3))))))))) : Pl PRG (n + 1) d 130 0 [(0, .ref 0), (1, .int x1)] [] σ Q := by
  have hM : PRG[130]? = some M_130 := rfl
  refine Pl.br1 (c := (σ.1 22 2) = 0) (a := 28) (b := 10) (ls' := [(0, .ref 0), (1, .int x1)]) (st' := []) (σ' := σ) hM 3 rfl (fun c => ?_) (fun c => ?_)
  · replace h := h.1 c
    exact Pl.live (l' := []) hM lv_130 ⟨show ndL _ from (by decide : List.Nodup ([0, 1] : List Nat)), show ndL _ from (by decide : List.Nodup ([] : List Nat)), by rw [lva_130_28]; exact fun _ h => absurd h List.not_mem_nil⟩ h
  · replace h := h.2 c
    refine Pl.br (c := 0 < (σ.1 22 7)) (a := 28) (b := 20) (ls' := [(0, .ref 0), (1, .int x1)]) (st' := []) (σ' := σ) hM 4 rfl (fun c => ?_) (fun c => ?_)
    · replace h := h.1 c
      exact Pl.live (l' := []) hM lv_130 ⟨show ndL _ from (by decide : List.Nodup ([0, 1] : List Nat)), show ndL _ from (by decide : List.Nodup ([] : List Nat)), by rw [lva_130_28]; exact fun _ h => absurd h List.not_mem_nil⟩ h
    · replace h := h.2 c
      refine Pl.seg (pc' := 22) (ls' := [(0, .ref 0), (1, .int x1)]) (st' := [.int x1, .ref 0]) (σ' := σ) hM 2 rfl ?_
      refine Pl.weak (Pl.cZ hM rfl rfl (by decide) (Mj := M_129) rfl rfl (fun w2 σ1 hw hz => ?_))
      replace h := h w2 σ1 hw hz
      refine Pl.brN (c := w2 = 0) (a := 30) (b := 28) (ls' := [(0, .ref 0), (1, .int x1)]) (st' := []) (σ' := σ1) hM 1 rfl (fun c => ?_) (fun c => ?_)
      · replace h := h.2 c
        refine Pl.seg (pc' := 35) (ls' := [(0, .ref 0), (1, .int x1)]) (st' := [.int x1, .ref 22]) (σ' := σ1) hM 3 rfl ?_
        refine Pl.weak (Pl.cV hM rfl rfl (by decide) (Mj := M_31) rfl rfl (fun σ3 hw => ?_))
        replace h := h σ3 hw
        refine Pl.seg (pc' := 39) (ls' := [(0, .ref 0), (1, .int x1)]) (st' := [.int (1 : Int32)]) (σ' := σ3) hM 1 rfl ?_
        refine Pl.weak (Pl.ret hM rfl rfl h)
      · replace h := h.1 c
        exact Pl.live (l' := []) hM lv_130 ⟨show ndL _ from (by decide : List.Nodup ([0, 1] : List Nat)), show ndL _ from (by decide : List.Nodup ([] : List Nat)), by rw [lva_130_28]; exact fun _ h => absurd h List.not_mem_nil⟩ h
set_option maxRecDepth 100000 in
theorem p_130_28 {n d : Nat} {Q : Option Value → Sg → Prop} (σ : Sg) (h : Q (some (.int (0 : Int32))) σ) : Pl PRG (n + 1) d 130 28 [] [] σ Q := by
  have hM : PRG[130]? = some M_130 := rfl
  refine Pl.sg1 (pc' := 29) (ls' := []) (st' := [.int (0 : Int32)]) (σ' := σ) hM 0 rfl ?_
  refine Pl.weak (Pl.ret hM rfl rfl h)
def LV_131 : List (Nat × List Nat) := [(0, [0, 1, 2]), (1, [0, 1, 2]), (4, [0, 1, 2]), (7, [0, 1, 2]), (10, [0, 1, 2]), (11, [0, 1, 2]), (12, [0, 1, 2]), (15, [0, 1, 2]), (18, []), (19, []), (20, [0, 1, 2]), (21, [0, 1]), (24, [0, 1]), (25, [1]), (28, [1]), (31, [1]), (32, []), (33, []), (36, [0, 1]), (37, [1]), (40, [1]), (43, [1]), (44, []), (45, [])]
set_option maxRecDepth 100000 in
theorem lv_131 : chkLv M_131 LV_131 = true := by decide +kernel
set_option maxRecDepth 100000 in
theorem lva_131_18 : lvA LV_131 18 = [] := by decide +kernel
set_option maxRecDepth 100000 in
theorem p_131_0 {n d : Nat} {Q : Option Value → Sg → Prop} (σ : Sg) (x1 x2 : Int32) (h : (((σ.1 22 2) = 0 → Pl PRG n d 131 18 [] [] σ Q) ∧ (¬ (σ.1 22 2) = 0 → (∀ w2 σ1, RCx PRG n 129 [.ref 0, .int x1] σ (some (.int w2)) σ1 → (w2 = 0 ∨ w2 = 1) → ((w2 = 0 → Pl PRG n d 131 18 [] [] σ1 Q) ∧ (¬ w2 = 0 → ((x2 = 0 → (inR x1 4 = true → Q (some (.int (σ1.1 24 x1.toNatClampNeg))) σ1)) ∧ (¬ x2 = 0 → (inR x1 4 = true → Q (some (.int (σ1.1 23 x1.toNatClampNeg))) σ1))))))))) : Pl PRG (n + 1) d 131 0 [(0, .ref 0), (1, .int x1), (2, .int x2)] [] σ Q := by
  have hM : PRG[131]? = some M_131 := rfl
  refine Pl.br1 (c := (σ.1 22 2) = 0) (a := 18) (b := 10) (ls' := [(0, .ref 0), (1, .int x1), (2, .int x2)]) (st' := []) (σ' := σ) hM 3 rfl (fun c => ?_) (fun c => ?_)
  · replace h := h.1 c
    exact Pl.live (l' := []) hM lv_131 ⟨show ndL _ from (by decide : List.Nodup ([0, 1, 2] : List Nat)), show ndL _ from (by decide : List.Nodup ([] : List Nat)), by rw [lva_131_18]; exact fun _ h => absurd h List.not_mem_nil⟩ h
  · replace h := h.2 c
    refine Pl.seg (pc' := 12) (ls' := [(0, .ref 0), (1, .int x1), (2, .int x2)]) (st' := [.int x1, .ref 0]) (σ' := σ) hM 2 rfl ?_
    refine Pl.weak (Pl.cZ hM rfl rfl (by decide) (Mj := M_129) rfl rfl (fun w2 σ1 hw hz => ?_))
    replace h := h w2 σ1 hw hz
    refine Pl.brN (c := w2 = 0) (a := 20) (b := 18) (ls' := [(0, .ref 0), (1, .int x1), (2, .int x2)]) (st' := []) (σ' := σ1) hM 1 rfl (fun c => ?_) (fun c => ?_)
    · replace h := h.2 c
      refine Pl.br (c := x2 = 0) (a := 36) (b := 24) (ls' := [(0, .ref 0), (1, .int x1), (2, .int x2)]) (st' := []) (σ' := σ1) hM 2 rfl (fun c => ?_) (fun c => ?_)
      · replace h := h.1 c
        refine Pl.seg (pc' := 44) (ls' := [(0, .ref 0), (1, .int x1), (2, .int x2)]) (st' := [.int x1, .ref 24]) (σ' := σ1) hM 4 rfl ?_
        refine Pl.weak (Pl.iald hM rfl rfl (fun hi => ?_))
        replace h := h hi
        refine Pl.weak (Pl.ret hM rfl rfl h)
      · replace h := h.2 c
        refine Pl.seg (pc' := 32) (ls' := [(0, .ref 0), (1, .int x1), (2, .int x2)]) (st' := [.int x1, .ref 23]) (σ' := σ1) hM 4 rfl ?_
        refine Pl.weak (Pl.iald hM rfl rfl (fun hi => ?_))
        replace h := h hi
        refine Pl.seg (pc' := 45) (ls' := [(0, .ref 0), (1, .int x1), (2, .int x2)]) (st' := [.int (σ1.1 23 x1.toNatClampNeg)]) (σ' := σ1) hM 1 rfl ?_
        refine Pl.weak (Pl.ret hM rfl rfl h)
    · replace h := h.1 c
      exact Pl.live (l' := []) hM lv_131 ⟨show ndL _ from (by decide : List.Nodup ([0, 1, 2] : List Nat)), show ndL _ from (by decide : List.Nodup ([] : List Nat)), by rw [lva_131_18]; exact fun _ h => absurd h List.not_mem_nil⟩ h
set_option maxRecDepth 100000 in
theorem p_131_18 {n d : Nat} {Q : Option Value → Sg → Prop} (σ : Sg) (h : Q (some (.int (-1 : Int32))) σ) : Pl PRG (n + 1) d 131 18 [] [] σ Q := by
  have hM : PRG[131]? = some M_131 := rfl
  refine Pl.sg1 (pc' := 19) (ls' := []) (st' := [.int (-1 : Int32)]) (σ' := σ) hM 0 rfl ?_
  refine Pl.weak (Pl.ret hM rfl rfl h)
set_option maxRecDepth 100000 in
theorem p_132_0 {n d : Nat} {Q : Option Value → Sg → Prop} (σ : Sg) (h : Q (some (.int (σ.1 22 6))) σ) : Pl PRG (n + 1) d 132 0 [(0, .ref 0)] [] σ Q := by
  have hM : PRG[132]? = some M_132 := rfl
  refine Pl.sg1 (pc' := 7) (ls' := [(0, .ref 0)]) (st' := [.int (σ.1 22 6)]) (σ' := σ) hM 2 rfl ?_
  refine Pl.weak (Pl.ret hM rfl rfl h)
set_option maxRecDepth 100000 in
theorem p_133_0 {n d : Nat} {Q : Option Value → Sg → Prop} (σ : Sg) (h : (∀ w2 σ1, RCx PRG n 35 [.ref 22] σ (some (.int w2)) σ1 → Q (some (.int w2)) σ1)) : Pl PRG (n + 1) d 133 0 [(0, .ref 0)] [] σ Q := by
  have hM : PRG[133]? = some M_133 := rfl
  refine Pl.sg1 (pc' := 4) (ls' := [(0, .ref 0)]) (st' := [.ref 22]) (σ' := σ) hM 1 rfl ?_
  refine Pl.weak (Pl.cI hM rfl rfl (by decide) (Mj := M_35) rfl rfl (fun w2 σ1 hw => ?_))
  replace h := h w2 σ1 hw
  refine Pl.weak (Pl.ret hM rfl rfl h)
def LV_134 : List (Nat × List Nat) := [(0, [0, 1]), (1, [0, 1]), (4, [0, 1]), (5, [0]), (6, []), (9, []), (12, []), (15, []), (16, []), (19, []), (20, [])]
set_option maxRecDepth 100000 in
theorem lv_134 : chkLv M_134 LV_134 = true := by decide +kernel
set_option maxRecDepth 100000 in
theorem lva_134_19 : lvA LV_134 19 = [] := by decide +kernel
set_option maxRecDepth 100000 in
theorem p_134_0 {n d : Nat} {Q : Option Value → Sg → Prop} (σ : Sg) (x1 : Int32) (h : ((x1 < 0 → Pl PRG n d 134 19 [] [] σ Q) ∧ (¬ x1 < 0 → (((σ.1 3 10) ≤ x1 → Pl PRG n d 134 19 [] [] σ Q) ∧ (¬ (σ.1 3 10) ≤ x1 → Q (some (.int (1 : Int32))) σ))))) : Pl PRG (n + 1) d 134 0 [(0, .ref 0), (1, .int x1)] [] σ Q := by
  have hM : PRG[134]? = some M_134 := rfl
  refine Pl.br1 (c := x1 < 0) (a := 19) (b := 4) (ls' := [(0, .ref 0), (1, .int x1)]) (st' := []) (σ' := σ) hM 1 rfl (fun c => ?_) (fun c => ?_)
  · replace h := h.1 c
    exact Pl.live (l' := []) hM lv_134 ⟨show ndL _ from (by decide : List.Nodup ([0, 1] : List Nat)), show ndL _ from (by decide : List.Nodup ([] : List Nat)), by rw [lva_134_19]; exact fun _ h => absurd h List.not_mem_nil⟩ h
  · replace h := h.2 c
    refine Pl.br (c := (σ.1 3 10) ≤ x1) (a := 19) (b := 15) (ls' := [(0, .ref 0), (1, .int x1)]) (st' := []) (σ' := σ) hM 5 rfl (fun c => ?_) (fun c => ?_)
    · replace h := h.1 c
      exact Pl.live (l' := []) hM lv_134 ⟨show ndL _ from (by decide : List.Nodup ([0, 1] : List Nat)), show ndL _ from (by decide : List.Nodup ([] : List Nat)), by rw [lva_134_19]; exact fun _ h => absurd h List.not_mem_nil⟩ h
    · replace h := h.2 c
      refine Pl.seg (pc' := 20) (ls' := [(0, .ref 0), (1, .int x1)]) (st' := [.int (1 : Int32)]) (σ' := σ) hM 2 rfl ?_
      refine Pl.weak (Pl.ret hM rfl rfl h)
set_option maxRecDepth 100000 in
theorem p_134_19 {n d : Nat} {Q : Option Value → Sg → Prop} (σ : Sg) (h : Q (some (.int (0 : Int32))) σ) : Pl PRG (n + 1) d 134 19 [] [] σ Q := by
  have hM : PRG[134]? = some M_134 := rfl
  refine Pl.sg1 (pc' := 20) (ls' := []) (st' := [.int (0 : Int32)]) (σ' := σ) hM 0 rfl ?_
  refine Pl.weak (Pl.ret hM rfl rfl h)
def LV_135 : List (Nat × List Nat) := [(0, [0, 1]), (1, [0, 1]), (4, [0, 1]), (7, [0, 1]), (10, [0, 1]), (11, [0, 1]), (12, [0, 1]), (15, [0, 1]), (18, [0, 1]), (19, [0, 1]), (22, [0, 1]), (25, [0, 1]), (26, [1]), (29, [1]), (32, [1]), (33, [1]), (34, []), (35, []), (36, []), (37, []), (40, []), (41, []), (44, []), (45, [])]
set_option maxRecDepth 100000 in
theorem lv_135 : chkLv M_135 LV_135 = true := by decide +kernel
set_option maxRecDepth 100000 in
theorem lva_135_44 : lvA LV_135 44 = [] := by decide +kernel
set_option maxRecDepth 100000 in
theorem p_135_0 {n d : Nat} {Q : Option Value → Sg → Prop} (σ : Sg) (x1 : Int32) (h : (((σ.1 22 6) < 0 → Pl PRG n d 135 44 [] [] σ Q) ∧ (¬ (σ.1 22 6) < 0 → (∀ w2 σ1, RCx PRG n 134 [.ref 0, .int x1] σ (some (.int w2)) σ1 → (w2 = 0 ∨ w2 = 1) → ((w2 = 0 → Pl PRG n d 135 44 [] [] σ1 Q) ∧ (¬ w2 = 0 → (inR (σ1.1 22 6) 4 = true → (((((σ1.1 24 (σ1.1 22 6).toNatClampNeg) >>> (x1 &&& 31)) &&& (1 : Int32)) = 0 → Pl PRG n d 135 44 [] [] σ1 Q) ∧ (¬ (((σ1.1 24 (σ1.1 22 6).toNatClampNeg) >>> (x1 &&& 31)) &&& (1 : Int32)) = 0 → Q (some (.int (1 : Int32))) σ1))))))))) : Pl PRG (n + 1) d 135 0 [(0, .ref 0), (1, .int x1)] [] σ Q := by
  have hM : PRG[135]? = some M_135 := rfl
  refine Pl.br1 (c := (σ.1 22 6) < 0) (a := 44) (b := 10) (ls' := [(0, .ref 0), (1, .int x1)]) (st' := []) (σ' := σ) hM 3 rfl (fun c => ?_) (fun c => ?_)
  · replace h := h.1 c
    exact Pl.live (l' := []) hM lv_135 ⟨show ndL _ from (by decide : List.Nodup ([0, 1] : List Nat)), show ndL _ from (by decide : List.Nodup ([] : List Nat)), by rw [lva_135_44]; exact fun _ h => absurd h List.not_mem_nil⟩ h
  · replace h := h.2 c
    refine Pl.seg (pc' := 12) (ls' := [(0, .ref 0), (1, .int x1)]) (st' := [.int x1, .ref 0]) (σ' := σ) hM 2 rfl ?_
    refine Pl.weak (Pl.cZ hM rfl rfl (by decide) (Mj := M_134) rfl rfl (fun w2 σ1 hw hz => ?_))
    replace h := h w2 σ1 hw hz
    refine Pl.br (c := w2 = 0) (a := 44) (b := 18) (ls' := [(0, .ref 0), (1, .int x1)]) (st' := []) (σ' := σ1) hM 1 rfl (fun c => ?_) (fun c => ?_)
    · replace h := h.1 c
      exact Pl.live (l' := []) hM lv_135 ⟨show ndL _ from (by decide : List.Nodup ([0, 1] : List Nat)), show ndL _ from (by decide : List.Nodup ([] : List Nat)), by rw [lva_135_44]; exact fun _ h => absurd h List.not_mem_nil⟩ h
    · replace h := h.2 c
      refine Pl.seg (pc' := 32) (ls' := [(0, .ref 0), (1, .int x1)]) (st' := [.int (σ1.1 22 6), .ref 24]) (σ' := σ1) hM 6 rfl ?_
      refine Pl.weak (Pl.iald hM rfl rfl (fun hi => ?_))
      replace h := h hi
      refine Pl.br (c := (((σ1.1 24 (σ1.1 22 6).toNatClampNeg) >>> (x1 &&& 31)) &&& (1 : Int32)) = 0) (a := 44) (b := 40) (ls' := [(0, .ref 0), (1, .int x1)]) (st' := []) (σ' := σ1) hM 5 rfl (fun c => ?_) (fun c => ?_)
      · replace h := h.1 c
        exact Pl.live (l' := []) hM lv_135 ⟨show ndL _ from (by decide : List.Nodup ([0, 1] : List Nat)), show ndL _ from (by decide : List.Nodup ([] : List Nat)), by rw [lva_135_44]; exact fun _ h => absurd h List.not_mem_nil⟩ h
      · replace h := h.2 c
        refine Pl.seg (pc' := 45) (ls' := [(0, .ref 0), (1, .int x1)]) (st' := [.int (1 : Int32)]) (σ' := σ1) hM 2 rfl ?_
        refine Pl.weak (Pl.ret hM rfl rfl h)
set_option maxRecDepth 100000 in
theorem p_135_44 {n d : Nat} {Q : Option Value → Sg → Prop} (σ : Sg) (h : Q (some (.int (0 : Int32))) σ) : Pl PRG (n + 1) d 135 44 [] [] σ Q := by
  have hM : PRG[135]? = some M_135 := rfl
  refine Pl.sg1 (pc' := 45) (ls' := []) (st' := [.int (0 : Int32)]) (σ' := σ) hM 0 rfl ?_
  refine Pl.weak (Pl.ret hM rfl rfl h)
set_option maxRecDepth 100000 in
theorem p_136_0 {n d : Nat} {Q : Option Value → Sg → Prop} (σ : Sg) (x1 : Int32) (h : (∀ w2 σ1, RCx PRG n 135 [.ref 0, .int x1] σ (some (.int w2)) σ1 → (w2 = 0 ∨ w2 = 1) → ((w2 = 0 → Q (some (.int (-1 : Int32))) σ1) ∧ (¬ w2 = 0 → (∀ w4 σ3, RCx PRG n 35 [.ref 22] σ1 (some (.int w4)) σ3 → ((((w4 >>> (x1 &&& 31)) &&& (1 : Int32)) = 0 → Q (some (.int (-2 : Int32))) σ3) ∧ (¬ ((w4 >>> (x1 &&& 31)) &&& (1 : Int32)) = 0 → (∀ σ5, RCx PRG n 63 [.ref 22, .int x1] σ3 none σ5 → Q (some (.int (σ5.1 22 7))) σ5)))))))) : Pl PRG (n + 1) d 136 0 [(0, .ref 0), (1, .int x1)] [] σ Q := by
  have hM : PRG[136]? = some M_136 := rfl
  refine Pl.sg1 (pc' := 2) (ls' := [(0, .ref 0), (1, .int x1)]) (st' := [.int x1, .ref 0]) (σ' := σ) hM 1 rfl ?_
  refine Pl.weak (Pl.cZ hM rfl rfl (by decide) (Mj := M_135) rfl rfl (fun w2 σ1 hw hz => ?_))
  replace h := h w2 σ1 hw hz
  refine Pl.brN (c := w2 = 0) (a := 10) (b := 8) (ls' := [(0, .ref 0), (1, .int x1)]) (st' := []) (σ' := σ1) hM 1 rfl (fun c => ?_) (fun c => ?_)
  · replace h := h.2 c
    refine Pl.seg (pc' := 14) (ls' := [(0, .ref 0), (1, .int x1)]) (st' := [.ref 22]) (σ' := σ1) hM 2 rfl ?_
    refine Pl.weak (Pl.cI hM rfl rfl (by decide) (Mj := M_35) rfl rfl (fun w4 σ3 hw => ?_))
    replace h := h w4 σ3 hw
    refine Pl.brN (c := ((w4 >>> (x1 &&& 31)) &&& (1 : Int32)) = 0) (a := 27) (b := 24) (ls' := [(0, .ref 0), (1, .int x1)]) (st' := []) (σ' := σ3) hM 5 rfl (fun c => ?_) (fun c => ?_)
    · replace h := h.2 c
      refine Pl.seg (pc' := 32) (ls' := [(0, .ref 0), (1, .int x1)]) (st' := [.int x1, .ref 22]) (σ' := σ3) hM 3 rfl ?_
      refine Pl.weak (Pl.cV hM rfl rfl (by decide) (Mj := M_63) rfl rfl (fun σ5 hw => ?_))
      replace h := h σ5 hw
      refine Pl.seg (pc' := 42) (ls' := [(0, .ref 0), (1, .int x1)]) (st' := [.int (σ5.1 22 7)]) (σ' := σ5) hM 3 rfl ?_
      refine Pl.weak (Pl.ret hM rfl rfl h)
    · replace h := h.1 c
      refine Pl.seg (pc' := 26) (ls' := [(0, .ref 0), (1, .int x1)]) (st' := [.int (-2 : Int32)]) (σ' := σ3) hM 1 rfl ?_
      refine Pl.weak (Pl.ret hM rfl rfl h)
  · replace h := h.1 c
    refine Pl.seg (pc' := 9) (ls' := [(0, .ref 0), (1, .int x1)]) (st' := [.int (-1 : Int32)]) (σ' := σ1) hM 1 rfl ?_
    refine Pl.weak (Pl.ret hM rfl rfl h)
set_option maxRecDepth 100000 in
theorem p_137_0 {n d : Nat} {Q : Option Value → Sg → Prop} (σ : Sg) (x1 : Int32) (h : (∀ w2 σ1, RCx PRG n 135 [.ref 0, .int x1] σ (some (.int w2)) σ1 → (w2 = 0 ∨ w2 = 1) → ((w2 = 0 → Q (some (.int (-1 : Int32))) σ1) ∧ (¬ w2 = 0 → (∀ σ3, RCx PRG n 63 [.ref 22, .int x1] σ1 none σ3 → Q (some (.int (σ3.1 22 7))) σ3))))) : Pl PRG (n + 1) d 137 0 [(0, .ref 0), (1, .int x1)] [] σ Q := by
  have hM : PRG[137]? = some M_137 := rfl
  refine Pl.sg1 (pc' := 2) (ls' := [(0, .ref 0), (1, .int x1)]) (st' := [.int x1, .ref 0]) (σ' := σ) hM 1 rfl ?_
  refine Pl.weak (Pl.cZ hM rfl rfl (by decide) (Mj := M_135) rfl rfl (fun w2 σ1 hw hz => ?_))
  replace h := h w2 σ1 hw hz
  refine Pl.brN (c := w2 = 0) (a := 10) (b := 8) (ls' := [(0, .ref 0), (1, .int x1)]) (st' := []) (σ' := σ1) hM 1 rfl (fun c => ?_) (fun c => ?_)
  · replace h := h.2 c
    refine Pl.seg (pc' := 15) (ls' := [(0, .ref 0), (1, .int x1)]) (st' := [.int x1, .ref 22]) (σ' := σ1) hM 3 rfl ?_
    refine Pl.weak (Pl.cV hM rfl rfl (by decide) (Mj := M_63) rfl rfl (fun σ3 hw => ?_))
    replace h := h σ3 hw
    refine Pl.seg (pc' := 25) (ls' := [(0, .ref 0), (1, .int x1)]) (st' := [.int (σ3.1 22 7)]) (σ' := σ3) hM 3 rfl ?_
    refine Pl.weak (Pl.ret hM rfl rfl h)
  · replace h := h.1 c
    refine Pl.seg (pc' := 9) (ls' := [(0, .ref 0), (1, .int x1)]) (st' := [.int (-1 : Int32)]) (σ' := σ1) hM 1 rfl ?_
    refine Pl.weak (Pl.ret hM rfl rfl h)
set_option maxRecDepth 100000 in
theorem p_138_0 {n d : Nat} {Q : Option Value → Sg → Prop} (σ : Sg) (h : (((σ.1 22 7) = 0 → Q (some (.int (-1 : Int32))) σ) ∧ (¬ (σ.1 22 7) = 0 → (∀ σ1, RCx PRG n 69 [.ref 22] σ none σ1 → Q (some (.int (σ1.1 22 7))) σ1)))) : Pl PRG (n + 1) d 138 0 [(0, .ref 0)] [] σ Q := by
  have hM : PRG[138]? = some M_138 := rfl
  refine Pl.brN1 (c := (σ.1 22 7) = 0) (a := 12) (b := 10) (ls' := [(0, .ref 0)]) (st' := []) (σ' := σ) hM 3 rfl (fun c => ?_) (fun c => ?_)
  · replace h := h.2 c
    refine Pl.seg (pc' := 16) (ls' := [(0, .ref 0)]) (st' := [.ref 22]) (σ' := σ) hM 2 rfl ?_
    refine Pl.weak (Pl.cV hM rfl rfl (by decide) (Mj := M_69) rfl rfl (fun σ1 hw => ?_))
    replace h := h σ1 hw
    refine Pl.seg (pc' := 26) (ls' := [(0, .ref 0)]) (st' := [.int (σ1.1 22 7)]) (σ' := σ1) hM 3 rfl ?_
    refine Pl.weak (Pl.ret hM rfl rfl h)
  · replace h := h.1 c
    refine Pl.seg (pc' := 11) (ls' := [(0, .ref 0)]) (st' := [.int (-1 : Int32)]) (σ' := σ) hM 1 rfl ?_
    refine Pl.weak (Pl.ret hM rfl rfl h)
def LV_139 : List (Nat × List Nat) := [(0, [0, 1, 2]), (1, [0, 1, 2]), (4, [0, 1, 2]), (5, [0, 1, 2]), (6, [0, 1, 2]), (9, [0, 1, 2]), (12, [0, 1, 2]), (15, []), (16, []), (17, [0, 1, 2]), (18, [0, 1]), (56, [0, 1]), (57, [1]), (60, [1]), (63, [1]), (64, []), (65, []), (66, [0, 1]), (67, [1]), (70, [1]), (73, [1]), (74, []), (75, []), (76, [0, 1]), (77, [1]), (80, [1]), (83, [1]), (84, []), (85, []), (86, [0, 1]), (87, [1]), (90, [1]), (93, [1]), (94, []), (95, []), (96, [0, 1]), (97, [1]), (100, [1]), (103, [1]), (104, []), (105, []), (106, [0, 1]), (107, [1]), (110, [1]), (111, []), (114, []), (115, []), (116, [])]
set_option maxRecDepth 100000 in
theorem lv_139 : chkLv M_139 LV_139 = true := by decide +kernel
set_option maxRecDepth 100000 in
theorem lva_139_15 : lvA LV_139 15 = [] := by decide +kernel
set_option maxRecDepth 100000 in
theorem p_139_0 {n d : Nat} {Q : Option Value → Sg → Prop} (σ : Sg) (x1 x2 : Int32) (h : ((x1 < 0 → Pl PRG n d 139 15 [] [] σ Q) ∧ (¬ x1 < 0 → ((x1 < (σ.1 22 7) → ((x2.toInt < 0 ∨ 5 < x2.toInt → Q (some (.int (-1 : Int32))) σ) ∧ (x2.toInt = 0 → (inR x1 16 = true → Q (some (.int (σ.1 25 x1.toNatClampNeg))) σ)) ∧ (x2.toInt = 1 → (inR x1 16 = true → Q (some (.int (σ.1 26 x1.toNatClampNeg))) σ)) ∧ (x2.toInt = 2 → (inR x1 16 = true → Q (some (.int (σ.1 27 x1.toNatClampNeg))) σ)) ∧ (x2.toInt = 3 → (inR x1 16 = true → Q (some (.int (σ.1 29 x1.toNatClampNeg))) σ)) ∧ (x2.toInt = 4 → (inR x1 16 = true → Q (some (.int (σ.1 30 x1.toNatClampNeg))) σ)) ∧ (x2.toInt = 5 → (∀ w2 σ1, RCx PRG n 70 [.ref 22, .int x1] σ (some (.int w2)) σ1 → Q (some (.int w2)) σ1)))) ∧ (¬ x1 < (σ.1 22 7) → Pl PRG n d 139 15 [] [] σ Q))))) : Pl PRG (n + 1) d 139 0 [(0, .ref 0), (1, .int x1), (2, .int x2)] [] σ Q := by
  have hM : PRG[139]? = some M_139 := rfl
  refine Pl.br1 (c := x1 < 0) (a := 15) (b := 4) (ls' := [(0, .ref 0), (1, .int x1), (2, .int x2)]) (st' := []) (σ' := σ) hM 1 rfl (fun c => ?_) (fun c => ?_)
  · replace h := h.1 c
    exact Pl.live (l' := []) hM lv_139 ⟨show ndL _ from (by decide : List.Nodup ([0, 1, 2] : List Nat)), show ndL _ from (by decide : List.Nodup ([] : List Nat)), by rw [lva_139_15]; exact fun _ h => absurd h List.not_mem_nil⟩ h
  · replace h := h.2 c
    refine Pl.br (c := x1 < (σ.1 22 7)) (a := 17) (b := 15) (ls' := [(0, .ref 0), (1, .int x1), (2, .int x2)]) (st' := []) (σ' := σ) hM 5 rfl (fun c => ?_) (fun c => ?_)
    · replace h := h.1 c
      refine Pl.seg (pc' := 18) (ls' := [(0, .ref 0), (1, .int x1), (2, .int x2)]) (st' := [.int x2]) (σ' := σ) hM 1 rfl ?_
      refine Pl.weak (Pl.tsw hM rfl (fun c => ?_) (fun j o c ho => ?_))
      · replace h := h.1 c
        show Pl PRG n d 139 115 [(0, .ref 0), (1, .int x1), (2, .int x2)] [] σ Q
        refine Pl.seg (pc' := 116) (ls' := [(0, .ref 0), (1, .int x1), (2, .int x2)]) (st' := [.int (-1 : Int32)]) (σ' := σ) hM 1 rfl ?_
        refine Pl.weak (Pl.ret hM rfl rfl h)
      · match j, c, ho with
        | 0, c, ho =>
          have ho : some (38 : Int) = some o := ho
          cases ho
          have c : x2.toInt = 0 := by simpa using c
          replace h := h.2.1 c
          show Pl PRG n d 139 56 [(0, .ref 0), (1, .int x1), (2, .int x2)] [] σ Q
          refine Pl.seg (pc' := 64) (ls' := [(0, .ref 0), (1, .int x1), (2, .int x2)]) (st' := [.int x1, .ref 25]) (σ' := σ) hM 4 rfl ?_
          refine Pl.weak (Pl.iald hM rfl rfl (fun hi => ?_))
          replace h := h hi
          refine Pl.weak (Pl.ret hM rfl rfl h)
        | 1, c, ho =>
          have ho : some (48 : Int) = some o := ho
          cases ho
          have c : x2.toInt = 1 := by simpa using c
          replace h := h.2.2.1 c
          show Pl PRG n d 139 66 [(0, .ref 0), (1, .int x1), (2, .int x2)] [] σ Q
          refine Pl.seg (pc' := 74) (ls' := [(0, .ref 0), (1, .int x1), (2, .int x2)]) (st' := [.int x1, .ref 26]) (σ' := σ) hM 4 rfl ?_
          refine Pl.weak (Pl.iald hM rfl rfl (fun hi => ?_))
          replace h := h hi
          refine Pl.weak (Pl.ret hM rfl rfl h)
        | 2, c, ho =>
          have ho : some (58 : Int) = some o := ho
          cases ho
          have c : x2.toInt = 2 := by simpa using c
          replace h := h.2.2.2.1 c
          show Pl PRG n d 139 76 [(0, .ref 0), (1, .int x1), (2, .int x2)] [] σ Q
          refine Pl.seg (pc' := 84) (ls' := [(0, .ref 0), (1, .int x1), (2, .int x2)]) (st' := [.int x1, .ref 27]) (σ' := σ) hM 4 rfl ?_
          refine Pl.weak (Pl.iald hM rfl rfl (fun hi => ?_))
          replace h := h hi
          refine Pl.weak (Pl.ret hM rfl rfl h)
        | 3, c, ho =>
          have ho : some (68 : Int) = some o := ho
          cases ho
          have c : x2.toInt = 3 := by simpa using c
          replace h := h.2.2.2.2.1 c
          show Pl PRG n d 139 86 [(0, .ref 0), (1, .int x1), (2, .int x2)] [] σ Q
          refine Pl.seg (pc' := 94) (ls' := [(0, .ref 0), (1, .int x1), (2, .int x2)]) (st' := [.int x1, .ref 29]) (σ' := σ) hM 4 rfl ?_
          refine Pl.weak (Pl.iald hM rfl rfl (fun hi => ?_))
          replace h := h hi
          refine Pl.weak (Pl.ret hM rfl rfl h)
        | 4, c, ho =>
          have ho : some (78 : Int) = some o := ho
          cases ho
          have c : x2.toInt = 4 := by simpa using c
          replace h := h.2.2.2.2.2.1 c
          show Pl PRG n d 139 96 [(0, .ref 0), (1, .int x1), (2, .int x2)] [] σ Q
          refine Pl.seg (pc' := 104) (ls' := [(0, .ref 0), (1, .int x1), (2, .int x2)]) (st' := [.int x1, .ref 30]) (σ' := σ) hM 4 rfl ?_
          refine Pl.weak (Pl.iald hM rfl rfl (fun hi => ?_))
          replace h := h hi
          refine Pl.weak (Pl.ret hM rfl rfl h)
        | 5, c, ho =>
          have ho : some (88 : Int) = some o := ho
          cases ho
          have c : x2.toInt = 5 := by simpa using c
          replace h := h.2.2.2.2.2.2 c
          show Pl PRG n d 139 106 [(0, .ref 0), (1, .int x1), (2, .int x2)] [] σ Q
          refine Pl.seg (pc' := 111) (ls' := [(0, .ref 0), (1, .int x1), (2, .int x2)]) (st' := [.int x1, .ref 22]) (σ' := σ) hM 3 rfl ?_
          refine Pl.weak (Pl.cI hM rfl rfl (by decide) (Mj := M_70) rfl rfl (fun w2 σ1 hw => ?_))
          replace h := h w2 σ1 hw
          refine Pl.weak (Pl.ret hM rfl rfl h)
        | k + 6, c, ho => exact absurd ho (by intro e; have e : (none : Option Int) = some o := e; cases e)
    · replace h := h.2 c
      exact Pl.live (l' := []) hM lv_139 ⟨show ndL _ from (by decide : List.Nodup ([0, 1, 2] : List Nat)), show ndL _ from (by decide : List.Nodup ([] : List Nat)), by rw [lva_139_15]; exact fun _ h => absurd h List.not_mem_nil⟩ h
set_option maxRecDepth 100000 in
theorem p_139_15 {n d : Nat} {Q : Option Value → Sg → Prop} (σ : Sg) (h : Q (some (.int (-1 : Int32))) σ) : Pl PRG (n + 1) d 139 15 [] [] σ Q := by
  have hM : PRG[139]? = some M_139 := rfl
  refine Pl.sg1 (pc' := 16) (ls' := []) (st' := [.int (-1 : Int32)]) (σ' := σ) hM 0 rfl ?_
  refine Pl.weak (Pl.ret hM rfl rfl h)
def LV_140 : List (Nat × List Nat) := [(0, [0, 1]), (1, [0, 1]), (4, [0, 1]), (5, [0, 1]), (6, [0, 1]), (9, []), (10, []), (13, [0, 1]), (14, [1]), (17, [1]), (18, []), (21, [])]
set_option maxRecDepth 100000 in
theorem lv_140 : chkLv M_140 LV_140 = true := by decide +kernel
set_option maxRecDepth 100000 in
theorem lva_140_9 : lvA LV_140 9 = [] := by decide +kernel
set_option maxRecDepth 100000 in
theorem p_140_0 {n d : Nat} {Q : Option Value → Sg → Prop} (σ : Sg) (x1 : Int32) (h : ((x1 < 0 → Pl PRG n d 140 9 [] [] σ Q) ∧ (¬ x1 < 0 → ((x1 ≤ (1 : Int32) → (∀ w2 σ1, RCx PRG n 64 [.ref 22, .int x1] σ (some (.int w2)) σ1 → Q (some (.int w2)) σ1)) ∧ (¬ x1 ≤ (1 : Int32) → Pl PRG n d 140 9 [] [] σ Q))))) : Pl PRG (n + 1) d 140 0 [(0, .ref 0), (1, .int x1)] [] σ Q := by
  have hM : PRG[140]? = some M_140 := rfl
  refine Pl.br1 (c := x1 < 0) (a := 9) (b := 4) (ls' := [(0, .ref 0), (1, .int x1)]) (st' := []) (σ' := σ) hM 1 rfl (fun c => ?_) (fun c => ?_)
  · replace h := h.1 c
    exact Pl.live (l' := []) hM lv_140 ⟨show ndL _ from (by decide : List.Nodup ([0, 1] : List Nat)), show ndL _ from (by decide : List.Nodup ([] : List Nat)), by rw [lva_140_9]; exact fun _ h => absurd h List.not_mem_nil⟩ h
  · replace h := h.2 c
    refine Pl.br (c := x1 ≤ (1 : Int32)) (a := 13) (b := 9) (ls' := [(0, .ref 0), (1, .int x1)]) (st' := []) (σ' := σ) hM 3 rfl (fun c => ?_) (fun c => ?_)
    · replace h := h.1 c
      refine Pl.seg (pc' := 18) (ls' := [(0, .ref 0), (1, .int x1)]) (st' := [.int x1, .ref 22]) (σ' := σ) hM 3 rfl ?_
      refine Pl.weak (Pl.cI hM rfl rfl (by decide) (Mj := M_64) rfl rfl (fun w2 σ1 hw => ?_))
      replace h := h w2 σ1 hw
      refine Pl.weak (Pl.ret hM rfl rfl h)
    · replace h := h.2 c
      exact Pl.live (l' := []) hM lv_140 ⟨show ndL _ from (by decide : List.Nodup ([0, 1] : List Nat)), show ndL _ from (by decide : List.Nodup ([] : List Nat)), by rw [lva_140_9]; exact fun _ h => absurd h List.not_mem_nil⟩ h
set_option maxRecDepth 100000 in
theorem p_140_9 {n d : Nat} {Q : Option Value → Sg → Prop} (σ : Sg) (h : Q (some (.int (-1 : Int32))) σ) : Pl PRG (n + 1) d 140 9 [] [] σ Q := by
  have hM : PRG[140]? = some M_140 := rfl
  refine Pl.sg1 (pc' := 21) (ls' := []) (st' := [.int (-1 : Int32)]) (σ' := σ) hM 1 rfl ?_
  refine Pl.weak (Pl.ret hM rfl rfl h)
def LV_141 : List (Nat × List Nat) := [(0, [0, 1]), (1, [0, 1]), (4, [0, 1]), (5, [0, 1]), (6, [0, 1]), (9, [0, 1]), (12, [0, 1]), (13, [0, 1]), (14, [0, 1]), (17, []), (18, []), (21, [0, 1]), (22, [1]), (25, [1]), (28, [1]), (29, []), (30, [])]
set_option maxRecDepth 100000 in
theorem lv_141 : chkLv M_141 LV_141 = true := by decide +kernel
set_option maxRecDepth 100000 in
theorem lva_141_17 : lvA LV_141 17 = [] := by decide +kernel
set_option maxRecDepth 100000 in
theorem p_141_0 {n d : Nat} {Q : Option Value → Sg → Prop} (σ : Sg) (x1 : Int32) (h : ((x1 < 0 → Pl PRG n d 141 17 [] [] σ Q) ∧ (¬ x1 < 0 → ((x1 < ((σ.1 22 7) / (4 : Int32)) → (inR x1 4 = true → Q (some (.int (σ.1 33 x1.toNatClampNeg))) σ)) ∧ (¬ x1 < ((σ.1 22 7) / (4 : Int32)) → Pl PRG n d 141 17 [] [] σ Q))))) : Pl PRG (n + 1) d 141 0 [(0, .ref 0), (1, .int x1)] [] σ Q := by
  have hM : PRG[141]? = some M_141 := rfl
  refine Pl.br1 (c := x1 < 0) (a := 17) (b := 4) (ls' := [(0, .ref 0), (1, .int x1)]) (st' := []) (σ' := σ) hM 1 rfl (fun c => ?_) (fun c => ?_)
  · replace h := h.1 c
    exact Pl.live (l' := []) hM lv_141 ⟨show ndL _ from (by decide : List.Nodup ([0, 1] : List Nat)), show ndL _ from (by decide : List.Nodup ([] : List Nat)), by rw [lva_141_17]; exact fun _ h => absurd h List.not_mem_nil⟩ h
  · replace h := h.2 c
    refine Pl.br (c := x1 < ((σ.1 22 7) / (4 : Int32))) (a := 21) (b := 17) (ls' := [(0, .ref 0), (1, .int x1)]) (st' := []) (σ' := σ) hM 7 rfl (fun c => ?_) (fun c => ?_)
    · replace h := h.1 c
      refine Pl.seg (pc' := 29) (ls' := [(0, .ref 0), (1, .int x1)]) (st' := [.int x1, .ref 33]) (σ' := σ) hM 4 rfl ?_
      refine Pl.weak (Pl.iald hM rfl rfl (fun hi => ?_))
      replace h := h hi
      refine Pl.weak (Pl.ret hM rfl rfl h)
    · replace h := h.2 c
      exact Pl.live (l' := []) hM lv_141 ⟨show ndL _ from (by decide : List.Nodup ([0, 1] : List Nat)), show ndL _ from (by decide : List.Nodup ([] : List Nat)), by rw [lva_141_17]; exact fun _ h => absurd h List.not_mem_nil⟩ h
set_option maxRecDepth 100000 in
theorem p_141_17 {n d : Nat} {Q : Option Value → Sg → Prop} (σ : Sg) (h : Q (some (.int (-1 : Int32))) σ) : Pl PRG (n + 1) d 141 17 [] [] σ Q := by
  have hM : PRG[141]? = some M_141 := rfl
  refine Pl.sg1 (pc' := 30) (ls' := []) (st' := [.int (-1 : Int32)]) (σ' := σ) hM 1 rfl ?_
  refine Pl.weak (Pl.ret hM rfl rfl h)
def LV_142 : List (Nat × List Nat) := [(0, [0, 1]), (1, [0, 1]), (4, [0, 1]), (5, [0, 1]), (6, [0, 1]), (9, []), (10, []), (11, [0, 1]), (12, [0, 1]), (13, [0, 1, 2]), (14, [0, 1, 2]), (15, [0, 1, 2, 3]), (17, [0, 1, 2, 3]), (19, [0, 1, 2, 3, 4]), (20, [0, 1, 2, 3, 4]), (22, [0, 1, 2, 3, 4, 5]), (24, [0, 1, 2, 3, 4, 5]), (25, [0, 1, 2, 3, 4, 5]), (28, [0, 1, 2, 3, 4, 5]), (31, [0, 1, 2, 3, 4, 5]), (34, [0, 1, 2, 3, 4, 5]), (35, [0, 1, 3, 4, 5]), (36, [0, 1, 3, 4, 5]), (39, [0, 1, 3, 4, 5]), (42, [0, 1, 3, 4, 5]), (44, [0, 1, 3, 4, 5]), (45, [0, 1, 3, 4, 5]), (46, [0, 1, 3, 4, 5]), (47, [0, 1, 2, 3, 4, 5]), (48, [0, 1, 2, 3, 4, 5]), (51, [0, 1, 2, 3, 4, 5]), (53, [0, 1, 2, 3, 4, 5]), (56, [0, 1, 2, 3, 4, 5]), (58, [0, 1, 2, 3, 4, 5, 6]), (60, [0, 1, 2, 3, 4, 5, 6]), (63, [0, 1, 2, 3, 4, 5, 6]), (66, [0, 1, 2, 3, 4, 5, 6]), (68, [0, 1, 2, 3, 5, 6]), (70, [0, 1, 2, 3, 5]), (71, [0, 1, 2, 3, 5]), (72, [0, 1, 2, 3, 5]), (75, [0, 1, 2, 3, 5]), (77, [0, 1, 2, 3, 4, 5]), (80, [0, 1, 2, 3, 4, 5]), (83, [1, 2, 3, 4]), (84, [1, 2, 3, 4]), (87, [2]), (88, []), (89, [1, 3, 4]), (90, [3, 4]), (91, [3, 4]), (94, [3]), (95, []), (96, [3, 4]), (97, [4]), (100, []), (102, []), (105, [4]), (107, [])]
set_option maxRecDepth 100000 in
theorem lv_142 : chkLv M_142 LV_142 = true := by decide +kernel
set_option maxRecDepth 100000 in
theorem lva_142_9 : lvA LV_142 9 = [] := by decide +kernel
set_option maxRecDepth 100000 in
theorem lva_142_22 : lvA LV_142 22 = [0, 1, 2, 3, 4, 5] := by decide +kernel
set_option maxRecDepth 100000 in
theorem lva_142_77 : lvA LV_142 77 = [0, 1, 2, 3, 4, 5] := by decide +kernel
set_option maxRecDepth 100000 in
theorem p_142_0 {n d : Nat} {Q : Option Value → Sg → Prop} (σ : Sg) (x1 : Int32) (h : ((x1 < 0 → Pl PRG n d 142 9 [] [] σ Q) ∧ (¬ x1 < 0 → ((x1 ≤ (2 : Int32) → Pl PRG n d 142 22 [(0, .ref 0), (1, .int x1), (2, .int (0 : Int32)), (3, .int (0 : Int32)), (4, .int (16 : Int32)), (5, .int (0 : Int32))] [] σ Q) ∧ (¬ x1 ≤ (2 : Int32) → Pl PRG n d 142 9 [] [] σ Q))))) : Pl PRG (n + 1) d 142 0 [(0, .ref 0), (1, .int x1)] [] σ Q := by
  have hM : PRG[142]? = some M_142 := rfl
  refine Pl.br1 (c := x1 < 0) (a := 9) (b := 4) (ls' := [(0, .ref 0), (1, .int x1)]) (st' := []) (σ' := σ) hM 1 rfl (fun c => ?_) (fun c => ?_)
  · replace h := h.1 c
    exact Pl.live (l' := []) hM lv_142 ⟨show ndL _ from (by decide : List.Nodup ([0, 1] : List Nat)), show ndL _ from (by decide : List.Nodup ([] : List Nat)), by rw [lva_142_9]; exact fun _ h => absurd h List.not_mem_nil⟩ h
  · replace h := h.2 c
    refine Pl.br (c := x1 ≤ (2 : Int32)) (a := 11) (b := 9) (ls' := [(0, .ref 0), (1, .int x1)]) (st' := []) (σ' := σ) hM 3 rfl (fun c => ?_) (fun c => ?_)
    · replace h := h.1 c
      refine Pl.seg (pc' := 22) (ls' := [(5, .int (0 : Int32)), (4, .int (16 : Int32)), (3, .int (0 : Int32)), (2, .int (0 : Int32)), (0, .ref 0), (1, .int x1)]) (st' := []) (σ' := σ) hM 8 rfl ?_
      exact Pl.live (l' := [(0, .ref 0), (1, .int x1), (2, .int (0 : Int32)), (3, .int (0 : Int32)), (4, .int (16 : Int32)), (5, .int (0 : Int32))]) hM lv_142 ⟨show ndL _ from (by decide : List.Nodup ([5, 4, 3, 2, 0, 1] : List Nat)), show ndL _ from (by decide : List.Nodup ([0, 1, 2, 3, 4, 5] : List Nat)), by rw [lva_142_22]; exact List.forall_mem_cons.mpr ⟨rfl, List.forall_mem_cons.mpr ⟨rfl, List.forall_mem_cons.mpr ⟨rfl, List.forall_mem_cons.mpr ⟨rfl, List.forall_mem_cons.mpr ⟨rfl, List.forall_mem_cons.mpr ⟨rfl, fun _ h => absurd h List.not_mem_nil⟩⟩⟩⟩⟩⟩⟩ h
    · replace h := h.2 c
      exact Pl.live (l' := []) hM lv_142 ⟨show ndL _ from (by decide : List.Nodup ([0, 1] : List Nat)), show ndL _ from (by decide : List.Nodup ([] : List Nat)), by rw [lva_142_9]; exact fun _ h => absurd h List.not_mem_nil⟩ h
set_option maxRecDepth 100000 in
theorem p_142_9 {n d : Nat} {Q : Option Value → Sg → Prop} (σ : Sg) (h : Q (some (.int (-1 : Int32))) σ) : Pl PRG (n + 1) d 142 9 [] [] σ Q := by
  have hM : PRG[142]? = some M_142 := rfl
  refine Pl.sg1 (pc' := 10) (ls' := []) (st' := [.int (-1 : Int32)]) (σ' := σ) hM 0 rfl ?_
  refine Pl.weak (Pl.ret hM rfl rfl h)
set_option maxRecDepth 100000 in
theorem p_142_22 {n d : Nat} {Q : Option Value → Sg → Prop} (σ : Sg) (x1 x2 x3 x4 x5 : Int32) (h : (((σ.1 22 7) ≤ x5 → ((x1 = 0 → Q (some (.int x2)) σ) ∧ (¬ x1 = 0 → ((x1 = (1 : Int32) → Q (some (.int x3)) σ) ∧ (¬ x1 = (1 : Int32) → ((x3 = 0 → Q (some (.int (-2 : Int32))) σ) ∧ (¬ x3 = 0 → Q (some (.int x4)) σ))))))) ∧ (¬ (σ.1 22 7) ≤ x5 → (inR x5 16 = true → (∀ w2 σ1, RCx PRG n 70 [.ref 22, .int x5] σ (some (.int w2)) σ1 → ((w2 < 0 → Pl PRG n d 142 77 [(0, .ref 0), (1, .int x1), (2, .int (x2 + (σ.1 30 x5.toNatClampNeg))), (3, .int x3), (4, .int x4), (5, .int x5)] [] σ1 Q) ∧ (¬ w2 < 0 → Pl PRG n d 142 77 [(0, .ref 0), (1, .int x1), (2, .int (x2 + (σ.1 30 x5.toNatClampNeg))), (3, .int (x3 + (1 : Int32))), (4, .int (if (w2 / (4 : Int32)) < x4 then (w2 / (4 : Int32)) else x4)), (5, .int x5)] [] σ1 Q))))))) : Pl PRG (n + 1) d 142 22 [(0, .ref 0), (1, .int x1), (2, .int x2), (3, .int x3), (4, .int x4), (5, .int x5)] [] σ Q := by
  have hM : PRG[142]? = some M_142 := rfl
  refine Pl.br1 (c := (σ.1 22 7) ≤ x5) (a := 83) (b := 34) (ls' := [(0, .ref 0), (1, .int x1), (2, .int x2), (3, .int x3), (4, .int x4), (5, .int x5)]) (st' := []) (σ' := σ) hM 4 rfl (fun c => ?_) (fun c => ?_)
  · replace h := h.1 c
    refine Pl.brN (c := x1 = 0) (a := 89) (b := 87) (ls' := [(0, .ref 0), (1, .int x1), (2, .int x2), (3, .int x3), (4, .int x4), (5, .int x5)]) (st' := []) (σ' := σ) hM 2 rfl (fun c => ?_) (fun c => ?_)
    · replace h := h.2 c
      refine Pl.brN (c := x1 = (1 : Int32)) (a := 96) (b := 94) (ls' := [(0, .ref 0), (1, .int x1), (2, .int x2), (3, .int x3), (4, .int x4), (5, .int x5)]) (st' := []) (σ' := σ) hM 3 rfl (fun c => ?_) (fun c => ?_)
      · replace h := h.2 c
        refine Pl.brN (c := x3 = 0) (a := 105) (b := 100) (ls' := [(0, .ref 0), (1, .int x1), (2, .int x2), (3, .int x3), (4, .int x4), (5, .int x5)]) (st' := []) (σ' := σ) hM 2 rfl (fun c => ?_) (fun c => ?_)
        · replace h := h.2 c
          refine Pl.seg (pc' := 107) (ls' := [(0, .ref 0), (1, .int x1), (2, .int x2), (3, .int x3), (4, .int x4), (5, .int x5)]) (st' := [.int x4]) (σ' := σ) hM 1 rfl ?_
          refine Pl.weak (Pl.ret hM rfl rfl h)
        · replace h := h.1 c
          refine Pl.seg (pc' := 107) (ls' := [(0, .ref 0), (1, .int x1), (2, .int x2), (3, .int x3), (4, .int x4), (5, .int x5)]) (st' := [.int (-2 : Int32)]) (σ' := σ) hM 2 rfl ?_
          refine Pl.weak (Pl.ret hM rfl rfl h)
      · replace h := h.1 c
        refine Pl.seg (pc' := 95) (ls' := [(0, .ref 0), (1, .int x1), (2, .int x2), (3, .int x3), (4, .int x4), (5, .int x5)]) (st' := [.int x3]) (σ' := σ) hM 1 rfl ?_
        refine Pl.weak (Pl.ret hM rfl rfl h)
    · replace h := h.1 c
      refine Pl.seg (pc' := 88) (ls' := [(0, .ref 0), (1, .int x1), (2, .int x2), (3, .int x3), (4, .int x4), (5, .int x5)]) (st' := [.int x2]) (σ' := σ) hM 1 rfl ?_
      refine Pl.weak (Pl.ret hM rfl rfl h)
  · replace h := h.2 c
    refine Pl.seg (pc' := 44) (ls' := [(0, .ref 0), (1, .int x1), (2, .int x2), (3, .int x3), (4, .int x4), (5, .int x5)]) (st' := [.int x5, .ref 30, .int x2]) (σ' := σ) hM 5 rfl ?_
    refine Pl.weak (Pl.iald hM rfl rfl (fun hi => ?_))
    replace h := h hi
    refine Pl.seg (pc' := 53) (ls' := [(2, .int (x2 + (σ.1 30 x5.toNatClampNeg))), (0, .ref 0), (1, .int x1), (3, .int x3), (4, .int x4), (5, .int x5)]) (st' := [.int x5, .ref 22]) (σ' := σ) hM 5 rfl ?_
    refine Pl.weak (Pl.cI hM rfl rfl (by decide) (Mj := M_70) rfl rfl (fun w2 σ1 hw => ?_))
    replace h := h w2 σ1 hw
    refine Pl.br (c := w2 < 0) (a := 77) (b := 63) (ls' := [(6, .int w2), (2, .int (x2 + (σ.1 30 x5.toNatClampNeg))), (0, .ref 0), (1, .int x1), (3, .int x3), (4, .int x4), (5, .int x5)]) (st' := []) (σ' := σ1) hM 3 rfl (fun c => ?_) (fun c => ?_)
    · replace h := h.1 c
      exact Pl.live (l' := [(0, .ref 0), (1, .int x1), (2, .int (x2 + (σ.1 30 x5.toNatClampNeg))), (3, .int x3), (4, .int x4), (5, .int x5)]) hM lv_142 ⟨show ndL _ from (by decide : List.Nodup ([6, 2, 0, 1, 3, 4, 5] : List Nat)), show ndL _ from (by decide : List.Nodup ([0, 1, 2, 3, 4, 5] : List Nat)), by rw [lva_142_77]; exact List.forall_mem_cons.mpr ⟨rfl, List.forall_mem_cons.mpr ⟨rfl, List.forall_mem_cons.mpr ⟨rfl, List.forall_mem_cons.mpr ⟨rfl, List.forall_mem_cons.mpr ⟨rfl, List.forall_mem_cons.mpr ⟨rfl, fun _ h => absurd h List.not_mem_nil⟩⟩⟩⟩⟩⟩⟩ h
    · replace h := h.2 c
      refine Pl.seg (pc' := 72) (ls' := [(3, .int (x3 + (1 : Int32))), (6, .int w2), (2, .int (x2 + (σ.1 30 x5.toNatClampNeg))), (0, .ref 0), (1, .int x1), (4, .int x4), (5, .int x5)]) (st' := [.int (w2 / (4 : Int32)), .int x4]) (σ' := σ1) hM 5 rfl ?_
      refine Pl.weak (Pl.mm hM rfl rfl rfl ?_)
      refine Pl.seg (pc' := 77) (ls' := [(4, .int (if (w2 / (4 : Int32)) < x4 then (w2 / (4 : Int32)) else x4)), (3, .int (x3 + (1 : Int32))), (6, .int w2), (2, .int (x2 + (σ.1 30 x5.toNatClampNeg))), (0, .ref 0), (1, .int x1), (5, .int x5)]) (st' := []) (σ' := σ1) hM 1 rfl ?_
      exact Pl.live (l' := [(0, .ref 0), (1, .int x1), (2, .int (x2 + (σ.1 30 x5.toNatClampNeg))), (3, .int (x3 + (1 : Int32))), (4, .int (if (w2 / (4 : Int32)) < x4 then (w2 / (4 : Int32)) else x4)), (5, .int x5)]) hM lv_142 ⟨show ndL _ from (by decide : List.Nodup ([4, 3, 6, 2, 0, 1, 5] : List Nat)), show ndL _ from (by decide : List.Nodup ([0, 1, 2, 3, 4, 5] : List Nat)), by rw [lva_142_77]; exact List.forall_mem_cons.mpr ⟨rfl, List.forall_mem_cons.mpr ⟨rfl, List.forall_mem_cons.mpr ⟨rfl, List.forall_mem_cons.mpr ⟨rfl, List.forall_mem_cons.mpr ⟨rfl, List.forall_mem_cons.mpr ⟨rfl, fun _ h => absurd h List.not_mem_nil⟩⟩⟩⟩⟩⟩⟩ h
set_option maxRecDepth 100000 in
theorem p_142_77 {n d : Nat} {Q : Option Value → Sg → Prop} (σ : Sg) (x1 x2 x3 x4 x5 : Int32) (h : Pl PRG n d 142 22 [(0, .ref 0), (1, .int x1), (2, .int x2), (3, .int x3), (4, .int x4), (5, .int (x5 + (1 : Int32)))] [] σ Q) : Pl PRG (n + 1) d 142 77 [(0, .ref 0), (1, .int x1), (2, .int x2), (3, .int x3), (4, .int x4), (5, .int x5)] [] σ Q := by
  have hM : PRG[142]? = some M_142 := rfl
  refine Pl.sg1 (pc' := 22) (ls' := [(5, .int (x5 + (1 : Int32))), (0, .ref 0), (1, .int x1), (2, .int x2), (3, .int x3), (4, .int x4)]) (st' := []) (σ' := σ) hM 1 rfl ?_
  exact Pl.live (l' := [(0, .ref 0), (1, .int x1), (2, .int x2), (3, .int x3), (4, .int x4), (5, .int (x5 + (1 : Int32)))]) hM lv_142 ⟨show ndL _ from (by decide : List.Nodup ([5, 0, 1, 2, 3, 4] : List Nat)), show ndL _ from (by decide : List.Nodup ([0, 1, 2, 3, 4, 5] : List Nat)), by rw [lva_142_22]; exact List.forall_mem_cons.mpr ⟨rfl, List.forall_mem_cons.mpr ⟨rfl, List.forall_mem_cons.mpr ⟨rfl, List.forall_mem_cons.mpr ⟨rfl, List.forall_mem_cons.mpr ⟨rfl, List.forall_mem_cons.mpr ⟨rfl, fun _ h => absurd h List.not_mem_nil⟩⟩⟩⟩⟩⟩⟩ h
def LV_174 : List (Nat × List Nat) := [(0, [0, 1]), (1, [0, 1]), (4, [0, 1]), (5, [0, 1]), (6, [0, 1]), (9, [0, 1]), (10, [0, 1]), (13, [0, 1]), (16, [0, 1]), (19, []), (20, []), (21, [0, 1]), (22, [0, 1]), (25, [0, 1]), (26, [0]), (27, [0]), (28, []), (31, []), (34, []), (35, [])]
set_option maxRecDepth 100000 in
theorem lv_174 : chkLv M_174 LV_174 = true := by decide +kernel
set_option maxRecDepth 100000 in
theorem lva_174_19 : lvA LV_174 19 = [] := by decide +kernel
set_option maxRecDepth 100000 in
theorem p_174_0 {n d : Nat} {Q : Option Value → Sg → Prop} (σ : Sg) (x1 : Int32) (h : ((x1 < 0 → Pl PRG n d 174 19 [] [] σ Q) ∧ (¬ x1 < 0 → (((2 : Int32) ≤ x1 → Pl PRG n d 174 19 [] [] σ Q) ∧ (¬ (2 : Int32) ≤ x1 → (((σ.1 22 2) = 0 → Pl PRG n d 174 19 [] [] σ Q) ∧ (¬ (σ.1 22 2) = 0 → ((x1 = 0 → (∀ σ1, RCx PRG n 67 [.ref 46, .ref 22] σ none σ1 → Q (some (.int (1 : Int32))) σ1)) ∧ (x1 = 1 → (∀ σ2, RCx PRG n 67 [.ref 58, .ref 22] σ none σ2 → Q (some (.int (1 : Int32))) σ2)))))))))) : Pl PRG (n + 1) d 174 0 [(0, .ref 0), (1, .int x1)] [] σ Q := by
  have hM : PRG[174]? = some M_174 := rfl
  refine Pl.br1 (c := x1 < 0) (a := 19) (b := 4) (ls' := [(0, .ref 0), (1, .int x1)]) (st' := []) (σ' := σ) hM 1 rfl (fun c => ?_) (fun c => ?_)
  · replace h := h.1 c
    exact Pl.live (l' := []) hM lv_174 ⟨show ndL _ from (by decide : List.Nodup ([0, 1] : List Nat)), show ndL _ from (by decide : List.Nodup ([] : List Nat)), by rw [lva_174_19]; exact fun _ h => absurd h List.not_mem_nil⟩ h
  · replace h := h.2 c
    refine Pl.br (c := (2 : Int32) ≤ x1) (a := 19) (b := 9) (ls' := [(0, .ref 0), (1, .int x1)]) (st' := []) (σ' := σ) hM 3 rfl (fun c => ?_) (fun c => ?_)
    · replace h := h.1 c
      exact Pl.live (l' := []) hM lv_174 ⟨show ndL _ from (by decide : List.Nodup ([0, 1] : List Nat)), show ndL _ from (by decide : List.Nodup ([] : List Nat)), by rw [lva_174_19]; exact fun _ h => absurd h List.not_mem_nil⟩ h
    · replace h := h.2 c
      refine Pl.brN (c := (σ.1 22 2) = 0) (a := 21) (b := 19) (ls' := [(0, .ref 0), (1, .int x1)]) (st' := []) (σ' := σ) hM 4 rfl (fun c => ?_) (fun c => ?_)
      · replace h := h.2 c
        refine Pl.seg (pc' := 26) (ls' := [(0, .ref 0), (1, .int x1)]) (st' := [.int x1, .ref 2]) (σ' := σ) hM 3 rfl ?_
        refine Pl.weak (Pl.aald5 hM rfl rfl (fun hi => ?_) (fun hi => ?_))
        · replace h := h.1 hi
          refine Pl.seg (pc' := 31) (ls' := [(0, .ref 0), (1, .int x1)]) (st' := [.ref 22, .ref 46]) (σ' := σ) hM 2 rfl ?_
          refine Pl.weak (Pl.cV hM rfl rfl (by decide) (Mj := M_67) rfl rfl (fun σ1 hw => ?_))
          replace h := h σ1 hw
          refine Pl.seg (pc' := 35) (ls' := [(0, .ref 0), (1, .int x1)]) (st' := [.int (1 : Int32)]) (σ' := σ1) hM 1 rfl ?_
          refine Pl.weak (Pl.ret hM rfl rfl h)
        · replace h := h.2 hi
          refine Pl.seg (pc' := 31) (ls' := [(0, .ref 0), (1, .int x1)]) (st' := [.ref 22, .ref 58]) (σ' := σ) hM 2 rfl ?_
          refine Pl.weak (Pl.cV hM rfl rfl (by decide) (Mj := M_67) rfl rfl (fun σ2 hw => ?_))
          replace h := h σ2 hw
          refine Pl.seg (pc' := 35) (ls' := [(0, .ref 0), (1, .int x1)]) (st' := [.int (1 : Int32)]) (σ' := σ2) hM 1 rfl ?_
          refine Pl.weak (Pl.ret hM rfl rfl h)
      · replace h := h.1 c
        exact Pl.live (l' := []) hM lv_174 ⟨show ndL _ from (by decide : List.Nodup ([0, 1] : List Nat)), show ndL _ from (by decide : List.Nodup ([] : List Nat)), by rw [lva_174_19]; exact fun _ h => absurd h List.not_mem_nil⟩ h
set_option maxRecDepth 100000 in
theorem p_174_19 {n d : Nat} {Q : Option Value → Sg → Prop} (σ : Sg) (h : Q (some (.int (0 : Int32))) σ) : Pl PRG (n + 1) d 174 19 [] [] σ Q := by
  have hM : PRG[174]? = some M_174 := rfl
  refine Pl.sg1 (pc' := 20) (ls' := []) (st' := [.int (0 : Int32)]) (σ' := σ) hM 0 rfl ?_
  refine Pl.weak (Pl.ret hM rfl rfl h)
def LV_175 : List (Nat × List Nat) := [(0, [0, 1]), (1, [0, 1]), (4, [0, 1]), (5, [0, 1]), (6, [0, 1]), (9, [0, 1]), (10, [0, 1]), (13, [0, 1]), (14, [0, 1]), (15, [0, 1]), (18, [0, 1]), (21, []), (22, []), (23, [0, 1]), (24, [0, 1]), (27, [0, 1]), (28, [1]), (31, [1]), (32, []), (33, []), (36, []), (37, [])]
set_option maxRecDepth 100000 in
theorem lv_175 : chkLv M_175 LV_175 = true := by decide +kernel
set_option maxRecDepth 100000 in
theorem lva_175_21 : lvA LV_175 21 = [] := by decide +kernel
set_option maxRecDepth 100000 in
theorem p_175_0 {n d : Nat} {Q : Option Value → Sg → Prop} (σ : Sg) (x1 : Int32) (h : ((x1 < 0 → Pl PRG n d 175 21 [] [] σ Q) ∧ (¬ x1 < 0 → (((2 : Int32) ≤ x1 → Pl PRG n d 175 21 [] [] σ Q) ∧ (¬ (2 : Int32) ≤ x1 → ((x1 = 0 → (((σ.1 46 2) = 0 → Pl PRG n d 175 21 [] [] σ Q) ∧ (¬ (σ.1 46 2) = 0 → ((x1 = 0 → (∀ σ1, RCx PRG n 67 [.ref 22, .ref 46] σ none σ1 → Q (some (.int (1 : Int32))) σ1)) ∧ (x1 = 1 → (∀ σ2, RCx PRG n 67 [.ref 22, .ref 58] σ none σ2 → Q (some (.int (1 : Int32))) σ2)))))) ∧ (x1 = 1 → (((σ.1 58 2) = 0 → Pl PRG n d 175 21 [] [] σ Q) ∧ (¬ (σ.1 58 2) = 0 → ((x1 = 0 → (∀ σ3, RCx PRG n 67 [.ref 22, .ref 46] σ none σ3 → Q (some (.int (1 : Int32))) σ3)) ∧ (x1 = 1 → (∀ σ4, RCx PRG n 67 [.ref 22, .ref 58] σ none σ4 → Q (some (.int (1 : Int32))) σ4)))))))))))) : Pl PRG (n + 1) d 175 0 [(0, .ref 0), (1, .int x1)] [] σ Q := by
  have hM : PRG[175]? = some M_175 := rfl
  refine Pl.br1 (c := x1 < 0) (a := 21) (b := 4) (ls' := [(0, .ref 0), (1, .int x1)]) (st' := []) (σ' := σ) hM 1 rfl (fun c => ?_) (fun c => ?_)
  · replace h := h.1 c
    exact Pl.live (l' := []) hM lv_175 ⟨show ndL _ from (by decide : List.Nodup ([0, 1] : List Nat)), show ndL _ from (by decide : List.Nodup ([] : List Nat)), by rw [lva_175_21]; exact fun _ h => absurd h List.not_mem_nil⟩ h
  · replace h := h.2 c
    refine Pl.br (c := (2 : Int32) ≤ x1) (a := 21) (b := 9) (ls' := [(0, .ref 0), (1, .int x1)]) (st' := []) (σ' := σ) hM 3 rfl (fun c => ?_) (fun c => ?_)
    · replace h := h.1 c
      exact Pl.live (l' := []) hM lv_175 ⟨show ndL _ from (by decide : List.Nodup ([0, 1] : List Nat)), show ndL _ from (by decide : List.Nodup ([] : List Nat)), by rw [lva_175_21]; exact fun _ h => absurd h List.not_mem_nil⟩ h
    · replace h := h.2 c
      refine Pl.seg (pc' := 14) (ls' := [(0, .ref 0), (1, .int x1)]) (st' := [.int x1, .ref 2]) (σ' := σ) hM 3 rfl ?_
      refine Pl.weak (Pl.aald5 hM rfl rfl (fun hi => ?_) (fun hi => ?_))
      · replace h := h.1 hi
        refine Pl.brN (c := (σ.1 46 2) = 0) (a := 23) (b := 21) (ls' := [(0, .ref 0), (1, .int x1)]) (st' := []) (σ' := σ) hM 2 rfl (fun c => ?_) (fun c => ?_)
        · replace h := h.2 c
          refine Pl.seg (pc' := 32) (ls' := [(0, .ref 0), (1, .int x1)]) (st' := [.int x1, .ref 2, .ref 22]) (σ' := σ) hM 5 rfl ?_
          refine Pl.weak (Pl.aald5 hM rfl rfl (fun hi => ?_) (fun hi => ?_))
          · replace h := h.1 hi
            refine Pl.weak (Pl.cV hM rfl rfl (by decide) (Mj := M_67) rfl rfl (fun σ1 hw => ?_))
            replace h := h σ1 hw
            refine Pl.seg (pc' := 37) (ls' := [(0, .ref 0), (1, .int x1)]) (st' := [.int (1 : Int32)]) (σ' := σ1) hM 1 rfl ?_
            refine Pl.weak (Pl.ret hM rfl rfl h)
          · replace h := h.2 hi
            refine Pl.weak (Pl.cV hM rfl rfl (by decide) (Mj := M_67) rfl rfl (fun σ2 hw => ?_))
            replace h := h σ2 hw
            refine Pl.seg (pc' := 37) (ls' := [(0, .ref 0), (1, .int x1)]) (st' := [.int (1 : Int32)]) (σ' := σ2) hM 1 rfl ?_
            refine Pl.weak (Pl.ret hM rfl rfl h)
        · replace h := h.1 c
          exact Pl.live (l' := []) hM lv_175 ⟨show ndL _ from (by decide : List.Nodup ([0, 1] : List Nat)), show ndL _ from (by decide : List.Nodup ([] : List Nat)), by rw [lva_175_21]; exact fun _ h => absurd h List.not_mem_nil⟩ h
      · replace h := h.2 hi
        refine Pl.brN (c := (σ.1 58 2) = 0) (a := 23) (b := 21) (ls' := [(0, .ref 0), (1, .int x1)]) (st' := []) (σ' := σ) hM 2 rfl (fun c => ?_) (fun c => ?_)
        · replace h := h.2 c
          refine Pl.seg (pc' := 32) (ls' := [(0, .ref 0), (1, .int x1)]) (st' := [.int x1, .ref 2, .ref 22]) (σ' := σ) hM 5 rfl ?_
          refine Pl.weak (Pl.aald5 hM rfl rfl (fun hi => ?_) (fun hi => ?_))
          · replace h := h.1 hi
            refine Pl.weak (Pl.cV hM rfl rfl (by decide) (Mj := M_67) rfl rfl (fun σ3 hw => ?_))
            replace h := h σ3 hw
            refine Pl.seg (pc' := 37) (ls' := [(0, .ref 0), (1, .int x1)]) (st' := [.int (1 : Int32)]) (σ' := σ3) hM 1 rfl ?_
            refine Pl.weak (Pl.ret hM rfl rfl h)
          · replace h := h.2 hi
            refine Pl.weak (Pl.cV hM rfl rfl (by decide) (Mj := M_67) rfl rfl (fun σ4 hw => ?_))
            replace h := h σ4 hw
            refine Pl.seg (pc' := 37) (ls' := [(0, .ref 0), (1, .int x1)]) (st' := [.int (1 : Int32)]) (σ' := σ4) hM 1 rfl ?_
            refine Pl.weak (Pl.ret hM rfl rfl h)
        · replace h := h.1 c
          exact Pl.live (l' := []) hM lv_175 ⟨show ndL _ from (by decide : List.Nodup ([0, 1] : List Nat)), show ndL _ from (by decide : List.Nodup ([] : List Nat)), by rw [lva_175_21]; exact fun _ h => absurd h List.not_mem_nil⟩ h
set_option maxRecDepth 100000 in
theorem p_175_21 {n d : Nat} {Q : Option Value → Sg → Prop} (σ : Sg) (h : Q (some (.int (0 : Int32))) σ) : Pl PRG (n + 1) d 175 21 [] [] σ Q := by
  have hM : PRG[175]? = some M_175 := rfl
  refine Pl.sg1 (pc' := 22) (ls' := []) (st' := [.int (0 : Int32)]) (σ' := σ) hM 0 rfl ?_
  refine Pl.weak (Pl.ret hM rfl rfl h)
def LV_169 : List (Nat × List Nat) := [(0, [0, 1]), (1, [0, 1]), (4, [0, 1]), (5, [0]), (6, []), (9, []), (12, []), (15, []), (16, []), (19, []), (20, [])]
set_option maxRecDepth 100000 in
theorem lv_169 : chkLv M_169 LV_169 = true := by decide +kernel
set_option maxRecDepth 100000 in
theorem lva_169_19 : lvA LV_169 19 = [] := by decide +kernel
set_option maxRecDepth 100000 in
theorem p_169_0 {n d : Nat} {Q : Option Value → Sg → Prop} (σ : Sg) (x1 : Int32) (h : ((x1 < 0 → Pl PRG n d 169 19 [] [] σ Q) ∧ (¬ x1 < 0 → (((σ.1 3 3) ≤ x1 → Pl PRG n d 169 19 [] [] σ Q) ∧ (¬ (σ.1 3 3) ≤ x1 → Q (some (.int (1 : Int32))) σ))))) : Pl PRG (n + 1) d 169 0 [(0, .ref 0), (1, .int x1)] [] σ Q := by
  have hM : PRG[169]? = some M_169 := rfl
  refine Pl.br1 (c := x1 < 0) (a := 19) (b := 4) (ls' := [(0, .ref 0), (1, .int x1)]) (st' := []) (σ' := σ) hM 1 rfl (fun c => ?_) (fun c => ?_)
  · replace h := h.1 c
    exact Pl.live (l' := []) hM lv_169 ⟨show ndL _ from (by decide : List.Nodup ([0, 1] : List Nat)), show ndL _ from (by decide : List.Nodup ([] : List Nat)), by rw [lva_169_19]; exact fun _ h => absurd h List.not_mem_nil⟩ h
  · replace h := h.2 c
    refine Pl.br (c := (σ.1 3 3) ≤ x1) (a := 19) (b := 15) (ls' := [(0, .ref 0), (1, .int x1)]) (st' := []) (σ' := σ) hM 5 rfl (fun c => ?_) (fun c => ?_)
    · replace h := h.1 c
      exact Pl.live (l' := []) hM lv_169 ⟨show ndL _ from (by decide : List.Nodup ([0, 1] : List Nat)), show ndL _ from (by decide : List.Nodup ([] : List Nat)), by rw [lva_169_19]; exact fun _ h => absurd h List.not_mem_nil⟩ h
    · replace h := h.2 c
      refine Pl.seg (pc' := 20) (ls' := [(0, .ref 0), (1, .int x1)]) (st' := [.int (1 : Int32)]) (σ' := σ) hM 2 rfl ?_
      refine Pl.weak (Pl.ret hM rfl rfl h)
set_option maxRecDepth 100000 in
theorem p_169_19 {n d : Nat} {Q : Option Value → Sg → Prop} (σ : Sg) (h : Q (some (.int (0 : Int32))) σ) : Pl PRG (n + 1) d 169 19 [] [] σ Q := by
  have hM : PRG[169]? = some M_169 := rfl
  refine Pl.sg1 (pc' := 20) (ls' := []) (st' := [.int (0 : Int32)]) (σ' := σ) hM 0 rfl ?_
  refine Pl.weak (Pl.ret hM rfl rfl h)
def LV_176 : List (Nat × List Nat) := [(0, [0]), (1, [0]), (2, [0, 1]), (3, [0, 1]), (4, [0, 1, 2]), (5, [0, 1, 2]), (6, [0, 1, 2]), (9, [0, 1, 2]), (10, [0, 2]), (11, [0, 2]), (14, [0, 2]), (15, [0, 2]), (16, [0, 2]), (19, [0, 2]), (22, [0, 2]), (23, [0, 2]), (26, [0, 2]), (27, [0, 2]), (28, [0, 2]), (29, [0, 1, 2]), (32, [0, 1, 2]), (35, [1]), (36, [])]
set_option maxRecDepth 100000 in
theorem lv_176 : chkLv M_176 LV_176 = true := by decide +kernel
set_option maxRecDepth 100000 in
theorem lva_176_4 : lvA LV_176 4 = [0, 1, 2] := by decide +kernel
set_option maxRecDepth 100000 in
theorem p_176_0 {n d : Nat} {Q : Option Value → Sg → Prop} (σ : Sg) (h : Pl PRG n d 176 4 [(0, .ref 0), (1, .int (0 : Int32)), (2, .int (0 : Int32))] [] σ Q) : Pl PRG (n + 1) d 176 0 [(0, .ref 0)] [] σ Q := by
  have hM : PRG[176]? = some M_176 := rfl
  refine Pl.sg1 (pc' := 4) (ls' := [(2, .int (0 : Int32)), (1, .int (0 : Int32)), (0, .ref 0)]) (st' := []) (σ' := σ) hM 3 rfl ?_
  exact Pl.live (l' := [(0, .ref 0), (1, .int (0 : Int32)), (2, .int (0 : Int32))]) hM lv_176 ⟨show ndL _ from (by decide : List.Nodup ([2, 1, 0] : List Nat)), show ndL _ from (by decide : List.Nodup ([0, 1, 2] : List Nat)), by rw [lva_176_4]; exact List.forall_mem_cons.mpr ⟨rfl, List.forall_mem_cons.mpr ⟨rfl, List.forall_mem_cons.mpr ⟨rfl, fun _ h => absurd h List.not_mem_nil⟩⟩⟩⟩ h
set_option maxRecDepth 100000 in
theorem p_176_4 {n d : Nat} {Q : Option Value → Sg → Prop} (σ : Sg) (x1 x2 : Int32) (h : (((2 : Int32) ≤ x2 → Q (some (.int x1)) σ) ∧ (¬ (2 : Int32) ≤ x2 → ((x2 = 0 → (((σ.1 46 2) = 0 → Pl PRG n d 176 4 [(0, .ref 0), (1, .int (x1 + (0 : Int32))), (2, .int (x2 + (1 : Int32)))] [] σ Q) ∧ (¬ (σ.1 46 2) = 0 → Pl PRG n d 176 4 [(0, .ref 0), (1, .int (x1 + (1 : Int32))), (2, .int (x2 + (1 : Int32)))] [] σ Q))) ∧ (x2 = 1 → (((σ.1 58 2) = 0 → Pl PRG n d 176 4 [(0, .ref 0), (1, .int (x1 + (0 : Int32))), (2, .int (x2 + (1 : Int32)))] [] σ Q) ∧ (¬ (σ.1 58 2) = 0 → Pl PRG n d 176 4 [(0, .ref 0), (1, .int (x1 + (1 : Int32))), (2, .int (x2 + (1 : Int32)))] [] σ Q))))))) : Pl PRG (n + 1) d 176 4 [(0, .ref 0), (1, .int x1), (2, .int x2)] [] σ Q := by
  have hM : PRG[176]? = some M_176 := rfl
  refine Pl.br1 (c := (2 : Int32) ≤ x2) (a := 35) (b := 9) (ls' := [(0, .ref 0), (1, .int x1), (2, .int x2)]) (st' := []) (σ' := σ) hM 2 rfl (fun c => ?_) (fun c => ?_)
  · replace h := h.1 c
    refine Pl.seg (pc' := 36) (ls' := [(0, .ref 0), (1, .int x1), (2, .int x2)]) (st' := [.int x1]) (σ' := σ) hM 1 rfl ?_
    refine Pl.weak (Pl.ret hM rfl rfl h)
  · replace h := h.2 c
    refine Pl.seg (pc' := 15) (ls' := [(0, .ref 0), (1, .int x1), (2, .int x2)]) (st' := [.int x2, .ref 2, .int x1]) (σ' := σ) hM 4 rfl ?_
    refine Pl.weak (Pl.aald5 hM rfl rfl (fun hi => ?_) (fun hi => ?_))
    · replace h := h.1 hi
      refine Pl.br (c := (σ.1 46 2) = 0) (a := 26) (b := 22) (ls' := [(0, .ref 0), (1, .int x1), (2, .int x2)]) (st' := [.int x1]) (σ' := σ) hM 2 rfl (fun c => ?_) (fun c => ?_)
      · replace h := h.1 c
        refine Pl.seg (pc' := 4) (ls' := [(2, .int (x2 + (1 : Int32))), (1, .int (x1 + (0 : Int32))), (0, .ref 0)]) (st' := []) (σ' := σ) hM 5 rfl ?_
        exact Pl.live (l' := [(0, .ref 0), (1, .int (x1 + (0 : Int32))), (2, .int (x2 + (1 : Int32)))]) hM lv_176 ⟨show ndL _ from (by decide : List.Nodup ([2, 1, 0] : List Nat)), show ndL _ from (by decide : List.Nodup ([0, 1, 2] : List Nat)), by rw [lva_176_4]; exact List.forall_mem_cons.mpr ⟨rfl, List.forall_mem_cons.mpr ⟨rfl, List.forall_mem_cons.mpr ⟨rfl, fun _ h => absurd h List.not_mem_nil⟩⟩⟩⟩ h
      · replace h := h.2 c
        refine Pl.seg (pc' := 4) (ls' := [(2, .int (x2 + (1 : Int32))), (1, .int (x1 + (1 : Int32))), (0, .ref 0)]) (st' := []) (σ' := σ) hM 6 rfl ?_
        exact Pl.live (l' := [(0, .ref 0), (1, .int (x1 + (1 : Int32))), (2, .int (x2 + (1 : Int32)))]) hM lv_176 ⟨show ndL _ from (by decide : List.Nodup ([2, 1, 0] : List Nat)), show ndL _ from (by decide : List.Nodup ([0, 1, 2] : List Nat)), by rw [lva_176_4]; exact List.forall_mem_cons.mpr ⟨rfl, List.forall_mem_cons.mpr ⟨rfl, List.forall_mem_cons.mpr ⟨rfl, fun _ h => absurd h List.not_mem_nil⟩⟩⟩⟩ h
    · replace h := h.2 hi
      refine Pl.br (c := (σ.1 58 2) = 0) (a := 26) (b := 22) (ls' := [(0, .ref 0), (1, .int x1), (2, .int x2)]) (st' := [.int x1]) (σ' := σ) hM 2 rfl (fun c => ?_) (fun c => ?_)
      · replace h := h.1 c
        refine Pl.seg (pc' := 4) (ls' := [(2, .int (x2 + (1 : Int32))), (1, .int (x1 + (0 : Int32))), (0, .ref 0)]) (st' := []) (σ' := σ) hM 5 rfl ?_
        exact Pl.live (l' := [(0, .ref 0), (1, .int (x1 + (0 : Int32))), (2, .int (x2 + (1 : Int32)))]) hM lv_176 ⟨show ndL _ from (by decide : List.Nodup ([2, 1, 0] : List Nat)), show ndL _ from (by decide : List.Nodup ([0, 1, 2] : List Nat)), by rw [lva_176_4]; exact List.forall_mem_cons.mpr ⟨rfl, List.forall_mem_cons.mpr ⟨rfl, List.forall_mem_cons.mpr ⟨rfl, fun _ h => absurd h List.not_mem_nil⟩⟩⟩⟩ h
      · replace h := h.2 c
        refine Pl.seg (pc' := 4) (ls' := [(2, .int (x2 + (1 : Int32))), (1, .int (x1 + (1 : Int32))), (0, .ref 0)]) (st' := []) (σ' := σ) hM 6 rfl ?_
        exact Pl.live (l' := [(0, .ref 0), (1, .int (x1 + (1 : Int32))), (2, .int (x2 + (1 : Int32)))]) hM lv_176 ⟨show ndL _ from (by decide : List.Nodup ([2, 1, 0] : List Nat)), show ndL _ from (by decide : List.Nodup ([0, 1, 2] : List Nat)), by rw [lva_176_4]; exact List.forall_mem_cons.mpr ⟨rfl, List.forall_mem_cons.mpr ⟨rfl, List.forall_mem_cons.mpr ⟨rfl, fun _ h => absurd h List.not_mem_nil⟩⟩⟩⟩ h
def LV_177 : List (Nat × List Nat) := [(0, [0, 1]), (1, [0, 1]), (52, [0]), (53, []), (56, []), (59, []), (60, [0]), (61, []), (64, []), (67, []), (68, [0]), (69, []), (72, []), (75, []), (76, [0]), (77, [0]), (80, [0]), (83, [0]), (86, []), (88, []), (91, [0]), (92, []), (95, []), (98, []), (99, [0]), (100, []), (103, []), (106, []), (107, [0]), (108, [0]), (111, [0]), (114, [0]), (117, [0]), (118, []), (121, []), (124, []), (127, []), (129, []), (130, [0]), (131, []), (134, []), (137, []), (138, [0]), (139, []), (142, []), (143, [0]), (144, []), (147, []), (148, [0, 1]), (149, [0, 1]), (151, [0, 1]), (154, [0, 1]), (155, [0, 1]), (156, [0, 1]), (158, [0, 1]), (159, [0, 1]), (162, [0, 1]), (165, [0, 1]), (167, [0, 1]), (168, [0, 1]), (171, [0, 1]), (174, [0, 1]), (175, [0, 1]), (177, [0, 1]), (178, [0, 1]), (179, [0, 1]), (180, [0, 1]), (181, [1]), (184, [1]), (187, [1]), (188, []), (190, []), (191, []), (192, []), (193, []), (196, []), (197, [])]
set_option maxRecDepth 100000 in
theorem lv_177 : chkLv M_177 LV_177 = true := by decide +kernel
set_option maxRecDepth 100000 in
theorem lva_177_196 : lvA LV_177 196 = [] := by decide +kernel
set_option maxRecDepth 100000 in
theorem p_177_0 {n d : Nat} {Q : Option Value → Sg → Prop} (σ : Sg) (x1 : Int32) (h : ((x1.toInt < 0 ∨ 8 < x1.toInt → ((x1 < (10 : Int32) → Pl PRG n d 177 196 [] [] σ Q) ∧ (¬ x1 < (10 : Int32) → (∀ w2 σ1, RCx PRG n 169 [.ref 0, .int (x1 - (10 : Int32))] σ (some (.int w2)) σ1 → (w2 = 0 ∨ w2 = 1) → ((w2 = 0 → Pl PRG n d 177 196 [] [] σ1 Q) ∧ (¬ w2 = 0 → (inR (x1 - (10 : Int32)) 6 = true → (inR (x1 - (10 : Int32)) 6 = true → Q (some (.int (((10 : Int32) * (σ1.1 4 (x1 - (10 : Int32)).toNatClampNeg)) + (σ1.1 5 (x1 - (10 : Int32)).toNatClampNeg)))) σ1)))))))) ∧ (x1.toInt = 0 → Q (some (.int (σ.1 3 0))) σ) ∧ (x1.toInt = 1 → Q (some (.int (σ.1 3 1))) σ) ∧ (x1.toInt = 2 → Q (some (.int (σ.1 3 11))) σ) ∧ (x1.toInt = 3 → ((0 ≤ (σ.1 3 2) → Q (some (.int (σ.1 3 2))) σ) ∧ (¬ 0 ≤ (σ.1 3 2) → Q (some (.int (-2 : Int32))) σ))) ∧ (x1.toInt = 4 → Q (some (.int (σ.1 3 3))) σ) ∧ (x1.toInt = 5 → (((σ.1 22 2) = 0 → Q (some (.int (-2 : Int32))) σ) ∧ (¬ (σ.1 22 2) = 0 → Q (some (.int (σ.1 22 7))) σ))) ∧ (x1.toInt = 6 → Q (some (.int (σ.1 93 2))) σ) ∧ (x1.toInt = 7 → Q (some (.int (σ.1 0 1))) σ) ∧ (x1.toInt = 8 → (∀ w4 σ3, RCx PRG n 176 [.ref 0] σ (some (.int w4)) σ3 → Q (some (.int w4)) σ3)))) : Pl PRG (n + 1) d 177 0 [(0, .ref 0), (1, .int x1)] [] σ Q := by
  have hM : PRG[177]? = some M_177 := rfl
  refine Pl.sg1 (pc' := 1) (ls' := [(0, .ref 0), (1, .int x1)]) (st' := [.int x1]) (σ' := σ) hM 0 rfl ?_
  refine Pl.weak (Pl.tsw hM rfl (fun c => ?_) (fun j o c ho => ?_))
  · replace h := h.1 c
    show Pl PRG n d 177 148 [(0, .ref 0), (1, .int x1)] [] σ Q
    refine Pl.br (c := x1 < (10 : Int32)) (a := 196) (b := 154) (ls' := [(0, .ref 0), (1, .int x1)]) (st' := []) (σ' := σ) hM 3 rfl (fun c => ?_) (fun c => ?_)
    · replace h := h.1 c
      exact Pl.live (l' := []) hM lv_177 ⟨show ndL _ from (by decide : List.Nodup ([0, 1] : List Nat)), show ndL _ from (by decide : List.Nodup ([] : List Nat)), by rw [lva_177_196]; exact fun _ h => absurd h List.not_mem_nil⟩ h
    · replace h := h.2 c
      refine Pl.seg (pc' := 159) (ls' := [(0, .ref 0), (1, .int x1)]) (st' := [.int (x1 - (10 : Int32)), .ref 0]) (σ' := σ) hM 4 rfl ?_
      refine Pl.weak (Pl.cZ hM rfl rfl (by decide) (Mj := M_169) rfl rfl (fun w2 σ1 hw hz => ?_))
      replace h := h w2 σ1 hw hz
      refine Pl.br (c := w2 = 0) (a := 196) (b := 165) (ls' := [(0, .ref 0), (1, .int x1)]) (st' := []) (σ' := σ1) hM 1 rfl (fun c => ?_) (fun c => ?_)
      · replace h := h.1 c
        exact Pl.live (l' := []) hM lv_177 ⟨show ndL _ from (by decide : List.Nodup ([0, 1] : List Nat)), show ndL _ from (by decide : List.Nodup ([] : List Nat)), by rw [lva_177_196]; exact fun _ h => absurd h List.not_mem_nil⟩ h
      · replace h := h.2 c
        refine Pl.seg (pc' := 178) (ls' := [(0, .ref 0), (1, .int x1)]) (st' := [.int (x1 - (10 : Int32)), .ref 4, .int (10 : Int32)]) (σ' := σ1) hM 7 rfl ?_
        refine Pl.weak (Pl.iald hM rfl rfl (fun hi => ?_))
        replace h := h hi
        refine Pl.seg (pc' := 191) (ls' := [(0, .ref 0), (1, .int x1)]) (st' := [.int (x1 - (10 : Int32)), .ref 5, .int ((10 : Int32) * (σ1.1 4 (x1 - (10 : Int32)).toNatClampNeg))]) (σ' := σ1) hM 7 rfl ?_
        refine Pl.weak (Pl.iald hM rfl rfl (fun hi => ?_))
        replace h := h hi
        refine Pl.seg (pc' := 197) (ls' := [(0, .ref 0), (1, .int x1)]) (st' := [.int (((10 : Int32) * (σ1.1 4 (x1 - (10 : Int32)).toNatClampNeg)) + (σ1.1 5 (x1 - (10 : Int32)).toNatClampNeg))]) (σ' := σ1) hM 2 rfl ?_
        refine Pl.weak (Pl.ret hM rfl rfl h)
  · match j, c, ho with
    | 0, c, ho =>
      have ho : some (51 : Int) = some o := ho
      cases ho
      have c : x1.toInt = 0 := by simpa using c
      replace h := h.2.1 c
      show Pl PRG n d 177 52 [(0, .ref 0), (1, .int x1)] [] σ Q
      refine Pl.seg (pc' := 59) (ls' := [(0, .ref 0), (1, .int x1)]) (st' := [.int (σ.1 3 0)]) (σ' := σ) hM 3 rfl ?_
      refine Pl.weak (Pl.ret hM rfl rfl h)
    | 1, c, ho =>
      have ho : some (59 : Int) = some o := ho
      cases ho
      have c : x1.toInt = 1 := by simpa using c
      replace h := h.2.2.1 c
      show Pl PRG n d 177 60 [(0, .ref 0), (1, .int x1)] [] σ Q
      refine Pl.seg (pc' := 67) (ls' := [(0, .ref 0), (1, .int x1)]) (st' := [.int (σ.1 3 1)]) (σ' := σ) hM 3 rfl ?_
      refine Pl.weak (Pl.ret hM rfl rfl h)
    | 2, c, ho =>
      have ho : some (67 : Int) = some o := ho
      cases ho
      have c : x1.toInt = 2 := by simpa using c
      replace h := h.2.2.2.1 c
      show Pl PRG n d 177 68 [(0, .ref 0), (1, .int x1)] [] σ Q
      refine Pl.seg (pc' := 75) (ls' := [(0, .ref 0), (1, .int x1)]) (st' := [.int (σ.1 3 11)]) (σ' := σ) hM 3 rfl ?_
      refine Pl.weak (Pl.ret hM rfl rfl h)
    | 3, c, ho =>
      have ho : some (75 : Int) = some o := ho
      cases ho
      have c : x1.toInt = 3 := by simpa using c
      replace h := h.2.2.2.2.1 c
      show Pl PRG n d 177 76 [(0, .ref 0), (1, .int x1)] [] σ Q
      refine Pl.br (c := 0 ≤ (σ.1 3 2)) (a := 91) (b := 86) (ls' := [(0, .ref 0), (1, .int x1)]) (st' := []) (σ' := σ) hM 4 rfl (fun c => ?_) (fun c => ?_)
      · replace h := h.1 c
        refine Pl.seg (pc' := 98) (ls' := [(0, .ref 0), (1, .int x1)]) (st' := [.int (σ.1 3 2)]) (σ' := σ) hM 3 rfl ?_
        refine Pl.weak (Pl.ret hM rfl rfl h)
      · replace h := h.2 c
        refine Pl.seg (pc' := 98) (ls' := [(0, .ref 0), (1, .int x1)]) (st' := [.int (-2 : Int32)]) (σ' := σ) hM 2 rfl ?_
        refine Pl.weak (Pl.ret hM rfl rfl h)
    | 4, c, ho =>
      have ho : some (98 : Int) = some o := ho
      cases ho
      have c : x1.toInt = 4 := by simpa using c
      replace h := h.2.2.2.2.2.1 c
      show Pl PRG n d 177 99 [(0, .ref 0), (1, .int x1)] [] σ Q
      refine Pl.seg (pc' := 106) (ls' := [(0, .ref 0), (1, .int x1)]) (st' := [.int (σ.1 3 3)]) (σ' := σ) hM 3 rfl ?_
      refine Pl.weak (Pl.ret hM rfl rfl h)
    | 5, c, ho =>
      have ho : some (106 : Int) = some o := ho
      cases ho
      have c : x1.toInt = 5 := by simpa using c
      replace h := h.2.2.2.2.2.2.1 c
      show Pl PRG n d 177 107 [(0, .ref 0), (1, .int x1)] [] σ Q
      refine Pl.br (c := (σ.1 22 2) = 0) (a := 127) (b := 117) (ls' := [(0, .ref 0), (1, .int x1)]) (st' := []) (σ' := σ) hM 4 rfl (fun c => ?_) (fun c => ?_)
      · replace h := h.1 c
        refine Pl.seg (pc' := 129) (ls' := [(0, .ref 0), (1, .int x1)]) (st' := [.int (-2 : Int32)]) (σ' := σ) hM 1 rfl ?_
        refine Pl.weak (Pl.ret hM rfl rfl h)
      · replace h := h.2 c
        refine Pl.seg (pc' := 129) (ls' := [(0, .ref 0), (1, .int x1)]) (st' := [.int (σ.1 22 7)]) (σ' := σ) hM 4 rfl ?_
        refine Pl.weak (Pl.ret hM rfl rfl h)
    | 6, c, ho =>
      have ho : some (129 : Int) = some o := ho
      cases ho
      have c : x1.toInt = 6 := by simpa using c
      replace h := h.2.2.2.2.2.2.2.1 c
      show Pl PRG n d 177 130 [(0, .ref 0), (1, .int x1)] [] σ Q
      refine Pl.seg (pc' := 137) (ls' := [(0, .ref 0), (1, .int x1)]) (st' := [.int (σ.1 93 2)]) (σ' := σ) hM 3 rfl ?_
      refine Pl.weak (Pl.ret hM rfl rfl h)
    | 7, c, ho =>
      have ho : some (137 : Int) = some o := ho
      cases ho
      have c : x1.toInt = 7 := by simpa using c
      replace h := h.2.2.2.2.2.2.2.2.1 c
      show Pl PRG n d 177 138 [(0, .ref 0), (1, .int x1)] [] σ Q
      refine Pl.seg (pc' := 142) (ls' := [(0, .ref 0), (1, .int x1)]) (st' := [.int (σ.1 0 1)]) (σ' := σ) hM 2 rfl ?_
      refine Pl.weak (Pl.ret hM rfl rfl h)
    | 8, c, ho =>
      have ho : some (142 : Int) = some o := ho
      cases ho
      have c : x1.toInt = 8 := by simpa using c
      replace h := h.2.2.2.2.2.2.2.2.2 c
      show Pl PRG n d 177 143 [(0, .ref 0), (1, .int x1)] [] σ Q
      refine Pl.seg (pc' := 144) (ls' := [(0, .ref 0), (1, .int x1)]) (st' := [.ref 0]) (σ' := σ) hM 1 rfl ?_
      refine Pl.weak (Pl.cI hM rfl rfl (by decide) (Mj := M_176) rfl rfl (fun w4 σ3 hw => ?_))
      replace h := h w4 σ3 hw
      refine Pl.weak (Pl.ret hM rfl rfl h)
    | k + 9, c, ho => exact absurd ho (by intro e; have e : (none : Option Int) = some o := e; cases e)
set_option maxRecDepth 100000 in
theorem p_177_196 {n d : Nat} {Q : Option Value → Sg → Prop} (σ : Sg) (h : Q (some (.int (-1 : Int32))) σ) : Pl PRG (n + 1) d 177 196 [] [] σ Q := by
  have hM : PRG[177]? = some M_177 := rfl
  refine Pl.sg1 (pc' := 197) (ls' := []) (st' := [.int (-1 : Int32)]) (σ' := σ) hM 0 rfl ?_
  refine Pl.weak (Pl.ret hM rfl rfl h)
def LV_123 : List (Nat × List Nat) := [(0, [0]), (1, [0]), (4, [0]), (7, [0]), (8, [0]), (11, [0]), (14, [0]), (15, [0]), (16, [0, 1]), (17, [0, 1]), (18, [0, 1]), (21, [0, 1]), (22, [0, 1]), (25, [0, 1]), (26, [0, 1]), (27, [0, 1]), (30, [0, 1]), (33, [0, 1]), (36, [0]), (37, [0]), (40, [0]), (43, [0]), (44, [0]), (47, [0]), (50, [0]), (51, [0]), (54, [0]), (57, [0]), (58, []), (61, []), (64, [])]
set_option maxRecDepth 100000 in
theorem lv_123 : chkLv M_123 LV_123 = true := by decide +kernel
set_option maxRecDepth 100000 in
theorem lva_123_16 : lvA LV_123 16 = [0, 1] := by decide +kernel
set_option maxRecDepth 100000 in
theorem p_123_0 {n d : Nat} {Q : Option Value → Sg → Prop} (σ : Sg) (h : (∀ σ1, RCx PRG n 66 [.ref 22] σ none σ1 → (∀ σ2, RCx PRG n 66 [.ref 34] σ1 none σ2 → Pl PRG n d 123 16 [(0, .ref 0), (1, .int (0 : Int32))] [] σ2 Q))) : Pl PRG (n + 1) d 123 0 [(0, .ref 0)] [] σ Q := by
  have hM : PRG[123]? = some M_123 := rfl
  refine Pl.sg1 (pc' := 4) (ls' := [(0, .ref 0)]) (st' := [.ref 22]) (σ' := σ) hM 1 rfl ?_
  refine Pl.weak (Pl.cV hM rfl rfl (by decide) (Mj := M_66) rfl rfl (fun σ1 hw => ?_))
  replace h := h σ1 hw
  refine Pl.seg (pc' := 11) (ls' := [(0, .ref 0)]) (st' := [.ref 34]) (σ' := σ1) hM 2 rfl ?_
  refine Pl.weak (Pl.cV hM rfl rfl (by decide) (Mj := M_66) rfl rfl (fun σ2 hw => ?_))
  replace h := h σ2 hw
  refine Pl.seg (pc' := 16) (ls' := [(1, .int (0 : Int32)), (0, .ref 0)]) (st' := []) (σ' := σ2) hM 2 rfl ?_
  exact Pl.live (l' := [(0, .ref 0), (1, .int (0 : Int32))]) hM lv_123 ⟨show ndL _ from (by decide : List.Nodup ([1, 0] : List Nat)), show ndL _ from (by decide : List.Nodup ([0, 1] : List Nat)), by rw [lva_123_16]; exact List.forall_mem_cons.mpr ⟨rfl, List.forall_mem_cons.mpr ⟨rfl, fun _ h => absurd h List.not_mem_nil⟩⟩⟩ h
set_option maxRecDepth 100000 in
theorem p_123_16 {n d : Nat} {Q : Option Value → Sg → Prop} (σ : Sg) (x1 : Int32) (h : (((2 : Int32) ≤ x1 → (∀ σ1, RCx PRG n 4 [.ref 93] σ none σ1 → (∀ σ2, RCx PRG n 76 [.ref 70] σ1 none σ2 → (∀ σ3, RCx PRG n 115 [.ref 89] σ2 none σ3 → (∀ σ4, RCx PRG n 27 [.ref 91] σ3 none σ4 → Q none σ4))))) ∧ (¬ (2 : Int32) ≤ x1 → ((x1 = 0 → (∀ σ5, RCx PRG n 66 [.ref 46] σ none σ5 → Pl PRG n d 123 16 [(0, .ref 0), (1, .int (x1 + (1 : Int32)))] [] σ5 Q)) ∧ (x1 = 1 → (∀ σ6, RCx PRG n 66 [.ref 58] σ none σ6 → Pl PRG n d 123 16 [(0, .ref 0), (1, .int (x1 + (1 : Int32)))] [] σ6 Q)))))) : Pl PRG (n + 1) d 123 16 [(0, .ref 0), (1, .int x1)] [] σ Q := by
  have hM : PRG[123]? = some M_123 := rfl
  refine Pl.br1 (c := (2 : Int32) ≤ x1) (a := 36) (b := 21) (ls' := [(0, .ref 0), (1, .int x1)]) (st' := []) (σ' := σ) hM 2 rfl (fun c => ?_) (fun c => ?_)
  · replace h := h.1 c
    refine Pl.seg (pc' := 40) (ls' := [(0, .ref 0), (1, .int x1)]) (st' := [.ref 93]) (σ' := σ) hM 2 rfl ?_
    refine Pl.weak (Pl.cV hM rfl rfl (by decide) (Mj := M_4) rfl rfl (fun σ1 hw => ?_))
    replace h := h σ1 hw
    refine Pl.seg (pc' := 47) (ls' := [(0, .ref 0), (1, .int x1)]) (st' := [.ref 70]) (σ' := σ1) hM 2 rfl ?_
    refine Pl.weak (Pl.cV hM rfl rfl (by decide) (Mj := M_76) rfl rfl (fun σ2 hw => ?_))
    replace h := h σ2 hw
    refine Pl.seg (pc' := 54) (ls' := [(0, .ref 0), (1, .int x1)]) (st' := [.ref 89]) (σ' := σ2) hM 2 rfl ?_
    refine Pl.weak (Pl.cV hM rfl rfl (by decide) (Mj := M_115) rfl rfl (fun σ3 hw => ?_))
    replace h := h σ3 hw
    refine Pl.seg (pc' := 61) (ls' := [(0, .ref 0), (1, .int x1)]) (st' := [.ref 91]) (σ' := σ3) hM 2 rfl ?_
    refine Pl.weak (Pl.cV hM rfl rfl (by decide) (Mj := M_27) rfl rfl (fun σ4 hw => ?_))
    replace h := h σ4 hw
    refine Pl.weak (Pl.ret hM rfl rfl h)
  · replace h := h.2 c
    refine Pl.seg (pc' := 26) (ls' := [(0, .ref 0), (1, .int x1)]) (st' := [.int x1, .ref 2]) (σ' := σ) hM 3 rfl ?_
    refine Pl.weak (Pl.aald5 hM rfl rfl (fun hi => ?_) (fun hi => ?_))
    · replace h := h.1 hi
      refine Pl.weak (Pl.cV hM rfl rfl (by decide) (Mj := M_66) rfl rfl (fun σ5 hw => ?_))
      replace h := h σ5 hw
      refine Pl.seg (pc' := 16) (ls' := [(1, .int (x1 + (1 : Int32))), (0, .ref 0)]) (st' := []) (σ' := σ5) hM 2 rfl ?_
      exact Pl.live (l' := [(0, .ref 0), (1, .int (x1 + (1 : Int32)))]) hM lv_123 ⟨show ndL _ from (by decide : List.Nodup ([1, 0] : List Nat)), show ndL _ from (by decide : List.Nodup ([0, 1] : List Nat)), by rw [lva_123_16]; exact List.forall_mem_cons.mpr ⟨rfl, List.forall_mem_cons.mpr ⟨rfl, fun _ h => absurd h List.not_mem_nil⟩⟩⟩ h
    · replace h := h.2 hi
      refine Pl.weak (Pl.cV hM rfl rfl (by decide) (Mj := M_66) rfl rfl (fun σ6 hw => ?_))
      replace h := h σ6 hw
      refine Pl.seg (pc' := 16) (ls' := [(1, .int (x1 + (1 : Int32))), (0, .ref 0)]) (st' := []) (σ' := σ6) hM 2 rfl ?_
      exact Pl.live (l' := [(0, .ref 0), (1, .int (x1 + (1 : Int32)))]) hM lv_123 ⟨show ndL _ from (by decide : List.Nodup ([1, 0] : List Nat)), show ndL _ from (by decide : List.Nodup ([0, 1] : List Nat)), by rw [lva_123_16]; exact List.forall_mem_cons.mpr ⟨rfl, List.forall_mem_cons.mpr ⟨rfl, fun _ h => absurd h List.not_mem_nil⟩⟩⟩ h
def LV_143 : List (Nat × List Nat) := [(0, [0, 1]), (1, [0, 1]), (4, [0, 1]), (5, [0]), (6, [0]), (7, []), (10, []), (13, []), (14, []), (17, []), (18, []), (21, []), (22, [])]
set_option maxRecDepth 100000 in
theorem lv_143 : chkLv M_143 LV_143 = true := by decide +kernel
set_option maxRecDepth 100000 in
theorem lva_143_21 : lvA LV_143 21 = [] := by decide +kernel
set_option maxRecDepth 100000 in
theorem p_143_0 {n d : Nat} {Q : Option Value → Sg → Prop} (σ : Sg) (x1 : Int32) (h : ((x1 < 0 → Pl PRG n d 143 21 [] [] σ Q) ∧ (¬ x1 < 0 → ((((1 : Int32) <<< ((σ.1 3 3) &&& 31)) ≤ x1 → Pl PRG n d 143 21 [] [] σ Q) ∧ (¬ ((1 : Int32) <<< ((σ.1 3 3) &&& 31)) ≤ x1 → Q (some (.int (1 : Int32))) σ))))) : Pl PRG (n + 1) d 143 0 [(0, .ref 0), (1, .int x1)] [] σ Q := by
  have hM : PRG[143]? = some M_143 := rfl
  refine Pl.br1 (c := x1 < 0) (a := 21) (b := 4) (ls' := [(0, .ref 0), (1, .int x1)]) (st' := []) (σ' := σ) hM 1 rfl (fun c => ?_) (fun c => ?_)
  · replace h := h.1 c
    exact Pl.live (l' := []) hM lv_143 ⟨show ndL _ from (by decide : List.Nodup ([0, 1] : List Nat)), show ndL _ from (by decide : List.Nodup ([] : List Nat)), by rw [lva_143_21]; exact fun _ h => absurd h List.not_mem_nil⟩ h
  · replace h := h.2 c
    refine Pl.br (c := ((1 : Int32) <<< ((σ.1 3 3) &&& 31)) ≤ x1) (a := 21) (b := 17) (ls' := [(0, .ref 0), (1, .int x1)]) (st' := []) (σ' := σ) hM 7 rfl (fun c => ?_) (fun c => ?_)
    · replace h := h.1 c
      exact Pl.live (l' := []) hM lv_143 ⟨show ndL _ from (by decide : List.Nodup ([0, 1] : List Nat)), show ndL _ from (by decide : List.Nodup ([] : List Nat)), by rw [lva_143_21]; exact fun _ h => absurd h List.not_mem_nil⟩ h
    · replace h := h.2 c
      refine Pl.seg (pc' := 22) (ls' := [(0, .ref 0), (1, .int x1)]) (st' := [.int (1 : Int32)]) (σ' := σ) hM 2 rfl ?_
      refine Pl.weak (Pl.ret hM rfl rfl h)
set_option maxRecDepth 100000 in
theorem p_143_21 {n d : Nat} {Q : Option Value → Sg → Prop} (σ : Sg) (h : Q (some (.int (0 : Int32))) σ) : Pl PRG (n + 1) d 143 21 [] [] σ Q := by
  have hM : PRG[143]? = some M_143 := rfl
  refine Pl.sg1 (pc' := 22) (ls' := []) (st' := [.int (0 : Int32)]) (σ' := σ) hM 0 rfl ?_
  refine Pl.weak (Pl.ret hM rfl rfl h)
def LV_145 : List (Nat × List Nat) := [(0, [0, 1, 2]), (1, [0, 1, 2]), (4, [0, 1, 2]), (7, [0, 1, 2]), (10, [0, 1, 2]), (11, [0, 1, 2]), (12, [0, 2]), (15, [0, 2]), (18, [0, 2]), (19, [2]), (20, []), (23, []), (26, []), (27, []), (30, []), (31, [])]
set_option maxRecDepth 100000 in
theorem lv_145 : chkLv M_145 LV_145 = true := by decide +kernel
set_option maxRecDepth 100000 in
theorem lva_145_30 : lvA LV_145 30 = [] := by decide +kernel
set_option maxRecDepth 100000 in
theorem p_145_0 {n d : Nat} {Q : Option Value → Sg → Prop} (σ : Sg) (x1 x2 : Int32) (h : (((σ.1 22 2) = 0 → Pl PRG n d 145 30 [] [] σ Q) ∧ (¬ (σ.1 22 2) = 0 → (∀ w2 σ1, RCx PRG n 129 [.ref 0, .int x1] σ (some (.int w2)) σ1 → (w2 = 0 ∨ w2 = 1) → ((w2 = 0 → Pl PRG n d 145 30 [] [] σ1 Q) ∧ (¬ w2 = 0 → (∀ w4 σ3, RCx PRG n 143 [.ref 0, .int x2] σ1 (some (.int w4)) σ3 → (w4 = 0 ∨ w4 = 1) → ((w4 = 0 → Pl PRG n d 145 30 [] [] σ3 Q) ∧ (¬ w4 = 0 → Q (some (.int (1 : Int32))) σ3))))))))) : Pl PRG (n + 1) d 145 0 [(0, .ref 0), (1, .int x1), (2, .int x2)] [] σ Q := by
  have hM : PRG[145]? = some M_145 := rfl
  refine Pl.br1 (c := (σ.1 22 2) = 0) (a := 30) (b := 10) (ls' := [(0, .ref 0), (1, .int x1), (2, .int x2)]) (st' := []) (σ' := σ) hM 3 rfl (fun c => ?_) (fun c => ?_)
  · replace h := h.1 c
    exact Pl.live (l' := []) hM lv_145 ⟨show ndL _ from (by decide : List.Nodup ([0, 1, 2] : List Nat)), show ndL _ from (by decide : List.Nodup ([] : List Nat)), by rw [lva_145_30]; exact fun _ h => absurd h List.not_mem_nil⟩ h
  · replace h := h.2 c
    refine Pl.seg (pc' := 12) (ls' := [(0, .ref 0), (1, .int x1), (2, .int x2)]) (st' := [.int x1, .ref 0]) (σ' := σ) hM 2 rfl ?_
    refine Pl.weak (Pl.cZ hM rfl rfl (by decide) (Mj := M_129) rfl rfl (fun w2 σ1 hw hz => ?_))
    replace h := h w2 σ1 hw hz
    refine Pl.br (c := w2 = 0) (a := 30) (b := 18) (ls' := [(0, .ref 0), (1, .int x1), (2, .int x2)]) (st' := []) (σ' := σ1) hM 1 rfl (fun c => ?_) (fun c => ?_)
    · replace h := h.1 c
      exact Pl.live (l' := []) hM lv_145 ⟨show ndL _ from (by decide : List.Nodup ([0, 1, 2] : List Nat)), show ndL _ from (by decide : List.Nodup ([] : List Nat)), by rw [lva_145_30]; exact fun _ h => absurd h List.not_mem_nil⟩ h
    · replace h := h.2 c
      refine Pl.seg (pc' := 20) (ls' := [(0, .ref 0), (1, .int x1), (2, .int x2)]) (st' := [.int x2, .ref 0]) (σ' := σ1) hM 2 rfl ?_
      refine Pl.weak (Pl.cZ hM rfl rfl (by decide) (Mj := M_143) rfl rfl (fun w4 σ3 hw hz => ?_))
      replace h := h w4 σ3 hw hz
      refine Pl.br (c := w4 = 0) (a := 30) (b := 26) (ls' := [(0, .ref 0), (1, .int x1), (2, .int x2)]) (st' := []) (σ' := σ3) hM 1 rfl (fun c => ?_) (fun c => ?_)
      · replace h := h.1 c
        exact Pl.live (l' := []) hM lv_145 ⟨show ndL _ from (by decide : List.Nodup ([0, 1, 2] : List Nat)), show ndL _ from (by decide : List.Nodup ([] : List Nat)), by rw [lva_145_30]; exact fun _ h => absurd h List.not_mem_nil⟩ h
      · replace h := h.2 c
        refine Pl.seg (pc' := 31) (ls' := [(0, .ref 0), (1, .int x1), (2, .int x2)]) (st' := [.int (1 : Int32)]) (σ' := σ3) hM 2 rfl ?_
        refine Pl.weak (Pl.ret hM rfl rfl h)
set_option maxRecDepth 100000 in
theorem p_145_30 {n d : Nat} {Q : Option Value → Sg → Prop} (σ : Sg) (h : Q (some (.int (0 : Int32))) σ) : Pl PRG (n + 1) d 145 30 [] [] σ Q := by
  have hM : PRG[145]? = some M_145 := rfl
  refine Pl.sg1 (pc' := 31) (ls' := []) (st' := [.int (0 : Int32)]) (σ' := σ) hM 0 rfl ?_
  refine Pl.weak (Pl.ret hM rfl rfl h)
