/-! what a run that ends has done: the tape, tokens (both sides) -/
def LV_120 : List (Nat × List Nat) := [(0, [0, 1]), (2, [0, 1]), (3, [0, 1, 2]), (4, [0, 1, 2]), (7, [0, 1, 2]), (8, [0, 1, 2]), (11, [0, 1, 2]), (14, [0, 1, 2]), (17, [0, 1, 2]), (18, [0, 1, 2]), (21, [0, 1, 2]), (22, [0, 1, 2]), (25, [0, 1, 2]), (26, [0, 1, 2]), (27, [0, 1, 2]), (28, [0, 1, 2]), (29, [0, 1, 2]), (30, [0, 1, 2]), (31, [0, 1, 2]), (32, [0, 1, 2]), (35, [0, 1, 2]), (36, [0, 1, 2]), (37, [0, 1, 2]), (40, [0, 1, 2]), (43, [0, 1, 2]), (46, [])]
set_option maxRecDepth 100000 in
theorem lv_120 : chkLv M_120 LV_120 = true := by decide +kernel
set_option maxRecDepth 100000 in
theorem lva_120_3 : lvA LV_120 3 = [0, 1, 2] := by decide +kernel
set_option maxRecDepth 100000 in
theorem p_120_0 {n d : Nat} {Q : Option Value → Sg → Prop} (σ : Sg) (x1 : Int32) (h : Pl PRG n d 120 3 [(0, .ref 0), (1, .int x1), (2, .int (24 : Int32))] [] σ Q) : Pl PRG (n + 1) d 120 0 [(0, .ref 0), (1, .int x1)] [] σ Q := by
  have hM : PRG[120]? = some M_120 := rfl
  refine Pl.sg1 (pc' := 3) (ls' := [(2, .int (24 : Int32)), (0, .ref 0), (1, .int x1)]) (st' := []) (σ' := σ) hM 1 rfl ?_
  exact Pl.live (l' := [(0, .ref 0), (1, .int x1), (2, .int (24 : Int32))]) hM lv_120 ⟨show ndL _ from (by decide : List.Nodup ([2, 0, 1] : List Nat)), show ndL _ from (by decide : List.Nodup ([0, 1, 2] : List Nat)), by rw [lva_120_3]; exact List.forall_mem_cons.mpr ⟨rfl, List.forall_mem_cons.mpr ⟨rfl, List.forall_mem_cons.mpr ⟨rfl, fun _ h => absurd h List.not_mem_nil⟩⟩⟩⟩ h
set_option maxRecDepth 100000 in
theorem p_120_3 {n d : Nat} {Q : Option Value → Sg → Prop} (σ : Sg) (x1 x2 : Int32) (h : ((x2 < 0 → Q none σ) ∧ (¬ x2 < 0 → (((2000 : Int32) ≤ (σ.1 0 1) → Q none σ) ∧ (¬ (2000 : Int32) ≤ (σ.1 0 1) → (inR (σ.1 0 1) 2000 = true → Pl PRG n d 120 3 [(0, .ref 0), (1, .int x1), (2, .int (x2 + (-8 : Int32)))] [] (s1 (s1 σ 1 (σ.1 0 1).toNatClampNeg (vp_nar .byte (ush x1 x2).toInt8.toInt32)) 0 1 ((σ.1 0 1) + (1 : Int32))) Q)))))) : Pl PRG (n + 1) d 120 3 [(0, .ref 0), (1, .int x1), (2, .int x2)] [] σ Q := by
  have hM : PRG[120]? = some M_120 := rfl
  refine Pl.br1 (c := x2 < 0) (a := 46) (b := 7) (ls' := [(0, .ref 0), (1, .int x1), (2, .int x2)]) (st' := []) (σ' := σ) hM 1 rfl (fun c => ?_) (fun c => ?_)
  · replace h := h.1 c
    refine Pl.weak (Pl.ret hM rfl rfl h)
  · replace h := h.2 c
    refine Pl.br (c := (2000 : Int32) ≤ (σ.1 0 1)) (a := 46) (b := 17) (ls' := [(0, .ref 0), (1, .int x1), (2, .int x2)]) (st' := []) (σ' := σ) hM 4 rfl (fun c => ?_) (fun c => ?_)
    · replace h := h.1 c
      refine Pl.weak (Pl.ret hM rfl rfl h)
    · replace h := h.2 c
      refine Pl.seg (pc' := 29) (ls' := [(0, .ref 0), (1, .int x1), (2, .int x2)]) (st' := [.int (ush x1 x2).toInt8.toInt32, .int (σ.1 0 1), .ref 1]) (σ' := σ) hM 8 rfl ?_
      refine Pl.weak (Pl.bast2 hM rfl rfl (fun hi => ?_))
      replace h := h hi
      refine Pl.seg (pc' := 3) (ls' := [(2, .int (x2 + (-8 : Int32))), (0, .ref 0), (1, .int x1)]) (st' := []) (σ' := (s1 (s1 σ 1 (σ.1 0 1).toNatClampNeg (vp_nar .byte (ush x1 x2).toInt8.toInt32)) 0 1 ((σ.1 0 1) + (1 : Int32)))) hM 8 rfl ?_
      exact Pl.live (l' := [(0, .ref 0), (1, .int x1), (2, .int (x2 + (-8 : Int32)))]) hM lv_120 ⟨show ndL _ from (by decide : List.Nodup ([2, 0, 1] : List Nat)), show ndL _ from (by decide : List.Nodup ([0, 1, 2] : List Nat)), by rw [lva_120_3]; exact List.forall_mem_cons.mpr ⟨rfl, List.forall_mem_cons.mpr ⟨rfl, List.forall_mem_cons.mpr ⟨rfl, fun _ h => absurd h List.not_mem_nil⟩⟩⟩⟩ h
set_option maxRecDepth 100000 in
theorem p_121_0 {n d : Nat} {Q : Option Value → Sg → Prop} (σ : Sg) (x1 x2 x3 x4 x5 : Int32) (h : ((((σ.1 0 1) + (20 : Int32)) ≤ (2000 : Int32) → (∀ σ1, RCx PRG n 120 [.ref 0, .int x1] σ none σ1 → (∀ σ2, RCx PRG n 120 [.ref 0, .int x2] σ1 none σ2 → (∀ σ3, RCx PRG n 120 [.ref 0, .int x3] σ2 none σ3 → (∀ σ4, RCx PRG n 120 [.ref 0, .int x4] σ3 none σ4 → (∀ σ5, RCx PRG n 120 [.ref 0, .int x5] σ4 none σ5 → Q (some (.int (σ5.1 0 1))) σ5)))))) ∧ (¬ ((σ.1 0 1) + (20 : Int32)) ≤ (2000 : Int32) → Q (some (.int (-1 : Int32))) σ))) : Pl PRG (n + 1) d 121 0 [(0, .ref 0), (1, .int x1), (2, .int x2), (3, .int x3), (4, .int x4), (5, .int x5)] [] σ Q := by
  have hM : PRG[121]? = some M_121 := rfl
  refine Pl.br1 (c := ((σ.1 0 1) + (20 : Int32)) ≤ (2000 : Int32)) (a := 15) (b := 13) (ls' := [(0, .ref 0), (1, .int x1), (2, .int x2), (3, .int x3), (4, .int x4), (5, .int x5)]) (st' := []) (σ' := σ) hM 5 rfl (fun c => ?_) (fun c => ?_)
  · replace h := h.1 c
    refine Pl.seg (pc' := 17) (ls' := [(0, .ref 0), (1, .int x1), (2, .int x2), (3, .int x3), (4, .int x4), (5, .int x5)]) (st' := [.int x1, .ref 0]) (σ' := σ) hM 2 rfl ?_
    refine Pl.weak (Pl.cV hM rfl rfl (by decide) (Mj := M_120) rfl rfl (fun σ1 hw => ?_))
    replace h := h σ1 hw
    refine Pl.seg (pc' := 22) (ls' := [(0, .ref 0), (1, .int x1), (2, .int x2), (3, .int x3), (4, .int x4), (5, .int x5)]) (st' := [.int x2, .ref 0]) (σ' := σ1) hM 2 rfl ?_
    refine Pl.weak (Pl.cV hM rfl rfl (by decide) (Mj := M_120) rfl rfl (fun σ2 hw => ?_))
    replace h := h σ2 hw
    refine Pl.seg (pc' := 27) (ls' := [(0, .ref 0), (1, .int x1), (2, .int x2), (3, .int x3), (4, .int x4), (5, .int x5)]) (st' := [.int x3, .ref 0]) (σ' := σ2) hM 2 rfl ?_
    refine Pl.weak (Pl.cV hM rfl rfl (by decide) (Mj := M_120) rfl rfl (fun σ3 hw => ?_))
    replace h := h σ3 hw
    refine Pl.seg (pc' := 33) (ls' := [(0, .ref 0), (1, .int x1), (2, .int x2), (3, .int x3), (4, .int x4), (5, .int x5)]) (st' := [.int x4, .ref 0]) (σ' := σ3) hM 2 rfl ?_
    refine Pl.weak (Pl.cV hM rfl rfl (by decide) (Mj := M_120) rfl rfl (fun σ4 hw => ?_))
    replace h := h σ4 hw
    refine Pl.seg (pc' := 39) (ls' := [(0, .ref 0), (1, .int x1), (2, .int x2), (3, .int x3), (4, .int x4), (5, .int x5)]) (st' := [.int x5, .ref 0]) (σ' := σ4) hM 2 rfl ?_
    refine Pl.weak (Pl.cV hM rfl rfl (by decide) (Mj := M_120) rfl rfl (fun σ5 hw => ?_))
    replace h := h σ5 hw
    refine Pl.seg (pc' := 46) (ls' := [(0, .ref 0), (1, .int x1), (2, .int x2), (3, .int x3), (4, .int x4), (5, .int x5)]) (st' := [.int (σ5.1 0 1)]) (σ' := σ5) hM 2 rfl ?_
    refine Pl.weak (Pl.ret hM rfl rfl h)
  · replace h := h.2 c
    refine Pl.seg (pc' := 14) (ls' := [(0, .ref 0), (1, .int x1), (2, .int x2), (3, .int x3), (4, .int x4), (5, .int x5)]) (st' := [.int (-1 : Int32)]) (σ' := σ) hM 1 rfl ?_
    refine Pl.weak (Pl.ret hM rfl rfl h)
set_option maxRecDepth 100000 in
theorem p_122_0 {n d : Nat} {Q : Option Value → Sg → Prop} (σ : Sg) (x1 : Int32) (h : ((x1 < 0 → Q (some (.int (-1 : Int32))) σ) ∧ (¬ x1 < 0 → ((x1 ≤ (σ.1 0 1) → Q (some (.int ((σ.1 0 1) - x1))) (s1 σ 0 1 ((σ.1 0 1) - x1))) ∧ (¬ x1 ≤ (σ.1 0 1) → Q (some (.int (-1 : Int32))) σ))))) : Pl PRG (n + 1) d 122 0 [(0, .ref 0), (1, .int x1)] [] σ Q := by
  have hM : PRG[122]? = some M_122 := rfl
  refine Pl.br1 (c := x1 < 0) (a := 12) (b := 4) (ls' := [(0, .ref 0), (1, .int x1)]) (st' := []) (σ' := σ) hM 1 rfl (fun c => ?_) (fun c => ?_)
  · replace h := h.1 c
    refine Pl.seg (pc' := 13) (ls' := [(0, .ref 0), (1, .int x1)]) (st' := [.int (-1 : Int32)]) (σ' := σ) hM 1 rfl ?_
    refine Pl.weak (Pl.ret hM rfl rfl h)
  · replace h := h.2 c
    refine Pl.br (c := x1 ≤ (σ.1 0 1)) (a := 14) (b := 12) (ls' := [(0, .ref 0), (1, .int x1)]) (st' := []) (σ' := σ) hM 4 rfl (fun c => ?_) (fun c => ?_)
    · replace h := h.1 c
      refine Pl.seg (pc' := 28) (ls' := [(0, .ref 0), (1, .int x1)]) (st' := [.int ((σ.1 0 1) - x1)]) (σ' := (s1 σ 0 1 ((σ.1 0 1) - x1))) hM 8 rfl ?_
      refine Pl.weak (Pl.ret hM rfl rfl h)
    · replace h := h.2 c
      refine Pl.seg (pc' := 13) (ls' := [(0, .ref 0), (1, .int x1)]) (st' := [.int (-1 : Int32)]) (σ' := σ) hM 1 rfl ?_
      refine Pl.weak (Pl.ret hM rfl rfl h)
def LV_178 : List (Nat × List Nat) := [(0, [0, 1]), (2, [0, 1]), (3, [0, 1, 2]), (4, [0, 1, 2]), (7, [0, 1, 2]), (8, [0, 1, 2]), (11, [0, 1, 2]), (12, [0, 1, 2]), (15, [0, 1, 2]), (16, [0, 1, 2]), (17, [0, 1, 2]), (18, [0, 1, 2]), (19, [0, 1, 2]), (20, [0, 1, 2]), (21, [0, 1, 2]), (22, [0, 1, 2]), (25, [0, 1, 2]), (26, [0, 1, 2]), (27, [0, 1, 2]), (30, [0, 1, 2]), (33, [0, 1, 2]), (36, [])]
set_option maxRecDepth 100000 in
theorem lv_178 : chkLv M_178 LV_178 = true := by decide +kernel
set_option maxRecDepth 100000 in
theorem lva_178_3 : lvA LV_178 3 = [0, 1, 2] := by decide +kernel
set_option maxRecDepth 100000 in
theorem p_178_0 {n d : Nat} {Q : Option Value → Sg → Prop} (σ : Sg) (x1 : Int32) (h : Pl PRG n d 178 3 [(0, .ref 97), (1, .int x1), (2, .int (24 : Int32))] [] σ Q) : Pl PRG (n + 1) d 178 0 [(0, .ref 97), (1, .int x1)] [] σ Q := by
  have hM : PRG[178]? = some M_178 := rfl
  refine Pl.sg1 (pc' := 3) (ls' := [(2, .int (24 : Int32)), (0, .ref 97), (1, .int x1)]) (st' := []) (σ' := σ) hM 1 rfl ?_
  exact Pl.live (l' := [(0, .ref 97), (1, .int x1), (2, .int (24 : Int32))]) hM lv_178 ⟨show ndL _ from (by decide : List.Nodup ([2, 0, 1] : List Nat)), show ndL _ from (by decide : List.Nodup ([0, 1, 2] : List Nat)), by rw [lva_178_3]; exact List.forall_mem_cons.mpr ⟨rfl, List.forall_mem_cons.mpr ⟨rfl, List.forall_mem_cons.mpr ⟨rfl, fun _ h => absurd h List.not_mem_nil⟩⟩⟩⟩ h
set_option maxRecDepth 100000 in
theorem p_178_3 {n d : Nat} {Q : Option Value → Sg → Prop} (σ : Sg) (x1 x2 : Int32) (h : ((x2 < 0 → Q none σ) ∧ (¬ x2 < 0 → (inR (σ.1 97 2) 2000 = true → Pl PRG n d 178 3 [(0, .ref 97), (1, .int x1), (2, .int (x2 + (-8 : Int32)))] [] (s1 (s1 σ 98 (σ.1 97 2).toNatClampNeg (vp_nar .byte (x1 >>> (x2 &&& 31)).toInt8.toInt32)) 97 2 ((σ.1 97 2) + (1 : Int32))) Q)))) : Pl PRG (n + 1) d 178 3 [(0, .ref 97), (1, .int x1), (2, .int x2)] [] σ Q := by
  have hM : PRG[178]? = some M_178 := rfl
  refine Pl.br1 (c := x2 < 0) (a := 36) (b := 7) (ls' := [(0, .ref 97), (1, .int x1), (2, .int x2)]) (st' := []) (σ' := σ) hM 1 rfl (fun c => ?_) (fun c => ?_)
  · replace h := h.1 c
    refine Pl.weak (Pl.ret hM rfl rfl h)
  · replace h := h.2 c
    refine Pl.seg (pc' := 19) (ls' := [(0, .ref 97), (1, .int x1), (2, .int x2)]) (st' := [.int (x1 >>> (x2 &&& 31)).toInt8.toInt32, .int (σ.1 97 2), .ref 98]) (σ' := σ) hM 8 rfl ?_
    refine Pl.weak (Pl.bast2 hM rfl rfl (fun hi => ?_))
    replace h := h hi
    refine Pl.seg (pc' := 3) (ls' := [(2, .int (x2 + (-8 : Int32))), (0, .ref 97), (1, .int x1)]) (st' := []) (σ' := (s1 (s1 σ 98 (σ.1 97 2).toNatClampNeg (vp_nar .byte (x1 >>> (x2 &&& 31)).toInt8.toInt32)) 97 2 ((σ.1 97 2) + (1 : Int32)))) hM 8 rfl ?_
    exact Pl.live (l' := [(0, .ref 97), (1, .int x1), (2, .int (x2 + (-8 : Int32)))]) hM lv_178 ⟨show ndL _ from (by decide : List.Nodup ([2, 0, 1] : List Nat)), show ndL _ from (by decide : List.Nodup ([0, 1, 2] : List Nat)), by rw [lva_178_3]; exact List.forall_mem_cons.mpr ⟨rfl, List.forall_mem_cons.mpr ⟨rfl, List.forall_mem_cons.mpr ⟨rfl, fun _ h => absurd h List.not_mem_nil⟩⟩⟩⟩ h
set_option maxRecDepth 100000 in
theorem p_179_0 {n d : Nat} {Q : Option Value → Sg → Prop} (σ : Sg) (x1 x2 x3 x4 x5 : Int32) (h : ((((σ.1 97 2) + (20 : Int32)) ≤ (2000 : Int32) → (∀ σ1, RCx PRG n 178 [.ref 97, .int x1] σ none σ1 → (∀ σ2, RCx PRG n 178 [.ref 97, .int x2] σ1 none σ2 → (∀ σ3, RCx PRG n 178 [.ref 97, .int x3] σ2 none σ3 → (∀ σ4, RCx PRG n 178 [.ref 97, .int x4] σ3 none σ4 → (∀ σ5, RCx PRG n 178 [.ref 97, .int x5] σ4 none σ5 → Q (some (.int (σ5.1 97 2))) σ5)))))) ∧ (¬ ((σ.1 97 2) + (20 : Int32)) ≤ (2000 : Int32) → Q (some (.int (-1 : Int32))) σ))) : Pl PRG (n + 1) d 179 0 [(0, .ref 97), (1, .int x1), (2, .int x2), (3, .int x3), (4, .int x4), (5, .int x5)] [] σ Q := by
  have hM : PRG[179]? = some M_179 := rfl
  refine Pl.br1 (c := ((σ.1 97 2) + (20 : Int32)) ≤ (2000 : Int32)) (a := 15) (b := 13) (ls' := [(0, .ref 97), (1, .int x1), (2, .int x2), (3, .int x3), (4, .int x4), (5, .int x5)]) (st' := []) (σ' := σ) hM 5 rfl (fun c => ?_) (fun c => ?_)
  · replace h := h.1 c
    refine Pl.seg (pc' := 17) (ls' := [(0, .ref 97), (1, .int x1), (2, .int x2), (3, .int x3), (4, .int x4), (5, .int x5)]) (st' := [.int x1, .ref 97]) (σ' := σ) hM 2 rfl ?_
    refine Pl.weak (Pl.cV hM rfl rfl (by decide) (Mj := M_178) rfl rfl (fun σ1 hw => ?_))
    replace h := h σ1 hw
    refine Pl.seg (pc' := 22) (ls' := [(0, .ref 97), (1, .int x1), (2, .int x2), (3, .int x3), (4, .int x4), (5, .int x5)]) (st' := [.int x2, .ref 97]) (σ' := σ1) hM 2 rfl ?_
    refine Pl.weak (Pl.cV hM rfl rfl (by decide) (Mj := M_178) rfl rfl (fun σ2 hw => ?_))
    replace h := h σ2 hw
    refine Pl.seg (pc' := 27) (ls' := [(0, .ref 97), (1, .int x1), (2, .int x2), (3, .int x3), (4, .int x4), (5, .int x5)]) (st' := [.int x3, .ref 97]) (σ' := σ2) hM 2 rfl ?_
    refine Pl.weak (Pl.cV hM rfl rfl (by decide) (Mj := M_178) rfl rfl (fun σ3 hw => ?_))
    replace h := h σ3 hw
    refine Pl.seg (pc' := 33) (ls' := [(0, .ref 97), (1, .int x1), (2, .int x2), (3, .int x3), (4, .int x4), (5, .int x5)]) (st' := [.int x4, .ref 97]) (σ' := σ3) hM 2 rfl ?_
    refine Pl.weak (Pl.cV hM rfl rfl (by decide) (Mj := M_178) rfl rfl (fun σ4 hw => ?_))
    replace h := h σ4 hw
    refine Pl.seg (pc' := 39) (ls' := [(0, .ref 97), (1, .int x1), (2, .int x2), (3, .int x3), (4, .int x4), (5, .int x5)]) (st' := [.int x5, .ref 97]) (σ' := σ4) hM 2 rfl ?_
    refine Pl.weak (Pl.cV hM rfl rfl (by decide) (Mj := M_178) rfl rfl (fun σ5 hw => ?_))
    replace h := h σ5 hw
    refine Pl.seg (pc' := 46) (ls' := [(0, .ref 97), (1, .int x1), (2, .int x2), (3, .int x3), (4, .int x4), (5, .int x5)]) (st' := [.int (σ5.1 97 2)]) (σ' := σ5) hM 2 rfl ?_
    refine Pl.weak (Pl.ret hM rfl rfl h)
  · replace h := h.2 c
    refine Pl.seg (pc' := 14) (ls' := [(0, .ref 97), (1, .int x1), (2, .int x2), (3, .int x3), (4, .int x4), (5, .int x5)]) (st' := [.int (-1 : Int32)]) (σ' := σ) hM 1 rfl ?_
    refine Pl.weak (Pl.ret hM rfl rfl h)
set_option maxRecDepth 100000 in
theorem p_180_0 {n d : Nat} {Q : Option Value → Sg → Prop} (σ : Sg) (x1 : Int32) (h : ((x1 < 0 → Q (some (.int (-1 : Int32))) σ) ∧ (¬ x1 < 0 → ((x1 ≤ (σ.1 97 2) → Q (some (.int ((σ.1 97 2) - x1))) (s1 σ 97 2 ((σ.1 97 2) - x1))) ∧ (¬ x1 ≤ (σ.1 97 2) → Q (some (.int (-1 : Int32))) σ))))) : Pl PRG (n + 1) d 180 0 [(0, .ref 97), (1, .int x1)] [] σ Q := by
  have hM : PRG[180]? = some M_180 := rfl
  refine Pl.br1 (c := x1 < 0) (a := 12) (b := 4) (ls' := [(0, .ref 97), (1, .int x1)]) (st' := []) (σ' := σ) hM 1 rfl (fun c => ?_) (fun c => ?_)
  · replace h := h.1 c
    refine Pl.seg (pc' := 13) (ls' := [(0, .ref 97), (1, .int x1)]) (st' := [.int (-1 : Int32)]) (σ' := σ) hM 1 rfl ?_
    refine Pl.weak (Pl.ret hM rfl rfl h)
  · replace h := h.2 c
    refine Pl.br (c := x1 ≤ (σ.1 97 2)) (a := 14) (b := 12) (ls' := [(0, .ref 97), (1, .int x1)]) (st' := []) (σ' := σ) hM 4 rfl (fun c => ?_) (fun c => ?_)
    · replace h := h.1 c
      refine Pl.seg (pc' := 28) (ls' := [(0, .ref 97), (1, .int x1)]) (st' := [.int ((σ.1 97 2) - x1)]) (σ' := (s1 σ 97 2 ((σ.1 97 2) - x1))) hM 8 rfl ?_
      refine Pl.weak (Pl.ret hM rfl rfl h)
    · replace h := h.2 c
      refine Pl.seg (pc' := 13) (ls' := [(0, .ref 97), (1, .int x1)]) (st' := [.int (-1 : Int32)]) (σ' := σ) hM 1 rfl ?_
      refine Pl.weak (Pl.ret hM rfl rfl h)
set_option maxRecDepth 100000 in
theorem p_91_0 {n d : Nat} {Q : Option Value → Sg → Prop} (σ : Sg) (x0 : Int32) (h : ((x0 < (97 : Int32) → Q (some (.int (0 : Int32))) σ) ∧ (¬ x0 < (97 : Int32) → (((122 : Int32) < x0 → Q (some (.int (0 : Int32))) σ) ∧ (¬ (122 : Int32) < x0 → Q (some (.int (1 : Int32))) σ))))) : Pl PRG (n + 1) d 91 0 [(0, .int x0)] [] σ Q := by
  have hM : PRG[91]? = some M_91 := rfl
  refine Pl.br1 (c := x0 < (97 : Int32)) (a := 16) (b := 6) (ls' := [(0, .int x0)]) (st' := []) (σ' := σ) hM 2 rfl (fun c => ?_) (fun c => ?_)
  · replace h := h.1 c
    refine Pl.seg (pc' := 17) (ls' := [(0, .int x0)]) (st' := [.int (0 : Int32)]) (σ' := σ) hM 1 rfl ?_
    refine Pl.weak (Pl.ret hM rfl rfl h)
  · replace h := h.2 c
    refine Pl.br (c := (122 : Int32) < x0) (a := 16) (b := 12) (ls' := [(0, .int x0)]) (st' := []) (σ' := σ) hM 3 rfl (fun c => ?_) (fun c => ?_)
    · replace h := h.1 c
      refine Pl.seg (pc' := 17) (ls' := [(0, .int x0)]) (st' := [.int (0 : Int32)]) (σ' := σ) hM 1 rfl ?_
      refine Pl.weak (Pl.ret hM rfl rfl h)
    · replace h := h.2 c
      refine Pl.seg (pc' := 17) (ls' := [(0, .int x0)]) (st' := [.int (1 : Int32)]) (σ' := σ) hM 2 rfl ?_
      refine Pl.weak (Pl.ret hM rfl rfl h)
set_option maxRecDepth 100000 in
theorem p_95_0 {n d : Nat} {Q : Option Value → Sg → Prop} (σ : Sg) (x0 : Int32) (h : ((x0 < (48 : Int32) → Q (some (.int (0 : Int32))) σ) ∧ (¬ x0 < (48 : Int32) → (((57 : Int32) < x0 → Q (some (.int (0 : Int32))) σ) ∧ (¬ (57 : Int32) < x0 → Q (some (.int (1 : Int32))) σ))))) : Pl PRG (n + 1) d 95 0 [(0, .int x0)] [] σ Q := by
  have hM : PRG[95]? = some M_95 := rfl
  refine Pl.br1 (c := x0 < (48 : Int32)) (a := 16) (b := 6) (ls' := [(0, .int x0)]) (st' := []) (σ' := σ) hM 2 rfl (fun c => ?_) (fun c => ?_)
  · replace h := h.1 c
    refine Pl.seg (pc' := 17) (ls' := [(0, .int x0)]) (st' := [.int (0 : Int32)]) (σ' := σ) hM 1 rfl ?_
    refine Pl.weak (Pl.ret hM rfl rfl h)
  · replace h := h.2 c
    refine Pl.br (c := (57 : Int32) < x0) (a := 16) (b := 12) (ls' := [(0, .int x0)]) (st' := []) (σ' := σ) hM 3 rfl (fun c => ?_) (fun c => ?_)
    · replace h := h.1 c
      refine Pl.seg (pc' := 17) (ls' := [(0, .int x0)]) (st' := [.int (0 : Int32)]) (σ' := σ) hM 1 rfl ?_
      refine Pl.weak (Pl.ret hM rfl rfl h)
    · replace h := h.2 c
      refine Pl.seg (pc' := 17) (ls' := [(0, .int x0)]) (st' := [.int (1 : Int32)]) (σ' := σ) hM 2 rfl ?_
      refine Pl.weak (Pl.ret hM rfl rfl h)
set_option maxRecDepth 100000 in
theorem p_92_0 {n d : Nat} {Q : Option Value → Sg → Prop} (σ : Sg) (x1 x4 : Int32) (x2 : Int64) (h : (((402 : Int32) ≤ (σ.1 17 4) → Q none σ) ∧ (¬ (402 : Int32) ≤ (σ.1 17 4) → (inR (σ.1 17 4) 402 = true → (inR (σ.1 17 4) 402 = true → (inR (σ.1 17 4) 402 = true → Q none (s1 (s1 (s2 (s1 σ 18 (σ.1 17 4).toNatClampNeg x1) 20 (σ.1 17 4).toNatClampNeg x2) 19 (σ.1 17 4).toNatClampNeg x4) 17 4 ((σ.1 17 4) + (1 : Int32))))))))) : Pl PRG (n + 1) d 92 0 [(0, .ref 17), (1, .int x1), (2, .long x2), (4, .int x4)] [] σ Q := by
  have hM : PRG[92]? = some M_92 := rfl
  refine Pl.br1 (c := (402 : Int32) ≤ (σ.1 17 4)) (a := 53) (b := 12) (ls' := [(0, .ref 17), (1, .int x1), (2, .long x2), (4, .int x4)]) (st' := []) (σ' := σ) hM 5 rfl (fun c => ?_) (fun c => ?_)
  · replace h := h.1 c
    refine Pl.weak (Pl.ret hM rfl rfl h)
  · replace h := h.2 c
    refine Pl.seg (pc' := 21) (ls' := [(0, .ref 17), (1, .int x1), (2, .long x2), (4, .int x4)]) (st' := [.int x1, .int (σ.1 17 4), .ref 18]) (σ' := σ) hM 5 rfl ?_
    refine Pl.weak (Pl.iast hM rfl rfl (fun hi => ?_))
    replace h := h hi
    refine Pl.seg (pc' := 31) (ls' := [(0, .ref 17), (1, .int x1), (2, .long x2), (4, .int x4)]) (st' := [.long x2, .int (σ.1 17 4), .ref 20]) (σ' := (s1 σ 18 (σ.1 17 4).toNatClampNeg x1)) hM 5 rfl ?_
    refine Pl.weak (Pl.last hM rfl rfl (fun hi => ?_))
    replace h := h hi
    refine Pl.seg (pc' := 42) (ls' := [(0, .ref 17), (1, .int x1), (2, .long x2), (4, .int x4)]) (st' := [.int x4, .int (σ.1 17 4), .ref 19]) (σ' := (s2 (s1 σ 18 (σ.1 17 4).toNatClampNeg x1) 20 (σ.1 17 4).toNatClampNeg x2)) hM 5 rfl ?_
    refine Pl.weak (Pl.iast hM rfl rfl (fun hi => ?_))
    replace h := h hi
    refine Pl.seg (pc' := 53) (ls' := [(0, .ref 17), (1, .int x1), (2, .long x2), (4, .int x4)]) (st' := []) (σ' := (s1 (s1 (s2 (s1 σ 18 (σ.1 17 4).toNatClampNeg x1) 20 (σ.1 17 4).toNatClampNeg x2) 19 (σ.1 17 4).toNatClampNeg x4) 17 4 ((σ.1 17 4) + (1 : Int32)))) hM 6 rfl ?_
    refine Pl.weak (Pl.ret hM rfl rfl h)
def LV_93 : List (Nat × List Nat) := [(0, [0, 1]), (1, [0, 1]), (2, [0, 1, 3]), (3, [0, 1, 3]), (4, [0, 1, 3]), (7, [0, 1, 3]), (8, [0, 1, 3]), (11, [0, 1, 3]), (12, [0, 1, 3]), (15, [0, 1, 3]), (16, [0, 1, 3]), (17, [0, 1, 3]), (18, [0, 1, 3]), (19, [0, 1, 3]), (22, [3]), (24, [3]), (25, []), (26, []), (27, [0, 1, 3]), (30, [0, 1, 3]), (33, []), (34, [])]
set_option maxRecDepth 100000 in
theorem lv_93 : chkLv M_93 LV_93 = true := by decide +kernel
set_option maxRecDepth 100000 in
theorem lva_93_2 : lvA LV_93 2 = [0, 1, 3] := by decide +kernel
set_option maxRecDepth 100000 in
theorem p_93_0 {n d : Nat} {Q : Option Value → Sg → Prop} (σ : Sg) (x1 : Int64) (h : Pl PRG n d 93 2 [(0, .ref 17), (1, .long x1), (3, .int (0 : Int32))] [] σ Q) : Pl PRG (n + 1) d 93 0 [(0, .ref 17), (1, .long x1)] [] σ Q := by
  have hM : PRG[93]? = some M_93 := rfl
  refine Pl.sg1 (pc' := 2) (ls' := [(3, .int (0 : Int32)), (0, .ref 17), (1, .long x1)]) (st' := []) (σ' := σ) hM 1 rfl ?_
  exact Pl.live (l' := [(0, .ref 17), (1, .long x1), (3, .int (0 : Int32))]) hM lv_93 ⟨show ndL _ from (by decide : List.Nodup ([3, 0, 1] : List Nat)), show ndL _ from (by decide : List.Nodup ([0, 1, 3] : List Nat)), by rw [lva_93_2]; exact List.forall_mem_cons.mpr ⟨rfl, List.forall_mem_cons.mpr ⟨rfl, List.forall_mem_cons.mpr ⟨rfl, fun _ h => absurd h List.not_mem_nil⟩⟩⟩⟩ h
set_option maxRecDepth 100000 in
theorem p_93_2 {n d : Nat} {Q : Option Value → Sg → Prop} (σ : Sg) (x3 : Int32) (x1 : Int64) (h : (((22 : Int32) ≤ x3 → Q (some (.int (2 : Int32))) σ) ∧ (¬ (22 : Int32) ≤ x3 → (inR x3 22 = true → (((lg_cmp (σ.2 21 x3.toNatClampNeg) x1) = 0 → Q (some (.int ((15 : Int32) + x3))) σ) ∧ (¬ (lg_cmp (σ.2 21 x3.toNatClampNeg) x1) = 0 → Pl PRG n d 93 2 [(0, .ref 17), (1, .long x1), (3, .int (x3 + (1 : Int32)))] [] σ Q)))))) : Pl PRG (n + 1) d 93 2 [(0, .ref 17), (1, .long x1), (3, .int x3)] [] σ Q := by
  have hM : PRG[93]? = some M_93 := rfl
  refine Pl.br1 (c := (22 : Int32) ≤ x3) (a := 33) (b := 11) (ls' := [(0, .ref 17), (1, .long x1), (3, .int x3)]) (st' := []) (σ' := σ) hM 4 rfl (fun c => ?_) (fun c => ?_)
  · replace h := h.1 c
    refine Pl.seg (pc' := 34) (ls' := [(0, .ref 17), (1, .long x1), (3, .int x3)]) (st' := [.int (2 : Int32)]) (σ' := σ) hM 1 rfl ?_
    refine Pl.weak (Pl.ret hM rfl rfl h)
  · replace h := h.2 c
    refine Pl.seg (pc' := 16) (ls' := [(0, .ref 17), (1, .long x1), (3, .int x3)]) (st' := [.int x3, .ref 21]) (σ' := σ) hM 3 rfl ?_
    refine Pl.weak (Pl.lald hM rfl rfl (fun hi => ?_))
    replace h := h hi
    refine Pl.brN (c := (lg_cmp (σ.2 21 x3.toNatClampNeg) x1) = 0) (a := 27) (b := 22) (ls' := [(0, .ref 17), (1, .long x1), (3, .int x3)]) (st' := []) (σ' := σ) hM 3 rfl (fun c => ?_) (fun c => ?_)
    · replace h := h.2 c
      refine Pl.seg (pc' := 2) (ls' := [(3, .int (x3 + (1 : Int32))), (0, .ref 17), (1, .long x1)]) (st' := []) (σ' := σ) hM 2 rfl ?_
      exact Pl.live (l' := [(0, .ref 17), (1, .long x1), (3, .int (x3 + (1 : Int32)))]) hM lv_93 ⟨show ndL _ from (by decide : List.Nodup ([3, 0, 1] : List Nat)), show ndL _ from (by decide : List.Nodup ([0, 1, 3] : List Nat)), by rw [lva_93_2]; exact List.forall_mem_cons.mpr ⟨rfl, List.forall_mem_cons.mpr ⟨rfl, List.forall_mem_cons.mpr ⟨rfl, fun _ h => absurd h List.not_mem_nil⟩⟩⟩⟩ h
    · replace h := h.1 c
      refine Pl.seg (pc' := 26) (ls' := [(0, .ref 17), (1, .long x1), (3, .int x3)]) (st' := [.int ((15 : Int32) + x3)]) (σ' := σ) hM 3 rfl ?_
      refine Pl.weak (Pl.ret hM rfl rfl h)
def LV_94 : List (Nat × List Nat) := [(0, [0, 1, 2, 3]), (1, [0, 1, 2, 3]), (3, [0, 1, 2, 3, 4]), (4, [0, 1, 2, 3, 4]), (6, [0, 1, 2, 3, 4, 6]), (8, [0, 1, 2, 3, 4, 6]), (9, [0, 1, 2, 3, 4, 6]), (12, [0, 1, 2, 3, 4, 6]), (14, [0, 1, 2, 3, 4, 6]), (15, [0, 1, 2, 3, 4, 6]), (16, [0, 1, 2, 3, 4, 6]), (19, [0, 1, 2, 3, 4, 6]), (20, [0, 1, 2, 3, 4, 6]), (22, [0, 1, 2, 3, 4, 6]), (23, [0, 1, 2, 3, 4, 6]), (26, [0, 1, 2, 3, 4, 6]), (27, [0, 1, 2, 3, 4, 6]), (30, [0, 1, 2, 3, 4, 6]), (33, [0, 1, 2, 3, 4, 6]), (35, [0, 1, 2, 3, 4, 6]), (36, [0, 1, 2, 3, 4, 6]), (37, [0, 1, 2, 3, 4, 6]), (39, [0, 1, 2, 3, 4, 6]), (42, [0, 1, 2, 3, 4, 6]), (44, [0, 1, 2, 3, 6]), (47, [0, 1, 2, 3, 6]), (48, [0, 1, 2, 3, 6]), (49, [0, 1, 2, 3, 6]), (51, [0, 1, 2, 3, 6]), (52, [0, 1, 2, 3, 6]), (55, [0, 1, 2, 3, 6]), (56, [0, 1, 2, 3, 6]), (58, [0, 1, 2, 3, 6]), (59, [0, 1, 2, 3, 6]), (60, [0, 1, 2, 3, 6]), (61, [0, 1, 2, 3, 6]), (62, [0, 1, 2, 3, 6]), (63, [0, 1, 2, 3, 6]), (65, [0, 1, 2, 3, 4, 6]), (68, [0, 1, 2, 3, 4, 6]), (71, [0, 2, 3, 4, 6]), (73, [0, 2, 3, 4, 6]), (74, [0, 2, 3, 4, 6]), (75, [0, 2, 3, 4, 6]), (77, [0, 2, 3, 4, 6]), (80, [0, 2, 3]), (81, [2, 3]), (82, [2, 3]), (83, [2, 3]), (84, [2]), (87, [2]), (88, []), (89, [0, 3, 4, 6]), (90, [0, 3, 4, 6]), (91, [3, 4, 6]), (93, [3, 4, 6]), (96, [3, 4, 6]), (98, [3, 6]), (99, [6]), (102, [6]), (104, [])]
set_option maxRecDepth 100000 in
theorem lv_94 : chkLv M_94 LV_94 = true := by decide +kernel
set_option maxRecDepth 100000 in
theorem lva_94_6 : lvA LV_94 6 = [0, 1, 2, 3, 4, 6] := by decide +kernel
set_option maxRecDepth 100000 in
theorem lva_94_65 : lvA LV_94 65 = [0, 1, 2, 3, 4, 6] := by decide +kernel
set_option maxRecDepth 100000 in
theorem lva_94_71 : lvA LV_94 71 = [0, 2, 3, 4, 6] := by decide +kernel
set_option maxRecDepth 100000 in
theorem p_94_0 {n d : Nat} {Q : Option Value → Sg → Prop} (σ : Sg) (x2 x3 : Int32) (h : Pl PRG n d 94 6 [(0, .ref 17), (1, .ref 1), (2, .int x2), (3, .int x3), (4, .long (0 : Int64)), (6, .int x3)] [] σ Q) : Pl PRG (n + 1) d 94 0 [(0, .ref 17), (1, .ref 1), (2, .int x2), (3, .int x3)] [] σ Q := by
  have hM : PRG[94]? = some M_94 := rfl
  refine Pl.sg1 (pc' := 6) (ls' := [(6, .int x3), (4, .long (0 : Int64)), (0, .ref 17), (1, .ref 1), (2, .int x2), (3, .int x3)]) (st' := []) (σ' := σ) hM 3 rfl ?_
  exact Pl.live (l' := [(0, .ref 17), (1, .ref 1), (2, .int x2), (3, .int x3), (4, .long (0 : Int64)), (6, .int x3)]) hM lv_94 ⟨show ndL _ from (by decide : List.Nodup ([6, 4, 0, 1, 2, 3] : List Nat)), show ndL _ from (by decide : List.Nodup ([0, 1, 2, 3, 4, 6] : List Nat)), by rw [lva_94_6]; exact List.forall_mem_cons.mpr ⟨rfl, List.forall_mem_cons.mpr ⟨rfl, List.forall_mem_cons.mpr ⟨rfl, List.forall_mem_cons.mpr ⟨rfl, List.forall_mem_cons.mpr ⟨rfl, List.forall_mem_cons.mpr ⟨rfl, fun _ h => absurd h List.not_mem_nil⟩⟩⟩⟩⟩⟩⟩ h
set_option maxRecDepth 100000 in
theorem p_94_6 {n d : Nat} {Q : Option Value → Sg → Prop} (σ : Sg) (x2 x3 x6 : Int32) (x4 : Int64) (h : ((x2 ≤ x6 → Pl PRG n d 94 71 [(0, .ref 17), (2, .int x2), (3, .int x3), (4, .long x4), (6, .int x6)] [] σ Q) ∧ (¬ x2 ≤ x6 → (((2000 : Int32) ≤ x6 → Pl PRG n d 94 71 [(0, .ref 17), (2, .int x2), (3, .int x3), (4, .long x4), (6, .int x6)] [] σ Q) ∧ (¬ (2000 : Int32) ≤ x6 → (inR x6 2000 = true → (∀ w2 σ1, RCx PRG n 91 [.int ((σ.1 1 x6.toNatClampNeg) &&& (255 : Int32))] σ (some (.int w2)) σ1 → (w2 = 0 ∨ w2 = 1) → ((w2 = 0 → Pl PRG n d 94 71 [(0, .ref 17), (2, .int x2), (3, .int x3), (4, .long x4), (6, .int x6)] [] σ1 Q) ∧ (¬ w2 = 0 → (((8 : Int32) ≤ (x6 - x3) → Pl PRG n d 94 65 [(0, .ref 17), (1, .ref 1), (2, .int x2), (3, .int x3), (4, .long x4), (6, .int x6)] [] σ1 Q) ∧ (¬ (8 : Int32) ≤ (x6 - x3) → (inR x6 2000 = true → Pl PRG n d 94 65 [(0, .ref 17), (1, .ref 1), (2, .int x2), (3, .int x3), (4, .long ((x4 * (Int64.ofNat 32)) + ((((σ1.1 1 x6.toNatClampNeg) &&& (255 : Int32)) - (97 : Int32)) + (1 : Int32)).toInt64)), (6, .int x6)] [] σ1 Q)))))))))))) : Pl PRG (n + 1) d 94 6 [(0, .ref 17), (1, .ref 1), (2, .int x2), (3, .int x3), (4, .long x4), (6, .int x6)] [] σ Q := by
  have hM : PRG[94]? = some M_94 := rfl
  refine Pl.br1 (c := x2 ≤ x6) (a := 71) (b := 12) (ls' := [(0, .ref 17), (1, .ref 1), (2, .int x2), (3, .int x3), (4, .long x4), (6, .int x6)]) (st' := []) (σ' := σ) hM 2 rfl (fun c => ?_) (fun c => ?_)
  · replace h := h.1 c
    exact Pl.live (l' := [(0, .ref 17), (2, .int x2), (3, .int x3), (4, .long x4), (6, .int x6)]) hM lv_94 ⟨show ndL _ from (by decide : List.Nodup ([0, 1, 2, 3, 4, 6] : List Nat)), show ndL _ from (by decide : List.Nodup ([0, 2, 3, 4, 6] : List Nat)), by rw [lva_94_71]; exact List.forall_mem_cons.mpr ⟨rfl, List.forall_mem_cons.mpr ⟨rfl, List.forall_mem_cons.mpr ⟨rfl, List.forall_mem_cons.mpr ⟨rfl, List.forall_mem_cons.mpr ⟨rfl, fun _ h => absurd h List.not_mem_nil⟩⟩⟩⟩⟩⟩ h
  · replace h := h.2 c
    refine Pl.br (c := (2000 : Int32) ≤ x6) (a := 71) (b := 19) (ls' := [(0, .ref 17), (1, .ref 1), (2, .int x2), (3, .int x3), (4, .long x4), (6, .int x6)]) (st' := []) (σ' := σ) hM 4 rfl (fun c => ?_) (fun c => ?_)
    · replace h := h.1 c
      exact Pl.live (l' := [(0, .ref 17), (2, .int x2), (3, .int x3), (4, .long x4), (6, .int x6)]) hM lv_94 ⟨show ndL _ from (by decide : List.Nodup ([0, 1, 2, 3, 4, 6] : List Nat)), show ndL _ from (by decide : List.Nodup ([0, 2, 3, 4, 6] : List Nat)), by rw [lva_94_71]; exact List.forall_mem_cons.mpr ⟨rfl, List.forall_mem_cons.mpr ⟨rfl, List.forall_mem_cons.mpr ⟨rfl, List.forall_mem_cons.mpr ⟨rfl, List.forall_mem_cons.mpr ⟨rfl, fun _ h => absurd h List.not_mem_nil⟩⟩⟩⟩⟩⟩ h
    · replace h := h.2 c
      refine Pl.seg (pc' := 22) (ls' := [(0, .ref 17), (1, .ref 1), (2, .int x2), (3, .int x3), (4, .long x4), (6, .int x6)]) (st' := [.int x6, .ref 1]) (σ' := σ) hM 2 rfl ?_
      refine Pl.weak (Pl.bald2 hM rfl rfl (fun hi => ?_))
      replace h := h hi
      refine Pl.seg (pc' := 27) (ls' := [(0, .ref 17), (1, .ref 1), (2, .int x2), (3, .int x3), (4, .long x4), (6, .int x6)]) (st' := [.int ((σ.1 1 x6.toNatClampNeg) &&& (255 : Int32))]) (σ' := σ) hM 2 rfl ?_
      refine Pl.weak (Pl.cZ hM rfl rfl (by decide) (Mj := M_91) rfl rfl (fun w2 σ1 hw hz => ?_))
      replace h := h w2 σ1 hw hz
      refine Pl.br (c := w2 = 0) (a := 71) (b := 33) (ls' := [(0, .ref 17), (1, .ref 1), (2, .int x2), (3, .int x3), (4, .long x4), (6, .int x6)]) (st' := []) (σ' := σ1) hM 1 rfl (fun c => ?_) (fun c => ?_)
      · replace h := h.1 c
        exact Pl.live (l' := [(0, .ref 17), (2, .int x2), (3, .int x3), (4, .long x4), (6, .int x6)]) hM lv_94 ⟨show ndL _ from (by decide : List.Nodup ([0, 1, 2, 3, 4, 6] : List Nat)), show ndL _ from (by decide : List.Nodup ([0, 2, 3, 4, 6] : List Nat)), by rw [lva_94_71]; exact List.forall_mem_cons.mpr ⟨rfl, List.forall_mem_cons.mpr ⟨rfl, List.forall_mem_cons.mpr ⟨rfl, List.forall_mem_cons.mpr ⟨rfl, List.forall_mem_cons.mpr ⟨rfl, fun _ h => absurd h List.not_mem_nil⟩⟩⟩⟩⟩⟩ h
      · replace h := h.2 c
        refine Pl.br (c := (8 : Int32) ≤ (x6 - x3)) (a := 65) (b := 42) (ls' := [(0, .ref 17), (1, .ref 1), (2, .int x2), (3, .int x3), (4, .long x4), (6, .int x6)]) (st' := []) (σ' := σ1) hM 5 rfl (fun c => ?_) (fun c => ?_)
        · replace h := h.1 c
          exact Pl.live (l' := [(0, .ref 17), (1, .ref 1), (2, .int x2), (3, .int x3), (4, .long x4), (6, .int x6)]) hM lv_94 ⟨show ndL _ from (by decide : List.Nodup ([0, 1, 2, 3, 4, 6] : List Nat)), show ndL _ from (by decide : List.Nodup ([0, 1, 2, 3, 4, 6] : List Nat)), by rw [lva_94_65]; exact List.forall_mem_cons.mpr ⟨rfl, List.forall_mem_cons.mpr ⟨rfl, List.forall_mem_cons.mpr ⟨rfl, List.forall_mem_cons.mpr ⟨rfl, List.forall_mem_cons.mpr ⟨rfl, List.forall_mem_cons.mpr ⟨rfl, fun _ h => absurd h List.not_mem_nil⟩⟩⟩⟩⟩⟩⟩ h
        · replace h := h.2 c
          refine Pl.seg (pc' := 51) (ls' := [(0, .ref 17), (1, .ref 1), (2, .int x2), (3, .int x3), (4, .long x4), (6, .int x6)]) (st' := [.int x6, .ref 1, .long (x4 * (Int64.ofNat 32))]) (σ' := σ1) hM 5 rfl ?_
          refine Pl.weak (Pl.bald2 hM rfl rfl (fun hi => ?_))
          replace h := h hi
          refine Pl.seg (pc' := 65) (ls' := [(4, .long ((x4 * (Int64.ofNat 32)) + ((((σ1.1 1 x6.toNatClampNeg) &&& (255 : Int32)) - (97 : Int32)) + (1 : Int32)).toInt64)), (0, .ref 17), (1, .ref 1), (2, .int x2), (3, .int x3), (6, .int x6)]) (st' := []) (σ' := σ1) hM 9 rfl ?_
          exact Pl.live (l' := [(0, .ref 17), (1, .ref 1), (2, .int x2), (3, .int x3), (4, .long ((x4 * (Int64.ofNat 32)) + ((((σ1.1 1 x6.toNatClampNeg) &&& (255 : Int32)) - (97 : Int32)) + (1 : Int32)).toInt64)), (6, .int x6)]) hM lv_94 ⟨show ndL _ from (by decide : List.Nodup ([4, 0, 1, 2, 3, 6] : List Nat)), show ndL _ from (by decide : List.Nodup ([0, 1, 2, 3, 4, 6] : List Nat)), by rw [lva_94_65]; exact List.forall_mem_cons.mpr ⟨rfl, List.forall_mem_cons.mpr ⟨rfl, List.forall_mem_cons.mpr ⟨rfl, List.forall_mem_cons.mpr ⟨rfl, List.forall_mem_cons.mpr ⟨rfl, List.forall_mem_cons.mpr ⟨rfl, fun _ h => absurd h List.not_mem_nil⟩⟩⟩⟩⟩⟩⟩ h
set_option maxRecDepth 100000 in
theorem p_94_71 {n d : Nat} {Q : Option Value → Sg → Prop} (σ : Sg) (x2 x3 x6 : Int32) (x4 : Int64) (h : (((x6 - x3) ≤ (8 : Int32) → (∀ w2 σ1, RCx PRG n 93 [.ref 17, .long x4] σ (some (.int w2)) σ1 → (∀ σ3, RCx PRG n 92 [.ref 17, .int w2, .long x4, .int x3] σ1 none σ3 → Q (some (.int x6)) σ3))) ∧ (¬ (x6 - x3) ≤ (8 : Int32) → (∀ σ4, RCx PRG n 92 [.ref 17, .int (1 : Int32), .long (0 : Int64), .int x3] σ none σ4 → Q (some (.int x2)) σ4)))) : Pl PRG (n + 1) d 94 71 [(0, .ref 17), (2, .int x2), (3, .int x3), (4, .long x4), (6, .int x6)] [] σ Q := by
  have hM : PRG[94]? = some M_94 := rfl
  refine Pl.br1 (c := (x6 - x3) ≤ (8 : Int32)) (a := 89) (b := 80) (ls' := [(0, .ref 17), (2, .int x2), (3, .int x3), (4, .long x4), (6, .int x6)]) (st' := []) (σ' := σ) hM 4 rfl (fun c => ?_) (fun c => ?_)
  · replace h := h.1 c
    refine Pl.seg (pc' := 93) (ls' := [(0, .ref 17), (2, .int x2), (3, .int x3), (4, .long x4), (6, .int x6)]) (st' := [.long x4, .ref 17, .ref 17]) (σ' := σ) hM 3 rfl ?_
    refine Pl.weak (Pl.cI hM rfl rfl (by decide) (Mj := M_93) rfl rfl (fun w2 σ1 hw => ?_))
    replace h := h w2 σ1 hw
    refine Pl.seg (pc' := 99) (ls' := [(0, .ref 17), (2, .int x2), (3, .int x3), (4, .long x4), (6, .int x6)]) (st' := [.int x3, .long x4, .int w2, .ref 17]) (σ' := σ1) hM 2 rfl ?_
    refine Pl.weak (Pl.cV hM rfl rfl (by decide) (Mj := M_92) rfl rfl (fun σ3 hw => ?_))
    replace h := h σ3 hw
    refine Pl.seg (pc' := 104) (ls' := [(0, .ref 17), (2, .int x2), (3, .int x3), (4, .long x4), (6, .int x6)]) (st' := [.int x6]) (σ' := σ3) hM 1 rfl ?_
    refine Pl.weak (Pl.ret hM rfl rfl h)
  · replace h := h.2 c
    refine Pl.seg (pc' := 84) (ls' := [(0, .ref 17), (2, .int x2), (3, .int x3), (4, .long x4), (6, .int x6)]) (st' := [.int x3, .long (0 : Int64), .int (1 : Int32), .ref 17]) (σ' := σ) hM 4 rfl ?_
    refine Pl.weak (Pl.cV hM rfl rfl (by decide) (Mj := M_92) rfl rfl (fun σ4 hw => ?_))
    replace h := h σ4 hw
    refine Pl.seg (pc' := 88) (ls' := [(0, .ref 17), (2, .int x2), (3, .int x3), (4, .long x4), (6, .int x6)]) (st' := [.int x2]) (σ' := σ4) hM 1 rfl ?_
    refine Pl.weak (Pl.ret hM rfl rfl h)
set_option maxRecDepth 100000 in
theorem p_94_65 {n d : Nat} {Q : Option Value → Sg → Prop} (σ : Sg) (x2 x3 x6 : Int32) (x4 : Int64) (h : Pl PRG n d 94 6 [(0, .ref 17), (1, .ref 1), (2, .int x2), (3, .int x3), (4, .long x4), (6, .int (x6 + (1 : Int32)))] [] σ Q) : Pl PRG (n + 1) d 94 65 [(0, .ref 17), (1, .ref 1), (2, .int x2), (3, .int x3), (4, .long x4), (6, .int x6)] [] σ Q := by
  have hM : PRG[94]? = some M_94 := rfl
  refine Pl.sg1 (pc' := 6) (ls' := [(6, .int (x6 + (1 : Int32))), (0, .ref 17), (1, .ref 1), (2, .int x2), (3, .int x3), (4, .long x4)]) (st' := []) (σ' := σ) hM 1 rfl ?_
  exact Pl.live (l' := [(0, .ref 17), (1, .ref 1), (2, .int x2), (3, .int x3), (4, .long x4), (6, .int (x6 + (1 : Int32)))]) hM lv_94 ⟨show ndL _ from (by decide : List.Nodup ([6, 0, 1, 2, 3, 4] : List Nat)), show ndL _ from (by decide : List.Nodup ([0, 1, 2, 3, 4, 6] : List Nat)), by rw [lva_94_6]; exact List.forall_mem_cons.mpr ⟨rfl, List.forall_mem_cons.mpr ⟨rfl, List.forall_mem_cons.mpr ⟨rfl, List.forall_mem_cons.mpr ⟨rfl, List.forall_mem_cons.mpr ⟨rfl, List.forall_mem_cons.mpr ⟨rfl, fun _ h => absurd h List.not_mem_nil⟩⟩⟩⟩⟩⟩⟩ h
def LV_96 : List (Nat × List Nat) := [(0, [0, 1, 2, 3]), (1, [0, 1, 2, 3]), (3, [0, 1, 2, 3, 4]), (4, [0, 1, 2, 3, 4]), (6, [0, 1, 2, 3, 4, 5]), (8, [0, 1, 2, 3, 4, 5]), (9, [0, 1, 2, 3, 4, 5]), (12, [0, 1, 2, 3, 4, 5]), (14, [0, 1, 2, 3, 4, 5]), (15, [0, 1, 2, 3, 4, 5]), (16, [0, 1, 2, 3, 4, 5]), (19, [0, 1, 2, 3, 4, 5]), (20, [0, 1, 2, 3, 4, 5]), (22, [0, 1, 2, 3, 4, 5]), (23, [0, 1, 2, 3, 4, 5]), (26, [0, 1, 2, 3, 4, 5]), (27, [0, 1, 2, 3, 4, 5]), (30, [0, 1, 2, 3, 4, 5]), (33, [0, 1, 2, 3, 4, 5]), (35, [0, 1, 2, 3, 4, 5]), (36, [0, 1, 2, 3, 4, 5]), (37, [0, 1, 2, 3, 4, 5]), (38, [0, 1, 2, 3, 4, 5]), (41, [0, 1, 2, 3, 4, 5]), (43, [0, 1, 2, 3, 5]), (45, [0, 1, 2, 3, 5]), (46, [0, 1, 2, 3, 5]), (47, [0, 1, 2, 3, 5]), (49, [0, 1, 2, 3, 5]), (50, [0, 1, 2, 3, 5]), (53, [0, 1, 2, 3, 5]), (54, [0, 1, 2, 3, 5]), (56, [0, 1, 2, 3, 5]), (57, [0, 1, 2, 3, 5]), (58, [0, 1, 2, 3, 5]), (60, [0, 1, 2, 3, 4, 5]), (63, [0, 1, 2, 3, 4, 5]), (66, [0, 2, 3, 4, 5]), (68, [0, 2, 3, 4, 5]), (69, [0, 2, 3, 4, 5]), (70, [0, 2, 3, 4, 5]), (71, [0, 2, 3, 4, 5]), (74, [0, 2, 3]), (75, [2, 3]), (76, [2, 3]), (77, [2, 3]), (78, [2]), (81, [2]), (82, []), (83, [0, 3, 4, 5]), (84, [3, 4, 5]), (85, [3, 4, 5]), (87, [3, 5]), (88, [3, 5]), (89, [5]), (92, [5]), (94, [])]
set_option maxRecDepth 100000 in
theorem lv_96 : chkLv M_96 LV_96 = true := by decide +kernel
set_option maxRecDepth 100000 in
theorem lva_96_6 : lvA LV_96 6 = [0, 1, 2, 3, 4, 5] := by decide +kernel
set_option maxRecDepth 100000 in
theorem lva_96_60 : lvA LV_96 60 = [0, 1, 2, 3, 4, 5] := by decide +kernel
set_option maxRecDepth 100000 in
theorem lva_96_66 : lvA LV_96 66 = [0, 2, 3, 4, 5] := by decide +kernel
set_option maxRecDepth 100000 in
theorem p_96_0 {n d : Nat} {Q : Option Value → Sg → Prop} (σ : Sg) (x2 x3 : Int32) (h : Pl PRG n d 96 6 [(0, .ref 17), (1, .ref 1), (2, .int x2), (3, .int x3), (4, .int (0 : Int32)), (5, .int x3)] [] σ Q) : Pl PRG (n + 1) d 96 0 [(0, .ref 17), (1, .ref 1), (2, .int x2), (3, .int x3)] [] σ Q := by
  have hM : PRG[96]? = some M_96 := rfl
  refine Pl.sg1 (pc' := 6) (ls' := [(5, .int x3), (4, .int (0 : Int32)), (0, .ref 17), (1, .ref 1), (2, .int x2), (3, .int x3)]) (st' := []) (σ' := σ) hM 3 rfl ?_
  exact Pl.live (l' := [(0, .ref 17), (1, .ref 1), (2, .int x2), (3, .int x3), (4, .int (0 : Int32)), (5, .int x3)]) hM lv_96 ⟨show ndL _ from (by decide : List.Nodup ([5, 4, 0, 1, 2, 3] : List Nat)), show ndL _ from (by decide : List.Nodup ([0, 1, 2, 3, 4, 5] : List Nat)), by rw [lva_96_6]; exact List.forall_mem_cons.mpr ⟨rfl, List.forall_mem_cons.mpr ⟨rfl, List.forall_mem_cons.mpr ⟨rfl, List.forall_mem_cons.mpr ⟨rfl, List.forall_mem_cons.mpr ⟨rfl, List.forall_mem_cons.mpr ⟨rfl, fun _ h => absurd h List.not_mem_nil⟩⟩⟩⟩⟩⟩⟩ h
set_option maxRecDepth 100000 in
theorem p_96_6 {n d : Nat} {Q : Option Value → Sg → Prop} (σ : Sg) (x2 x3 x4 x5 : Int32) (h : ((x2 ≤ x5 → Pl PRG n d 96 66 [(0, .ref 17), (2, .int x2), (3, .int x3), (4, .int x4), (5, .int x5)] [] σ Q) ∧ (¬ x2 ≤ x5 → (((2000 : Int32) ≤ x5 → Pl PRG n d 96 66 [(0, .ref 17), (2, .int x2), (3, .int x3), (4, .int x4), (5, .int x5)] [] σ Q) ∧ (¬ (2000 : Int32) ≤ x5 → (inR x5 2000 = true → (∀ w2 σ1, RCx PRG n 95 [.int ((σ.1 1 x5.toNatClampNeg) &&& (255 : Int32))] σ (some (.int w2)) σ1 → (w2 = 0 ∨ w2 = 1) → ((w2 = 0 → Pl PRG n d 96 66 [(0, .ref 17), (2, .int x2), (3, .int x3), (4, .int x4), (5, .int x5)] [] σ1 Q) ∧ (¬ w2 = 0 → (((4 : Int32) ≤ (x5 - x3) → Pl PRG n d 96 60 [(0, .ref 17), (1, .ref 1), (2, .int x2), (3, .int x3), (4, .int x4), (5, .int x5)] [] σ1 Q) ∧ (¬ (4 : Int32) ≤ (x5 - x3) → (inR x5 2000 = true → Pl PRG n d 96 60 [(0, .ref 17), (1, .ref 1), (2, .int x2), (3, .int x3), (4, .int ((x4 * (10 : Int32)) + (((σ1.1 1 x5.toNatClampNeg) &&& (255 : Int32)) - (48 : Int32)))), (5, .int x5)] [] σ1 Q)))))))))))) : Pl PRG (n + 1) d 96 6 [(0, .ref 17), (1, .ref 1), (2, .int x2), (3, .int x3), (4, .int x4), (5, .int x5)] [] σ Q := by
  have hM : PRG[96]? = some M_96 := rfl
  refine Pl.br1 (c := x2 ≤ x5) (a := 66) (b := 12) (ls' := [(0, .ref 17), (1, .ref 1), (2, .int x2), (3, .int x3), (4, .int x4), (5, .int x5)]) (st' := []) (σ' := σ) hM 2 rfl (fun c => ?_) (fun c => ?_)
  · replace h := h.1 c
    exact Pl.live (l' := [(0, .ref 17), (2, .int x2), (3, .int x3), (4, .int x4), (5, .int x5)]) hM lv_96 ⟨show ndL _ from (by decide : List.Nodup ([0, 1, 2, 3, 4, 5] : List Nat)), show ndL _ from (by decide : List.Nodup ([0, 2, 3, 4, 5] : List Nat)), by rw [lva_96_66]; exact List.forall_mem_cons.mpr ⟨rfl, List.forall_mem_cons.mpr ⟨rfl, List.forall_mem_cons.mpr ⟨rfl, List.forall_mem_cons.mpr ⟨rfl, List.forall_mem_cons.mpr ⟨rfl, fun _ h => absurd h List.not_mem_nil⟩⟩⟩⟩⟩⟩ h
  · replace h := h.2 c
    refine Pl.br (c := (2000 : Int32) ≤ x5) (a := 66) (b := 19) (ls' := [(0, .ref 17), (1, .ref 1), (2, .int x2), (3, .int x3), (4, .int x4), (5, .int x5)]) (st' := []) (σ' := σ) hM 4 rfl (fun c => ?_) (fun c => ?_)
    · replace h := h.1 c
      exact Pl.live (l' := [(0, .ref 17), (2, .int x2), (3, .int x3), (4, .int x4), (5, .int x5)]) hM lv_96 ⟨show ndL _ from (by decide : List.Nodup ([0, 1, 2, 3, 4, 5] : List Nat)), show ndL _ from (by decide : List.Nodup ([0, 2, 3, 4, 5] : List Nat)), by rw [lva_96_66]; exact List.forall_mem_cons.mpr ⟨rfl, List.forall_mem_cons.mpr ⟨rfl, List.forall_mem_cons.mpr ⟨rfl, List.forall_mem_cons.mpr ⟨rfl, List.forall_mem_cons.mpr ⟨rfl, fun _ h => absurd h List.not_mem_nil⟩⟩⟩⟩⟩⟩ h
    · replace h := h.2 c
      refine Pl.seg (pc' := 22) (ls' := [(0, .ref 17), (1, .ref 1), (2, .int x2), (3, .int x3), (4, .int x4), (5, .int x5)]) (st' := [.int x5, .ref 1]) (σ' := σ) hM 2 rfl ?_
      refine Pl.weak (Pl.bald2 hM rfl rfl (fun hi => ?_))
      replace h := h hi
      refine Pl.seg (pc' := 27) (ls' := [(0, .ref 17), (1, .ref 1), (2, .int x2), (3, .int x3), (4, .int x4), (5, .int x5)]) (st' := [.int ((σ.1 1 x5.toNatClampNeg) &&& (255 : Int32))]) (σ' := σ) hM 2 rfl ?_
      refine Pl.weak (Pl.cZ hM rfl rfl (by decide) (Mj := M_95) rfl rfl (fun w2 σ1 hw hz => ?_))
      replace h := h w2 σ1 hw hz
      refine Pl.br (c := w2 = 0) (a := 66) (b := 33) (ls' := [(0, .ref 17), (1, .ref 1), (2, .int x2), (3, .int x3), (4, .int x4), (5, .int x5)]) (st' := []) (σ' := σ1) hM 1 rfl (fun c => ?_) (fun c => ?_)
      · replace h := h.1 c
        exact Pl.live (l' := [(0, .ref 17), (2, .int x2), (3, .int x3), (4, .int x4), (5, .int x5)]) hM lv_96 ⟨show ndL _ from (by decide : List.Nodup ([0, 1, 2, 3, 4, 5] : List Nat)), show ndL _ from (by decide : List.Nodup ([0, 2, 3, 4, 5] : List Nat)), by rw [lva_96_66]; exact List.forall_mem_cons.mpr ⟨rfl, List.forall_mem_cons.mpr ⟨rfl, List.forall_mem_cons.mpr ⟨rfl, List.forall_mem_cons.mpr ⟨rfl, List.forall_mem_cons.mpr ⟨rfl, fun _ h => absurd h List.not_mem_nil⟩⟩⟩⟩⟩⟩ h
      · replace h := h.2 c
        refine Pl.br (c := (4 : Int32) ≤ (x5 - x3)) (a := 60) (b := 41) (ls' := [(0, .ref 17), (1, .ref 1), (2, .int x2), (3, .int x3), (4, .int x4), (5, .int x5)]) (st' := []) (σ' := σ1) hM 5 rfl (fun c => ?_) (fun c => ?_)
        · replace h := h.1 c
          exact Pl.live (l' := [(0, .ref 17), (1, .ref 1), (2, .int x2), (3, .int x3), (4, .int x4), (5, .int x5)]) hM lv_96 ⟨show ndL _ from (by decide : List.Nodup ([0, 1, 2, 3, 4, 5] : List Nat)), show ndL _ from (by decide : List.Nodup ([0, 1, 2, 3, 4, 5] : List Nat)), by rw [lva_96_60]; exact List.forall_mem_cons.mpr ⟨rfl, List.forall_mem_cons.mpr ⟨rfl, List.forall_mem_cons.mpr ⟨rfl, List.forall_mem_cons.mpr ⟨rfl, List.forall_mem_cons.mpr ⟨rfl, List.forall_mem_cons.mpr ⟨rfl, fun _ h => absurd h List.not_mem_nil⟩⟩⟩⟩⟩⟩⟩ h
        · replace h := h.2 c
          refine Pl.seg (pc' := 49) (ls' := [(0, .ref 17), (1, .ref 1), (2, .int x2), (3, .int x3), (4, .int x4), (5, .int x5)]) (st' := [.int x5, .ref 1, .int (x4 * (10 : Int32))]) (σ' := σ1) hM 5 rfl ?_
          refine Pl.weak (Pl.bald2 hM rfl rfl (fun hi => ?_))
          replace h := h hi
          refine Pl.seg (pc' := 60) (ls' := [(4, .int ((x4 * (10 : Int32)) + (((σ1.1 1 x5.toNatClampNeg) &&& (255 : Int32)) - (48 : Int32)))), (0, .ref 17), (1, .ref 1), (2, .int x2), (3, .int x3), (5, .int x5)]) (st' := []) (σ' := σ1) hM 6 rfl ?_
          exact Pl.live (l' := [(0, .ref 17), (1, .ref 1), (2, .int x2), (3, .int x3), (4, .int ((x4 * (10 : Int32)) + (((σ1.1 1 x5.toNatClampNeg) &&& (255 : Int32)) - (48 : Int32)))), (5, .int x5)]) hM lv_96 ⟨show ndL _ from (by decide : List.Nodup ([4, 0, 1, 2, 3, 5] : List Nat)), show ndL _ from (by decide : List.Nodup ([0, 1, 2, 3, 4, 5] : List Nat)), by rw [lva_96_60]; exact List.forall_mem_cons.mpr ⟨rfl, List.forall_mem_cons.mpr ⟨rfl, List.forall_mem_cons.mpr ⟨rfl, List.forall_mem_cons.mpr ⟨rfl, List.forall_mem_cons.mpr ⟨rfl, List.forall_mem_cons.mpr ⟨rfl, fun _ h => absurd h List.not_mem_nil⟩⟩⟩⟩⟩⟩⟩ h
set_option maxRecDepth 100000 in
theorem p_96_66 {n d : Nat} {Q : Option Value → Sg → Prop} (σ : Sg) (x2 x3 x4 x5 : Int32) (h : (((x5 - x3) ≤ (4 : Int32) → (∀ σ1, RCx PRG n 92 [.ref 17, .int (3 : Int32), .long x4.toInt64, .int x3] σ none σ1 → Q (some (.int x5)) σ1)) ∧ (¬ (x5 - x3) ≤ (4 : Int32) → (∀ σ2, RCx PRG n 92 [.ref 17, .int (1 : Int32), .long (0 : Int64), .int x3] σ none σ2 → Q (some (.int x2)) σ2)))) : Pl PRG (n + 1) d 96 66 [(0, .ref 17), (2, .int x2), (3, .int x3), (4, .int x4), (5, .int x5)] [] σ Q := by
  have hM : PRG[96]? = some M_96 := rfl
  refine Pl.br1 (c := (x5 - x3) ≤ (4 : Int32)) (a := 83) (b := 74) (ls' := [(0, .ref 17), (2, .int x2), (3, .int x3), (4, .int x4), (5, .int x5)]) (st' := []) (σ' := σ) hM 4 rfl (fun c => ?_) (fun c => ?_)
  · replace h := h.1 c
    refine Pl.seg (pc' := 89) (ls' := [(0, .ref 17), (2, .int x2), (3, .int x3), (4, .int x4), (5, .int x5)]) (st' := [.int x3, .long x4.toInt64, .int (3 : Int32), .ref 17]) (σ' := σ) hM 5 rfl ?_
    refine Pl.weak (Pl.cV hM rfl rfl (by decide) (Mj := M_92) rfl rfl (fun σ1 hw => ?_))
    replace h := h σ1 hw
    refine Pl.seg (pc' := 94) (ls' := [(0, .ref 17), (2, .int x2), (3, .int x3), (4, .int x4), (5, .int x5)]) (st' := [.int x5]) (σ' := σ1) hM 1 rfl ?_
    refine Pl.weak (Pl.ret hM rfl rfl h)
  · replace h := h.2 c
    refine Pl.seg (pc' := 78) (ls' := [(0, .ref 17), (2, .int x2), (3, .int x3), (4, .int x4), (5, .int x5)]) (st' := [.int x3, .long (0 : Int64), .int (1 : Int32), .ref 17]) (σ' := σ) hM 4 rfl ?_
    refine Pl.weak (Pl.cV hM rfl rfl (by decide) (Mj := M_92) rfl rfl (fun σ2 hw => ?_))
    replace h := h σ2 hw
    refine Pl.seg (pc' := 82) (ls' := [(0, .ref 17), (2, .int x2), (3, .int x3), (4, .int x4), (5, .int x5)]) (st' := [.int x2]) (σ' := σ2) hM 1 rfl ?_
    refine Pl.weak (Pl.ret hM rfl rfl h)
set_option maxRecDepth 100000 in
theorem p_96_60 {n d : Nat} {Q : Option Value → Sg → Prop} (σ : Sg) (x2 x3 x4 x5 : Int32) (h : Pl PRG n d 96 6 [(0, .ref 17), (1, .ref 1), (2, .int x2), (3, .int x3), (4, .int x4), (5, .int (x5 + (1 : Int32)))] [] σ Q) : Pl PRG (n + 1) d 96 60 [(0, .ref 17), (1, .ref 1), (2, .int x2), (3, .int x3), (4, .int x4), (5, .int x5)] [] σ Q := by
  have hM : PRG[96]? = some M_96 := rfl
  refine Pl.sg1 (pc' := 6) (ls' := [(5, .int (x5 + (1 : Int32))), (0, .ref 17), (1, .ref 1), (2, .int x2), (3, .int x3), (4, .int x4)]) (st' := []) (σ' := σ) hM 1 rfl ?_
  exact Pl.live (l' := [(0, .ref 17), (1, .ref 1), (2, .int x2), (3, .int x3), (4, .int x4), (5, .int (x5 + (1 : Int32)))]) hM lv_96 ⟨show ndL _ from (by decide : List.Nodup ([5, 0, 1, 2, 3, 4] : List Nat)), show ndL _ from (by decide : List.Nodup ([0, 1, 2, 3, 4, 5] : List Nat)), by rw [lva_96_6]; exact List.forall_mem_cons.mpr ⟨rfl, List.forall_mem_cons.mpr ⟨rfl, List.forall_mem_cons.mpr ⟨rfl, List.forall_mem_cons.mpr ⟨rfl, List.forall_mem_cons.mpr ⟨rfl, List.forall_mem_cons.mpr ⟨rfl, fun _ h => absurd h List.not_mem_nil⟩⟩⟩⟩⟩⟩⟩ h
set_option maxRecDepth 100000 in
theorem p_97_0 {n d : Nat} {Q : Option Value → Sg → Prop} (σ : Sg) (x0 x1 : Int32) (h : ((x0.toInt < 33 ∨ 61 < x0.toInt → Q (some (.int (1 : Int32))) σ) ∧ (x0.toInt = 33 → ((x1 = 0 → Q (some (.int (1 : Int32))) σ) ∧ (¬ x1 = 0 → Q (some (.int (10 : Int32))) σ))) ∧ (x0.toInt = 34 → Q (some (.int (1 : Int32))) σ) ∧ (x0.toInt = 35 → Q (some (.int (1 : Int32))) σ) ∧ (x0.toInt = 36 → Q (some (.int (1 : Int32))) σ) ∧ (x0.toInt = 37 → Q (some (.int (1 : Int32))) σ) ∧ (x0.toInt = 38 → Q (some (.int (1 : Int32))) σ) ∧ (x0.toInt = 39 → Q (some (.int (1 : Int32))) σ) ∧ (x0.toInt = 40 → Q (some (.int (13 : Int32))) σ) ∧ (x0.toInt = 41 → Q (some (.int (14 : Int32))) σ) ∧ (x0.toInt = 42 → Q (some (.int (7 : Int32))) σ) ∧ (x0.toInt = 43 → Q (some (.int (5 : Int32))) σ) ∧ (x0.toInt = 44 → Q (some (.int (1 : Int32))) σ) ∧ (x0.toInt = 45 → Q (some (.int (6 : Int32))) σ) ∧ (x0.toInt = 46 → Q (some (.int (1 : Int32))) σ) ∧ (x0.toInt = 47 → Q (some (.int (8 : Int32))) σ) ∧ (x0.toInt = 48 → Q (some (.int (1 : Int32))) σ) ∧ (x0.toInt = 49 → Q (some (.int (1 : Int32))) σ) ∧ (x0.toInt = 50 → Q (some (.int (1 : Int32))) σ) ∧ (x0.toInt = 51 → Q (some (.int (1 : Int32))) σ) ∧ (x0.toInt = 52 → Q (some (.int (1 : Int32))) σ) ∧ (x0.toInt = 53 → Q (some (.int (1 : Int32))) σ) ∧ (x0.toInt = 54 → Q (some (.int (1 : Int32))) σ) ∧ (x0.toInt = 55 → Q (some (.int (1 : Int32))) σ) ∧ (x0.toInt = 56 → Q (some (.int (1 : Int32))) σ) ∧ (x0.toInt = 57 → Q (some (.int (1 : Int32))) σ) ∧ (x0.toInt = 58 → Q (some (.int (1 : Int32))) σ) ∧ (x0.toInt = 59 → Q (some (.int (4 : Int32))) σ) ∧ (x0.toInt = 60 → ((x1 = 0 → Q (some (.int (11 : Int32))) σ) ∧ (¬ x1 = 0 → Q (some (.int (12 : Int32))) σ))) ∧ (x0.toInt = 61 → ((x1 = 0 → Q (some (.int (1 : Int32))) σ) ∧ (¬ x1 = 0 → Q (some (.int (9 : Int32))) σ))))) : Pl PRG (n + 1) d 97 0 [(0, .int x0), (1, .int x1)] [] σ Q := by
  have hM : PRG[97]? = some M_97 := rfl
  refine Pl.sg1 (pc' := 1) (ls' := [(0, .int x0), (1, .int x1)]) (st' := [.int x0]) (σ' := σ) hM 0 rfl ?_
  refine Pl.weak (Pl.tsw hM rfl (fun c => ?_) (fun j o c ho => ?_))
  · replace h := h.1 c
    show Pl PRG n d 97 185 [(0, .int x0), (1, .int x1)] [] σ Q
    refine Pl.seg (pc' := 186) (ls' := [(0, .int x0), (1, .int x1)]) (st' := [.int (1 : Int32)]) (σ' := σ) hM 1 rfl ?_
    refine Pl.weak (Pl.ret hM rfl rfl h)
  · match j, c, ho with
    | 0, c, ho =>
      have ho : some (173 : Int) = some o := ho
      cases ho
      have c : x0.toInt = 33 := by simpa using c
      replace h := h.2.1 c
      show Pl PRG n d 97 174 [(0, .int x0), (1, .int x1)] [] σ Q
      refine Pl.br (c := x1 = 0) (a := 183) (b := 178) (ls' := [(0, .int x0), (1, .int x1)]) (st' := []) (σ' := σ) hM 2 rfl (fun c => ?_) (fun c => ?_)
      · replace h := h.1 c
        refine Pl.seg (pc' := 184) (ls' := [(0, .int x0), (1, .int x1)]) (st' := [.int (1 : Int32)]) (σ' := σ) hM 1 rfl ?_
        refine Pl.weak (Pl.ret hM rfl rfl h)
      · replace h := h.2 c
        refine Pl.seg (pc' := 184) (ls' := [(0, .int x0), (1, .int x1)]) (st' := [.int (10 : Int32)]) (σ' := σ) hM 2 rfl ?_
        refine Pl.weak (Pl.ret hM rfl rfl h)
    | 1, c, ho =>
      have ho : some (184 : Int) = some o := ho
      cases ho
      have c : x0.toInt = 34 := by simpa using c
      replace h := h.2.2.1 c
      show Pl PRG n d 97 185 [(0, .int x0), (1, .int x1)] [] σ Q
      refine Pl.seg (pc' := 186) (ls' := [(0, .int x0), (1, .int x1)]) (st' := [.int (1 : Int32)]) (σ' := σ) hM 1 rfl ?_
      refine Pl.weak (Pl.ret hM rfl rfl h)
    | 2, c, ho =>
      have ho : some (184 : Int) = some o := ho
      cases ho
      have c : x0.toInt = 35 := by simpa using c
      replace h := h.2.2.2.1 c
      show Pl PRG n d 97 185 [(0, .int x0), (1, .int x1)] [] σ Q
      refine Pl.seg (pc' := 186) (ls' := [(0, .int x0), (1, .int x1)]) (st' := [.int (1 : Int32)]) (σ' := σ) hM 1 rfl ?_
      refine Pl.weak (Pl.ret hM rfl rfl h)
    | 3, c, ho =>
      have ho : some (184 : Int) = some o := ho
      cases ho
      have c : x0.toInt = 36 := by simpa using c
      replace h := h.2.2.2.2.1 c
      show Pl PRG n d 97 185 [(0, .int x0), (1, .int x1)] [] σ Q
      refine Pl.seg (pc' := 186) (ls' := [(0, .int x0), (1, .int x1)]) (st' := [.int (1 : Int32)]) (σ' := σ) hM 1 rfl ?_
      refine Pl.weak (Pl.ret hM rfl rfl h)
    | 4, c, ho =>
      have ho : some (184 : Int) = some o := ho
      cases ho
      have c : x0.toInt = 37 := by simpa using c
      replace h := h.2.2.2.2.2.1 c
      show Pl PRG n d 97 185 [(0, .int x0), (1, .int x1)] [] σ Q
      refine Pl.seg (pc' := 186) (ls' := [(0, .int x0), (1, .int x1)]) (st' := [.int (1 : Int32)]) (σ' := σ) hM 1 rfl ?_
      refine Pl.weak (Pl.ret hM rfl rfl h)
    | 5, c, ho =>
      have ho : some (184 : Int) = some o := ho
      cases ho
      have c : x0.toInt = 38 := by simpa using c
      replace h := h.2.2.2.2.2.2.1 c
      show Pl PRG n d 97 185 [(0, .int x0), (1, .int x1)] [] σ Q
      refine Pl.seg (pc' := 186) (ls' := [(0, .int x0), (1, .int x1)]) (st' := [.int (1 : Int32)]) (σ' := σ) hM 1 rfl ?_
      refine Pl.weak (Pl.ret hM rfl rfl h)
    | 6, c, ho =>
      have ho : some (184 : Int) = some o := ho
      cases ho
      have c : x0.toInt = 39 := by simpa using c
      replace h := h.2.2.2.2.2.2.2.1 c
      show Pl PRG n d 97 185 [(0, .int x0), (1, .int x1)] [] σ Q
      refine Pl.seg (pc' := 186) (ls' := [(0, .int x0), (1, .int x1)]) (st' := [.int (1 : Int32)]) (σ' := σ) hM 1 rfl ?_
      refine Pl.weak (Pl.ret hM rfl rfl h)
    | 7, c, ho =>
      have ho : some (144 : Int) = some o := ho
      cases ho
      have c : x0.toInt = 40 := by simpa using c
      replace h := h.2.2.2.2.2.2.2.2.1 c
      show Pl PRG n d 97 145 [(0, .int x0), (1, .int x1)] [] σ Q
      refine Pl.seg (pc' := 147) (ls' := [(0, .int x0), (1, .int x1)]) (st' := [.int (13 : Int32)]) (σ' := σ) hM 1 rfl ?_
      refine Pl.weak (Pl.ret hM rfl rfl h)
    | 8, c, ho =>
      have ho : some (147 : Int) = some o := ho
      cases ho
      have c : x0.toInt = 41 := by simpa using c
      replace h := h.2.2.2.2.2.2.2.2.2.1 c
      show Pl PRG n d 97 148 [(0, .int x0), (1, .int x1)] [] σ Q
      refine Pl.seg (pc' := 150) (ls' := [(0, .int x0), (1, .int x1)]) (st' := [.int (14 : Int32)]) (σ' := σ) hM 1 rfl ?_
      refine Pl.weak (Pl.ret hM rfl rfl h)
    | 9, c, ho =>
      have ho : some (138 : Int) = some o := ho
      cases ho
      have c : x0.toInt = 42 := by simpa using c
      replace h := h.2.2.2.2.2.2.2.2.2.2.1 c
      show Pl PRG n d 97 139 [(0, .int x0), (1, .int x1)] [] σ Q
      refine Pl.seg (pc' := 141) (ls' := [(0, .int x0), (1, .int x1)]) (st' := [.int (7 : Int32)]) (σ' := σ) hM 1 rfl ?_
      refine Pl.weak (Pl.ret hM rfl rfl h)
    | 10, c, ho =>
      have ho : some (133 : Int) = some o := ho
      cases ho
      have c : x0.toInt = 43 := by simpa using c
      replace h := h.2.2.2.2.2.2.2.2.2.2.2.1 c
      show Pl PRG n d 97 134 [(0, .int x0), (1, .int x1)] [] σ Q
      refine Pl.seg (pc' := 135) (ls' := [(0, .int x0), (1, .int x1)]) (st' := [.int (5 : Int32)]) (σ' := σ) hM 1 rfl ?_
      refine Pl.weak (Pl.ret hM rfl rfl h)
    | 11, c, ho =>
      have ho : some (184 : Int) = some o := ho
      cases ho
      have c : x0.toInt = 44 := by simpa using c
      replace h := h.2.2.2.2.2.2.2.2.2.2.2.2.1 c
      show Pl PRG n d 97 185 [(0, .int x0), (1, .int x1)] [] σ Q
      refine Pl.seg (pc' := 186) (ls' := [(0, .int x0), (1, .int x1)]) (st' := [.int (1 : Int32)]) (σ' := σ) hM 1 rfl ?_
      refine Pl.weak (Pl.ret hM rfl rfl h)
    | 12, c, ho =>
      have ho : some (135 : Int) = some o := ho
      cases ho
      have c : x0.toInt = 45 := by simpa using c
      replace h := h.2.2.2.2.2.2.2.2.2.2.2.2.2.1 c
      show Pl PRG n d 97 136 [(0, .int x0), (1, .int x1)] [] σ Q
      refine Pl.seg (pc' := 138) (ls' := [(0, .int x0), (1, .int x1)]) (st' := [.int (6 : Int32)]) (σ' := σ) hM 1 rfl ?_
      refine Pl.weak (Pl.ret hM rfl rfl h)
    | 13, c, ho =>
      have ho : some (184 : Int) = some o := ho
      cases ho
      have c : x0.toInt = 46 := by simpa using c
      replace h := h.2.2.2.2.2.2.2.2.2.2.2.2.2.2.1 c
      show Pl PRG n d 97 185 [(0, .int x0), (1, .int x1)] [] σ Q
      refine Pl.seg (pc' := 186) (ls' := [(0, .int x0), (1, .int x1)]) (st' := [.int (1 : Int32)]) (σ' := σ) hM 1 rfl ?_
      refine Pl.weak (Pl.ret hM rfl rfl h)
    | 14, c, ho =>
      have ho : some (141 : Int) = some o := ho
      cases ho
      have c : x0.toInt = 47 := by simpa using c
      replace h := h.2.2.2.2.2.2.2.2.2.2.2.2.2.2.2.1 c
      show Pl PRG n d 97 142 [(0, .int x0), (1, .int x1)] [] σ Q
      refine Pl.seg (pc' := 144) (ls' := [(0, .int x0), (1, .int x1)]) (st' := [.int (8 : Int32)]) (σ' := σ) hM 1 rfl ?_
      refine Pl.weak (Pl.ret hM rfl rfl h)
    | 15, c, ho =>
      have ho : some (184 : Int) = some o := ho
      cases ho
      have c : x0.toInt = 48 := by simpa using c
      replace h := h.2.2.2.2.2.2.2.2.2.2.2.2.2.2.2.2.1 c
      show Pl PRG n d 97 185 [(0, .int x0), (1, .int x1)] [] σ Q
      refine Pl.seg (pc' := 186) (ls' := [(0, .int x0), (1, .int x1)]) (st' := [.int (1 : Int32)]) (σ' := σ) hM 1 rfl ?_
      refine Pl.weak (Pl.ret hM rfl rfl h)
    | 16, c, ho =>
      have ho : some (184 : Int) = some o := ho
      cases ho
      have c : x0.toInt = 49 := by simpa using c
      replace h := h.2.2.2.2.2.2.2.2.2.2.2.2.2.2.2.2.2.1 c
      show Pl PRG n d 97 185 [(0, .int x0), (1, .int x1)] [] σ Q
      refine Pl.seg (pc' := 186) (ls' := [(0, .int x0), (1, .int x1)]) (st' := [.int (1 : Int32)]) (σ' := σ) hM 1 rfl ?_
      refine Pl.weak (Pl.ret hM rfl rfl h)
    | 17, c, ho =>
      have ho : some (184 : Int) = some o := ho
      cases ho
      have c : x0.toInt = 50 := by simpa using c
      replace h := h.2.2.2.2.2.2.2.2.2.2.2.2.2.2.2.2.2.2.1 c
      show Pl PRG n d 97 185 [(0, .int x0), (1, .int x1)] [] σ Q
      refine Pl.seg (pc' := 186) (ls' := [(0, .int x0), (1, .int x1)]) (st' := [.int (1 : Int32)]) (σ' := σ) hM 1 rfl ?_
      refine Pl.weak (Pl.ret hM rfl rfl h)
    | 18, c, ho =>
      have ho : some (184 : Int) = some o := ho
      cases ho
      have c : x0.toInt = 51 := by simpa using c
      replace h := h.2.2.2.2.2.2.2.2.2.2.2.2.2.2.2.2.2.2.2.1 c
      show Pl PRG n d 97 185 [(0, .int x0), (1, .int x1)] [] σ Q
      refine Pl.seg (pc' := 186) (ls' := [(0, .int x0), (1, .int x1)]) (st' := [.int (1 : Int32)]) (σ' := σ) hM 1 rfl ?_
      refine Pl.weak (Pl.ret hM rfl rfl h)
    | 19, c, ho =>
      have ho : some (184 : Int) = some o := ho
      cases ho
      have c : x0.toInt = 52 := by simpa using c
      replace h := h.2.2.2.2.2.2.2.2.2.2.2.2.2.2.2.2.2.2.2.2.1 c
      show Pl PRG n d 97 185 [(0, .int x0), (1, .int x1)] [] σ Q
      refine Pl.seg (pc' := 186) (ls' := [(0, .int x0), (1, .int x1)]) (st' := [.int (1 : Int32)]) (σ' := σ) hM 1 rfl ?_
      refine Pl.weak (Pl.ret hM rfl rfl h)
    | 20, c, ho =>
      have ho : some (184 : Int) = some o := ho
      cases ho
      have c : x0.toInt = 53 := by simpa using c
      replace h := h.2.2.2.2.2.2.2.2.2.2.2.2.2.2.2.2.2.2.2.2.2.1 c
      show Pl PRG n d 97 185 [(0, .int x0), (1, .int x1)] [] σ Q
      refine Pl.seg (pc' := 186) (ls' := [(0, .int x0), (1, .int x1)]) (st' := [.int (1 : Int32)]) (σ' := σ) hM 1 rfl ?_
      refine Pl.weak (Pl.ret hM rfl rfl h)
    | 21, c, ho =>
      have ho : some (184 : Int) = some o := ho
      cases ho
      have c : x0.toInt = 54 := by simpa using c
      replace h := h.2.2.2.2.2.2.2.2.2.2.2.2.2.2.2.2.2.2.2.2.2.2.1 c
      show Pl PRG n d 97 185 [(0, .int x0), (1, .int x1)] [] σ Q
      refine Pl.seg (pc' := 186) (ls' := [(0, .int x0), (1, .int x1)]) (st' := [.int (1 : Int32)]) (σ' := σ) hM 1 rfl ?_
      refine Pl.weak (Pl.ret hM rfl rfl h)
    | 22, c, ho =>
      have ho : some (184 : Int) = some o := ho
      cases ho
      have c : x0.toInt = 55 := by simpa using c
      replace h := h.2.2.2.2.2.2.2.2.2.2.2.2.2.2.2.2.2.2.2.2.2.2.2.1 c
      show Pl PRG n d 97 185 [(0, .int x0), (1, .int x1)] [] σ Q
      refine Pl.seg (pc' := 186) (ls' := [(0, .int x0), (1, .int x1)]) (st' := [.int (1 : Int32)]) (σ' := σ) hM 1 rfl ?_
      refine Pl.weak (Pl.ret hM rfl rfl h)
    | 23, c, ho =>
      have ho : some (184 : Int) = some o := ho
      cases ho
      have c : x0.toInt = 56 := by simpa using c
      replace h := h.2.2.2.2.2.2.2.2.2.2.2.2.2.2.2.2.2.2.2.2.2.2.2.2.1 c
      show Pl PRG n d 97 185 [(0, .int x0), (1, .int x1)] [] σ Q
      refine Pl.seg (pc' := 186) (ls' := [(0, .int x0), (1, .int x1)]) (st' := [.int (1 : Int32)]) (σ' := σ) hM 1 rfl ?_
      refine Pl.weak (Pl.ret hM rfl rfl h)
    | 24, c, ho =>
      have ho : some (184 : Int) = some o := ho
      cases ho
      have c : x0.toInt = 57 := by simpa using c
      replace h := h.2.2.2.2.2.2.2.2.2.2.2.2.2.2.2.2.2.2.2.2.2.2.2.2.2.1 c
      show Pl PRG n d 97 185 [(0, .int x0), (1, .int x1)] [] σ Q
      refine Pl.seg (pc' := 186) (ls' := [(0, .int x0), (1, .int x1)]) (st' := [.int (1 : Int32)]) (σ' := σ) hM 1 rfl ?_
      refine Pl.weak (Pl.ret hM rfl rfl h)
    | 25, c, ho =>
      have ho : some (184 : Int) = some o := ho
      cases ho
      have c : x0.toInt = 58 := by simpa using c
      replace h := h.2.2.2.2.2.2.2.2.2.2.2.2.2.2.2.2.2.2.2.2.2.2.2.2.2.2.1 c
      show Pl PRG n d 97 185 [(0, .int x0), (1, .int x1)] [] σ Q
      refine Pl.seg (pc' := 186) (ls' := [(0, .int x0), (1, .int x1)]) (st' := [.int (1 : Int32)]) (σ' := σ) hM 1 rfl ?_
      refine Pl.weak (Pl.ret hM rfl rfl h)
    | 26, c, ho =>
      have ho : some (131 : Int) = some o := ho
      cases ho
      have c : x0.toInt = 59 := by simpa using c
      replace h := h.2.2.2.2.2.2.2.2.2.2.2.2.2.2.2.2.2.2.2.2.2.2.2.2.2.2.2.1 c
      show Pl PRG n d 97 132 [(0, .int x0), (1, .int x1)] [] σ Q
      refine Pl.seg (pc' := 133) (ls' := [(0, .int x0), (1, .int x1)]) (st' := [.int (4 : Int32)]) (σ' := σ) hM 1 rfl ?_
      refine Pl.weak (Pl.ret hM rfl rfl h)
    | 27, c, ho =>
      have ho : some (150 : Int) = some o := ho
      cases ho
      have c : x0.toInt = 60 := by simpa using c
      replace h := h.2.2.2.2.2.2.2.2.2.2.2.2.2.2.2.2.2.2.2.2.2.2.2.2.2.2.2.2.1 c
      show Pl PRG n d 97 151 [(0, .int x0), (1, .int x1)] [] σ Q
      refine Pl.br (c := x1 = 0) (a := 160) (b := 155) (ls' := [(0, .int x0), (1, .int x1)]) (st' := []) (σ' := σ) hM 2 rfl (fun c => ?_) (fun c => ?_)
      · replace h := h.1 c
        refine Pl.seg (pc' := 162) (ls' := [(0, .int x0), (1, .int x1)]) (st' := [.int (11 : Int32)]) (σ' := σ) hM 1 rfl ?_
        refine Pl.weak (Pl.ret hM rfl rfl h)
      · replace h := h.2 c
        refine Pl.seg (pc' := 162) (ls' := [(0, .int x0), (1, .int x1)]) (st' := [.int (12 : Int32)]) (σ' := σ) hM 2 rfl ?_
        refine Pl.weak (Pl.ret hM rfl rfl h)
    | 28, c, ho =>
      have ho : some (162 : Int) = some o := ho
      cases ho
      have c : x0.toInt = 61 := by simpa using c
      replace h := h.2.2.2.2.2.2.2.2.2.2.2.2.2.2.2.2.2.2.2.2.2.2.2.2.2.2.2.2.2 c
      show Pl PRG n d 97 163 [(0, .int x0), (1, .int x1)] [] σ Q
      refine Pl.br (c := x1 = 0) (a := 172) (b := 167) (ls' := [(0, .int x0), (1, .int x1)]) (st' := []) (σ' := σ) hM 2 rfl (fun c => ?_) (fun c => ?_)
      · replace h := h.1 c
        refine Pl.seg (pc' := 173) (ls' := [(0, .int x0), (1, .int x1)]) (st' := [.int (1 : Int32)]) (σ' := σ) hM 1 rfl ?_
        refine Pl.weak (Pl.ret hM rfl rfl h)
      · replace h := h.2 c
        refine Pl.seg (pc' := 173) (ls' := [(0, .int x0), (1, .int x1)]) (st' := [.int (9 : Int32)]) (σ' := σ) hM 2 rfl ?_
        refine Pl.weak (Pl.ret hM rfl rfl h)
    | k + 29, c, ho => exact absurd ho (by intro e; have e : (none : Option Int) = some o := e; cases e)
def LV_98 : List (Nat × List Nat) := [(0, [0, 1, 2, 3]), (1, [0, 1, 2, 3]), (2, [0, 1, 2, 3]), (3, [0, 1, 2, 3]), (4, [0, 1, 2, 3]), (7, [0, 1, 2, 3]), (8, [0, 1, 2, 3]), (9, [0, 1, 2, 3]), (10, [0, 1, 2, 3]), (11, [0, 1, 2, 3]), (12, [0, 1, 2, 3]), (15, [0, 1, 2, 3]), (16, [0, 1, 2, 3]), (17, [0, 1, 2, 3]), (18, [0, 1, 2, 3]), (19, [0, 1, 2, 3]), (20, [0, 1, 2, 3]), (23, [0, 1, 2, 3]), (24, [0, 1, 2, 3]), (27, [0, 1, 2, 3]), (28, [0, 1, 2, 3]), (30, [0, 1, 2, 3, 4]), (31, [0, 2, 3, 4]), (32, [0, 2, 3, 4]), (33, [0, 2, 3, 4]), (36, [0, 2, 3, 4]), (37, [0, 2, 3, 4]), (39, [0, 2, 3]), (41, [0, 2, 3]), (44, [0, 2, 3]), (45, [0, 2, 3]), (48, [0, 2, 3]), (49, [0, 2, 3]), (52, [0, 2, 3]), (54, [0, 2, 3, 5]), (55, [2, 3, 5]), (57, [2, 3, 5]), (58, [2, 3, 5]), (59, [2, 3, 5]), (62, [2, 3, 5]), (64, [2, 3, 5]), (65, [2, 3, 5]), (68, [2]), (69, []), (70, [3, 5]), (72, [3, 5]), (74, [3, 5]), (77, [3, 5]), (79, [3, 5]), (81, [3, 5]), (84, [3, 5]), (86, [3]), (88, [3]), (91, [3]), (92, []), (93, []), (94, []), (97, [3]), (98, []), (99, []), (100, [])]
set_option maxRecDepth 100000 in
theorem lv_98 : chkLv M_98 LV_98 = true := by decide +kernel
set_option maxRecDepth 100000 in
theorem lva_98_27 : lvA LV_98 27 = [0, 1, 2, 3] := by decide +kernel
set_option maxRecDepth 100000 in
theorem lva_98_91 : lvA LV_98 91 = [3] := by decide +kernel
set_option maxRecDepth 100000 in
theorem p_98_0 {n d : Nat} {Q : Option Value → Sg → Prop} (σ : Sg) (x2 x3 : Int32) (h : ((x2 ≤ (x3 + (1 : Int32)) → Pl PRG n d 98 27 [(0, .ref 17), (1, .ref 1), (2, .int x2), (3, .int x3)] [] σ Q) ∧ (¬ x2 ≤ (x3 + (1 : Int32)) → (((2000 : Int32) ≤ (x3 + (1 : Int32)) → Pl PRG n d 98 27 [(0, .ref 17), (1, .ref 1), (2, .int x2), (3, .int x3)] [] σ Q) ∧ (¬ (2000 : Int32) ≤ (x3 + (1 : Int32)) → (inR (x3 + (1 : Int32)) 2000 = true → (inR x3 2000 = true → ((((σ.1 1 (x3 + (1 : Int32)).toNatClampNeg) &&& (255 : Int32)) = (61 : Int32) → (∀ w5 σ4, RCx PRG n 97 [.int ((σ.1 1 x3.toNatClampNeg) &&& (255 : Int32)), .int (1 : Int32)] σ (some (.int w5)) σ4 → (∀ σ6, RCx PRG n 92 [.ref 17, .int w5, .long (0 : Int64), .int x3] σ4 none σ6 → ((w5 = (1 : Int32) → Q (some (.int x2)) σ6) ∧ (¬ w5 = (1 : Int32) → ((w5 = (9 : Int32) → Pl PRG n d 98 91 [(3, .int x3)] [] σ6 Q) ∧ (¬ w5 = (9 : Int32) → ((w5 = (10 : Int32) → Pl PRG n d 98 91 [(3, .int x3)] [] σ6 Q) ∧ (¬ w5 = (10 : Int32) → ((w5 = (12 : Int32) → Pl PRG n d 98 91 [(3, .int x3)] [] σ6 Q) ∧ (¬ w5 = (12 : Int32) → Q (some (.int (x3 + (1 : Int32)))) σ6))))))))))) ∧ (¬ ((σ.1 1 (x3 + (1 : Int32)).toNatClampNeg) &&& (255 : Int32)) = (61 : Int32) → (∀ w2 σ1, RCx PRG n 97 [.int ((σ.1 1 x3.toNatClampNeg) &&& (255 : Int32)), .int (0 : Int32)] σ (some (.int w2)) σ1 → (∀ σ3, RCx PRG n 92 [.ref 17, .int w2, .long (0 : Int64), .int x3] σ1 none σ3 → ((w2 = (1 : Int32) → Q (some (.int x2)) σ3) ∧ (¬ w2 = (1 : Int32) → ((w2 = (9 : Int32) → Pl PRG n d 98 91 [(3, .int x3)] [] σ3 Q) ∧ (¬ w2 = (9 : Int32) → ((w2 = (10 : Int32) → Pl PRG n d 98 91 [(3, .int x3)] [] σ3 Q) ∧ (¬ w2 = (10 : Int32) → ((w2 = (12 : Int32) → Pl PRG n d 98 91 [(3, .int x3)] [] σ3 Q) ∧ (¬ w2 = (12 : Int32) → Q (some (.int (x3 + (1 : Int32)))) σ3))))))))))))))))))) : Pl PRG (n + 1) d 98 0 [(0, .ref 17), (1, .ref 1), (2, .int x2), (3, .int x3)] [] σ Q := by
  have hM : PRG[98]? = some M_98 := rfl
  refine Pl.br1 (c := x2 ≤ (x3 + (1 : Int32))) (a := 27) (b := 7) (ls' := [(0, .ref 17), (1, .ref 1), (2, .int x2), (3, .int x3)]) (st' := []) (σ' := σ) hM 4 rfl (fun c => ?_) (fun c => ?_)
  · replace h := h.1 c
    exact Pl.live (l' := [(0, .ref 17), (1, .ref 1), (2, .int x2), (3, .int x3)]) hM lv_98 ⟨show ndL _ from (by decide : List.Nodup ([0, 1, 2, 3] : List Nat)), show ndL _ from (by decide : List.Nodup ([0, 1, 2, 3] : List Nat)), by rw [lva_98_27]; exact List.forall_mem_cons.mpr ⟨rfl, List.forall_mem_cons.mpr ⟨rfl, List.forall_mem_cons.mpr ⟨rfl, List.forall_mem_cons.mpr ⟨rfl, fun _ h => absurd h List.not_mem_nil⟩⟩⟩⟩⟩ h
  · replace h := h.2 c
    refine Pl.br (c := (2000 : Int32) ≤ (x3 + (1 : Int32))) (a := 27) (b := 15) (ls' := [(0, .ref 17), (1, .ref 1), (2, .int x2), (3, .int x3)]) (st' := []) (σ' := σ) hM 6 rfl (fun c => ?_) (fun c => ?_)
    · replace h := h.1 c
      exact Pl.live (l' := [(0, .ref 17), (1, .ref 1), (2, .int x2), (3, .int x3)]) hM lv_98 ⟨show ndL _ from (by decide : List.Nodup ([0, 1, 2, 3] : List Nat)), show ndL _ from (by decide : List.Nodup ([0, 1, 2, 3] : List Nat)), by rw [lva_98_27]; exact List.forall_mem_cons.mpr ⟨rfl, List.forall_mem_cons.mpr ⟨rfl, List.forall_mem_cons.mpr ⟨rfl, List.forall_mem_cons.mpr ⟨rfl, fun _ h => absurd h List.not_mem_nil⟩⟩⟩⟩⟩ h
    · replace h := h.2 c
      refine Pl.seg (pc' := 19) (ls' := [(0, .ref 17), (1, .ref 1), (2, .int x2), (3, .int x3)]) (st' := [.int (x3 + (1 : Int32)), .ref 1]) (σ' := σ) hM 4 rfl ?_
      refine Pl.weak (Pl.bald2 hM rfl rfl (fun hi => ?_))
      replace h := h hi
      refine Pl.seg (pc' := 32) (ls' := [(4, .int ((σ.1 1 (x3 + (1 : Int32)).toNatClampNeg) &&& (255 : Int32))), (0, .ref 17), (1, .ref 1), (2, .int x2), (3, .int x3)]) (st' := [.int x3, .ref 1]) (σ' := σ) hM 6 rfl ?_
      refine Pl.weak (Pl.bald2 hM rfl rfl (fun hi => ?_))
      replace h := h hi
      refine Pl.brN (c := ((σ.1 1 (x3 + (1 : Int32)).toNatClampNeg) &&& (255 : Int32)) = (61 : Int32)) (a := 48) (b := 44) (ls' := [(4, .int ((σ.1 1 (x3 + (1 : Int32)).toNatClampNeg) &&& (255 : Int32))), (0, .ref 17), (1, .ref 1), (2, .int x2), (3, .int x3)]) (st' := [.int ((σ.1 1 x3.toNatClampNeg) &&& (255 : Int32))]) (σ' := σ) hM 5 rfl (fun c => ?_) (fun c => ?_)
      · replace h := h.2 c
        refine Pl.seg (pc' := 49) (ls' := [(4, .int ((σ.1 1 (x3 + (1 : Int32)).toNatClampNeg) &&& (255 : Int32))), (0, .ref 17), (1, .ref 1), (2, .int x2), (3, .int x3)]) (st' := [.int (0 : Int32), .int ((σ.1 1 x3.toNatClampNeg) &&& (255 : Int32))]) (σ' := σ) hM 1 rfl ?_
        refine Pl.weak (Pl.cI hM rfl rfl (by decide) (Mj := M_97) rfl rfl (fun w2 σ1 hw => ?_))
        replace h := h w2 σ1 hw
        refine Pl.seg (pc' := 59) (ls' := [(5, .int w2), (4, .int ((σ.1 1 (x3 + (1 : Int32)).toNatClampNeg) &&& (255 : Int32))), (0, .ref 17), (1, .ref 1), (2, .int x2), (3, .int x3)]) (st' := [.int x3, .long (0 : Int64), .int w2, .ref 17]) (σ' := σ1) hM 5 rfl ?_
        refine Pl.weak (Pl.cV hM rfl rfl (by decide) (Mj := M_92) rfl rfl (fun σ3 hw => ?_))
        replace h := h σ3 hw
        refine Pl.brN (c := w2 = (1 : Int32)) (a := 70) (b := 68) (ls' := [(5, .int w2), (4, .int ((σ.1 1 (x3 + (1 : Int32)).toNatClampNeg) &&& (255 : Int32))), (0, .ref 17), (1, .ref 1), (2, .int x2), (3, .int x3)]) (st' := []) (σ' := σ3) hM 3 rfl (fun c => ?_) (fun c => ?_)
        · replace h := h.2 c
          refine Pl.br (c := w2 = (9 : Int32)) (a := 91) (b := 77) (ls' := [(5, .int w2), (4, .int ((σ.1 1 (x3 + (1 : Int32)).toNatClampNeg) &&& (255 : Int32))), (0, .ref 17), (1, .ref 1), (2, .int x2), (3, .int x3)]) (st' := []) (σ' := σ3) hM 3 rfl (fun c => ?_) (fun c => ?_)
          · replace h := h.1 c
            exact Pl.live (l' := [(3, .int x3)]) hM lv_98 ⟨show ndL _ from (by decide : List.Nodup ([5, 4, 0, 1, 2, 3] : List Nat)), show ndL _ from (by decide : List.Nodup ([3] : List Nat)), by rw [lva_98_91]; exact List.forall_mem_cons.mpr ⟨rfl, fun _ h => absurd h List.not_mem_nil⟩⟩ h
          · replace h := h.2 c
            refine Pl.br (c := w2 = (10 : Int32)) (a := 91) (b := 84) (ls' := [(5, .int w2), (4, .int ((σ.1 1 (x3 + (1 : Int32)).toNatClampNeg) &&& (255 : Int32))), (0, .ref 17), (1, .ref 1), (2, .int x2), (3, .int x3)]) (st' := []) (σ' := σ3) hM 3 rfl (fun c => ?_) (fun c => ?_)
            · replace h := h.1 c
              exact Pl.live (l' := [(3, .int x3)]) hM lv_98 ⟨show ndL _ from (by decide : List.Nodup ([5, 4, 0, 1, 2, 3] : List Nat)), show ndL _ from (by decide : List.Nodup ([3] : List Nat)), by rw [lva_98_91]; exact List.forall_mem_cons.mpr ⟨rfl, fun _ h => absurd h List.not_mem_nil⟩⟩ h
            · replace h := h.2 c
              refine Pl.brN (c := w2 = (12 : Int32)) (a := 97) (b := 91) (ls' := [(5, .int w2), (4, .int ((σ.1 1 (x3 + (1 : Int32)).toNatClampNeg) &&& (255 : Int32))), (0, .ref 17), (1, .ref 1), (2, .int x2), (3, .int x3)]) (st' := []) (σ' := σ3) hM 3 rfl (fun c => ?_) (fun c => ?_)
              · replace h := h.2 c
                refine Pl.seg (pc' := 100) (ls' := [(5, .int w2), (4, .int ((σ.1 1 (x3 + (1 : Int32)).toNatClampNeg) &&& (255 : Int32))), (0, .ref 17), (1, .ref 1), (2, .int x2), (3, .int x3)]) (st' := [.int (x3 + (1 : Int32))]) (σ' := σ3) hM 3 rfl ?_
                refine Pl.weak (Pl.ret hM rfl rfl h)
              · replace h := h.1 c
                exact Pl.live (l' := [(3, .int x3)]) hM lv_98 ⟨show ndL _ from (by decide : List.Nodup ([5, 4, 0, 1, 2, 3] : List Nat)), show ndL _ from (by decide : List.Nodup ([3] : List Nat)), by rw [lva_98_91]; exact List.forall_mem_cons.mpr ⟨rfl, fun _ h => absurd h List.not_mem_nil⟩⟩ h
        · replace h := h.1 c
          refine Pl.seg (pc' := 69) (ls' := [(5, .int w2), (4, .int ((σ.1 1 (x3 + (1 : Int32)).toNatClampNeg) &&& (255 : Int32))), (0, .ref 17), (1, .ref 1), (2, .int x2), (3, .int x3)]) (st' := [.int x2]) (σ' := σ3) hM 1 rfl ?_
          refine Pl.weak (Pl.ret hM rfl rfl h)
      · replace h := h.1 c
        refine Pl.seg (pc' := 49) (ls' := [(4, .int ((σ.1 1 (x3 + (1 : Int32)).toNatClampNeg) &&& (255 : Int32))), (0, .ref 17), (1, .ref 1), (2, .int x2), (3, .int x3)]) (st' := [.int (1 : Int32), .int ((σ.1 1 x3.toNatClampNeg) &&& (255 : Int32))]) (σ' := σ) hM 2 rfl ?_
        refine Pl.weak (Pl.cI hM rfl rfl (by decide) (Mj := M_97) rfl rfl (fun w5 σ4 hw => ?_))
        replace h := h w5 σ4 hw
        refine Pl.seg (pc' := 59) (ls' := [(5, .int w5), (4, .int ((σ.1 1 (x3 + (1 : Int32)).toNatClampNeg) &&& (255 : Int32))), (0, .ref 17), (1, .ref 1), (2, .int x2), (3, .int x3)]) (st' := [.int x3, .long (0 : Int64), .int w5, .ref 17]) (σ' := σ4) hM 5 rfl ?_
        refine Pl.weak (Pl.cV hM rfl rfl (by decide) (Mj := M_92) rfl rfl (fun σ6 hw => ?_))
        replace h := h σ6 hw
        refine Pl.brN (c := w5 = (1 : Int32)) (a := 70) (b := 68) (ls' := [(5, .int w5), (4, .int ((σ.1 1 (x3 + (1 : Int32)).toNatClampNeg) &&& (255 : Int32))), (0, .ref 17), (1, .ref 1), (2, .int x2), (3, .int x3)]) (st' := []) (σ' := σ6) hM 3 rfl (fun c => ?_) (fun c => ?_)
        · replace h := h.2 c
          refine Pl.br (c := w5 = (9 : Int32)) (a := 91) (b := 77) (ls' := [(5, .int w5), (4, .int ((σ.1 1 (x3 + (1 : Int32)).toNatClampNeg) &&& (255 : Int32))), (0, .ref 17), (1, .ref 1), (2, .int x2), (3, .int x3)]) (st' := []) (σ' := σ6) hM 3 rfl (fun c => ?_) (fun c => ?_)
          · replace h := h.1 c
            exact Pl.live (l' := [(3, .int x3)]) hM lv_98 ⟨show ndL _ from (by decide : List.Nodup ([5, 4, 0, 1, 2, 3] : List Nat)), show ndL _ from (by decide : List.Nodup ([3] : List Nat)), by rw [lva_98_91]; exact List.forall_mem_cons.mpr ⟨rfl, fun _ h => absurd h List.not_mem_nil⟩⟩ h
          · replace h := h.2 c
            refine Pl.br (c := w5 = (10 : Int32)) (a := 91) (b := 84) (ls' := [(5, .int w5), (4, .int ((σ.1 1 (x3 + (1 : Int32)).toNatClampNeg) &&& (255 : Int32))), (0, .ref 17), (1, .ref 1), (2, .int x2), (3, .int x3)]) (st' := []) (σ' := σ6) hM 3 rfl (fun c => ?_) (fun c => ?_)
            · replace h := h.1 c
              exact Pl.live (l' := [(3, .int x3)]) hM lv_98 ⟨show ndL _ from (by decide : List.Nodup ([5, 4, 0, 1, 2, 3] : List Nat)), show ndL _ from (by decide : List.Nodup ([3] : List Nat)), by rw [lva_98_91]; exact List.forall_mem_cons.mpr ⟨rfl, fun _ h => absurd h List.not_mem_nil⟩⟩ h
            · replace h := h.2 c
              refine Pl.brN (c := w5 = (12 : Int32)) (a := 97) (b := 91) (ls' := [(5, .int w5), (4, .int ((σ.1 1 (x3 + (1 : Int32)).toNatClampNeg) &&& (255 : Int32))), (0, .ref 17), (1, .ref 1), (2, .int x2), (3, .int x3)]) (st' := []) (σ' := σ6) hM 3 rfl (fun c => ?_) (fun c => ?_)
              · replace h := h.2 c
                refine Pl.seg (pc' := 100) (ls' := [(5, .int w5), (4, .int ((σ.1 1 (x3 + (1 : Int32)).toNatClampNeg) &&& (255 : Int32))), (0, .ref 17), (1, .ref 1), (2, .int x2), (3, .int x3)]) (st' := [.int (x3 + (1 : Int32))]) (σ' := σ6) hM 3 rfl ?_
                refine Pl.weak (Pl.ret hM rfl rfl h)
              · replace h := h.1 c
                exact Pl.live (l' := [(3, .int x3)]) hM lv_98 ⟨show ndL _ from (by decide : List.Nodup ([5, 4, 0, 1, 2, 3] : List Nat)), show ndL _ from (by decide : List.Nodup ([3] : List Nat)), by rw [lva_98_91]; exact List.forall_mem_cons.mpr ⟨rfl, fun _ h => absurd h List.not_mem_nil⟩⟩ h
        · replace h := h.1 c
          refine Pl.seg (pc' := 69) (ls' := [(5, .int w5), (4, .int ((σ.1 1 (x3 + (1 : Int32)).toNatClampNeg) &&& (255 : Int32))), (0, .ref 17), (1, .ref 1), (2, .int x2), (3, .int x3)]) (st' := [.int x2]) (σ' := σ6) hM 1 rfl ?_
          refine Pl.weak (Pl.ret hM rfl rfl h)
set_option maxRecDepth 100000 in
theorem p_98_27 {n d : Nat} {Q : Option Value → Sg → Prop} (σ : Sg) (x2 x3 : Int32) (h : (inR x3 2000 = true → (∀ w2 σ1, RCx PRG n 97 [.int ((σ.1 1 x3.toNatClampNeg) &&& (255 : Int32)), .int (0 : Int32)] σ (some (.int w2)) σ1 → (∀ σ3, RCx PRG n 92 [.ref 17, .int w2, .long (0 : Int64), .int x3] σ1 none σ3 → ((w2 = (1 : Int32) → Q (some (.int x2)) σ3) ∧ (¬ w2 = (1 : Int32) → ((w2 = (9 : Int32) → Pl PRG n d 98 91 [(3, .int x3)] [] σ3 Q) ∧ (¬ w2 = (9 : Int32) → ((w2 = (10 : Int32) → Pl PRG n d 98 91 [(3, .int x3)] [] σ3 Q) ∧ (¬ w2 = (10 : Int32) → ((w2 = (12 : Int32) → Pl PRG n d 98 91 [(3, .int x3)] [] σ3 Q) ∧ (¬ w2 = (12 : Int32) → Q (some (.int (x3 + (1 : Int32)))) σ3)))))))))))) : Pl PRG (n + 1) d 98 27 [(0, .ref 17), (1, .ref 1), (2, .int x2), (3, .int x3)] [] σ Q := by
  have hM : PRG[98]? = some M_98 := rfl
  refine Pl.sg1 (pc' := 32) (ls' := [(4, .int (0 : Int32)), (0, .ref 17), (1, .ref 1), (2, .int x2), (3, .int x3)]) (st' := [.int x3, .ref 1]) (σ' := σ) hM 3 rfl ?_
  refine Pl.weak (Pl.bald2 hM rfl rfl (fun hi => ?_))
  replace h := h hi
  refine Pl.seg (pc' := 49) (ls' := [(4, .int (0 : Int32)), (0, .ref 17), (1, .ref 1), (2, .int x2), (3, .int x3)]) (st' := [.int (0 : Int32), .int ((σ.1 1 x3.toNatClampNeg) &&& (255 : Int32))]) (σ' := σ) hM 6 rfl ?_
  refine Pl.weak (Pl.cI hM rfl rfl (by decide) (Mj := M_97) rfl rfl (fun w2 σ1 hw => ?_))
  replace h := h w2 σ1 hw
  refine Pl.seg (pc' := 59) (ls' := [(5, .int w2), (4, .int (0 : Int32)), (0, .ref 17), (1, .ref 1), (2, .int x2), (3, .int x3)]) (st' := [.int x3, .long (0 : Int64), .int w2, .ref 17]) (σ' := σ1) hM 5 rfl ?_
  refine Pl.weak (Pl.cV hM rfl rfl (by decide) (Mj := M_92) rfl rfl (fun σ3 hw => ?_))
  replace h := h σ3 hw
  refine Pl.brN (c := w2 = (1 : Int32)) (a := 70) (b := 68) (ls' := [(5, .int w2), (4, .int (0 : Int32)), (0, .ref 17), (1, .ref 1), (2, .int x2), (3, .int x3)]) (st' := []) (σ' := σ3) hM 3 rfl (fun c => ?_) (fun c => ?_)
  · replace h := h.2 c
    refine Pl.br (c := w2 = (9 : Int32)) (a := 91) (b := 77) (ls' := [(5, .int w2), (4, .int (0 : Int32)), (0, .ref 17), (1, .ref 1), (2, .int x2), (3, .int x3)]) (st' := []) (σ' := σ3) hM 3 rfl (fun c => ?_) (fun c => ?_)
    · replace h := h.1 c
      exact Pl.live (l' := [(3, .int x3)]) hM lv_98 ⟨show ndL _ from (by decide : List.Nodup ([5, 4, 0, 1, 2, 3] : List Nat)), show ndL _ from (by decide : List.Nodup ([3] : List Nat)), by rw [lva_98_91]; exact List.forall_mem_cons.mpr ⟨rfl, fun _ h => absurd h List.not_mem_nil⟩⟩ h
    · replace h := h.2 c
      refine Pl.br (c := w2 = (10 : Int32)) (a := 91) (b := 84) (ls' := [(5, .int w2), (4, .int (0 : Int32)), (0, .ref 17), (1, .ref 1), (2, .int x2), (3, .int x3)]) (st' := []) (σ' := σ3) hM 3 rfl (fun c => ?_) (fun c => ?_)
      · replace h := h.1 c
        exact Pl.live (l' := [(3, .int x3)]) hM lv_98 ⟨show ndL _ from (by decide : List.Nodup ([5, 4, 0, 1, 2, 3] : List Nat)), show ndL _ from (by decide : List.Nodup ([3] : List Nat)), by rw [lva_98_91]; exact List.forall_mem_cons.mpr ⟨rfl, fun _ h => absurd h List.not_mem_nil⟩⟩ h
      · replace h := h.2 c
        refine Pl.brN (c := w2 = (12 : Int32)) (a := 97) (b := 91) (ls' := [(5, .int w2), (4, .int (0 : Int32)), (0, .ref 17), (1, .ref 1), (2, .int x2), (3, .int x3)]) (st' := []) (σ' := σ3) hM 3 rfl (fun c => ?_) (fun c => ?_)
        · replace h := h.2 c
          refine Pl.seg (pc' := 100) (ls' := [(5, .int w2), (4, .int (0 : Int32)), (0, .ref 17), (1, .ref 1), (2, .int x2), (3, .int x3)]) (st' := [.int (x3 + (1 : Int32))]) (σ' := σ3) hM 3 rfl ?_
          refine Pl.weak (Pl.ret hM rfl rfl h)
        · replace h := h.1 c
          exact Pl.live (l' := [(3, .int x3)]) hM lv_98 ⟨show ndL _ from (by decide : List.Nodup ([5, 4, 0, 1, 2, 3] : List Nat)), show ndL _ from (by decide : List.Nodup ([3] : List Nat)), by rw [lva_98_91]; exact List.forall_mem_cons.mpr ⟨rfl, fun _ h => absurd h List.not_mem_nil⟩⟩ h
  · replace h := h.1 c
    refine Pl.seg (pc' := 69) (ls' := [(5, .int w2), (4, .int (0 : Int32)), (0, .ref 17), (1, .ref 1), (2, .int x2), (3, .int x3)]) (st' := [.int x2]) (σ' := σ3) hM 1 rfl ?_
    refine Pl.weak (Pl.ret hM rfl rfl h)
set_option maxRecDepth 100000 in
theorem p_98_91 {n d : Nat} {Q : Option Value → Sg → Prop} (σ : Sg) (x3 : Int32) (h : Q (some (.int (x3 + (2 : Int32)))) σ) : Pl PRG (n + 1) d 98 91 [(3, .int x3)] [] σ Q := by
  have hM : PRG[98]? = some M_98 := rfl
  refine Pl.sg1 (pc' := 100) (ls' := [(3, .int x3)]) (st' := [.int (x3 + (2 : Int32))]) (σ' := σ) hM 3 rfl ?_
  refine Pl.weak (Pl.ret hM rfl rfl h)
def LV_99 : List (Nat × List Nat) := [(0, [0, 1, 2]), (1, [0, 1, 2]), (2, [0, 1, 2]), (5, [0, 1, 2]), (6, [0, 1, 2]), (7, [0, 1, 2, 3]), (8, [0, 1, 2, 3]), (10, [0, 1, 2, 3, 4]), (12, [0, 1, 2, 3, 4]), (15, [0, 1, 2, 3, 4]), (18, [0, 1, 2, 3, 4]), (19, [0, 1, 2, 3, 4]), (20, [0, 1, 2, 3, 4]), (23, [0, 1, 2, 3, 4]), (24, [0, 1, 2, 3, 4]), (25, [0, 1, 2, 3, 4]), (26, [0, 1, 2, 3, 4]), (29, [0, 1, 2, 3, 4]), (30, [0, 1, 2, 3, 4]), (33, [0, 1, 2, 3, 4]), (36, [0, 1, 2, 3, 4]), (39, [0, 1, 2, 3, 4]), (40, [0, 1, 2, 3, 4]), (41, [0, 1, 2, 3, 4]), (42, [0, 1, 2, 3, 4]), (45, [0, 1, 2, 3, 4]), (46, [0, 1, 2, 3, 4]), (48, [0, 1, 2, 3, 4, 5]), (50, [0, 1, 2, 3, 4, 5]), (52, [0, 1, 2, 3, 4, 5]), (55, [0, 1, 2, 3, 4, 5]), (57, [0, 1, 2, 3, 4, 5]), (59, [0, 1, 2, 3, 4, 5]), (62, [0, 1, 2, 3, 4, 5]), (64, [0, 1, 2, 3, 4, 5]), (66, [0, 1, 2, 3, 4, 5]), (69, [0, 1, 2, 3, 4, 5]), (71, [0, 1, 2, 3, 4, 5]), (73, [0, 1, 2, 3, 4, 5]), (76, [0, 1, 2, 3, 4]), (79, [0, 1, 2, 3, 4]), (82, [0, 1, 2, 3, 4, 5]), (84, [0, 1, 2, 3, 4, 5]), (87, [0, 1, 2, 3, 4, 5]), (90, [0, 1, 2, 3, 4]), (91, [0, 1, 2, 3, 4]), (92, [0, 1, 2, 3, 4]), (93, [0, 1, 2, 3, 4]), (94, [0, 1, 2, 4]), (97, [0, 1, 2, 4]), (98, [0, 1, 2, 3, 4]), (101, [0, 1, 2, 3, 4, 5]), (103, [0, 1, 2, 3, 4]), (106, [0, 1, 2, 3, 4]), (109, [0, 1, 2, 3, 4]), (110, [0, 1, 2, 3, 4]), (111, [0, 1, 2, 3, 4]), (112, [0, 1, 2, 3, 4]), (113, [0, 1, 2, 4]), (116, [0, 1, 2, 4]), (117, [0, 1, 2, 3, 4]), (120, [0, 1, 2, 3, 4]), (121, [0, 1, 2, 3, 4]), (122, [0, 1, 2, 3, 4]), (123, [0, 1, 2, 3, 4]), (124, [0, 1, 2, 4]), (127, [0, 1, 2, 4]), (128, [0, 1, 2, 3, 4]), (131, [0, 1, 2, 3, 4]), (134, [0, 2]), (135, [2]), (136, [2]), (137, [2]), (138, []), (141, [])]
set_option maxRecDepth 100000 in
theorem lv_99 : chkLv M_99 LV_99 = true := by decide +kernel
set_option maxRecDepth 100000 in
theorem lva_99_10 : lvA LV_99 10 = [0, 1, 2, 3, 4] := by decide +kernel
set_option maxRecDepth 100000 in
theorem lva_99_76 : lvA LV_99 76 = [0, 1, 2, 3, 4] := by decide +kernel
set_option maxRecDepth 100000 in
theorem lva_99_128 : lvA LV_99 128 = [0, 1, 2, 3, 4] := by decide +kernel
set_option maxRecDepth 100000 in
theorem lva_99_134 : lvA LV_99 134 = [0, 2] := by decide +kernel
set_option maxRecDepth 100000 in
theorem p_99_0 {n d : Nat} {Q : Option Value → Sg → Prop} (σ : Sg) (x2 : Int32) (h : Pl PRG n d 99 10 [(0, .ref 17), (1, .ref 1), (2, .int x2), (3, .int (0 : Int32)), (4, .int (0 : Int32))] [] (s1 σ 17 4 (0 : Int32)) Q) : Pl PRG (n + 1) d 99 0 [(0, .ref 17), (1, .ref 1), (2, .int x2)] [] σ Q := by
  have hM : PRG[99]? = some M_99 := rfl
  refine Pl.sg1 (pc' := 10) (ls' := [(4, .int (0 : Int32)), (3, .int (0 : Int32)), (0, .ref 17), (1, .ref 1), (2, .int x2)]) (st' := []) (σ' := (s1 σ 17 4 (0 : Int32))) hM 6 rfl ?_
  exact Pl.live (l' := [(0, .ref 17), (1, .ref 1), (2, .int x2), (3, .int (0 : Int32)), (4, .int (0 : Int32))]) hM lv_99 ⟨show ndL _ from (by decide : List.Nodup ([4, 3, 0, 1, 2] : List Nat)), show ndL _ from (by decide : List.Nodup ([0, 1, 2, 3, 4] : List Nat)), by rw [lva_99_10]; exact List.forall_mem_cons.mpr ⟨rfl, List.forall_mem_cons.mpr ⟨rfl, List.forall_mem_cons.mpr ⟨rfl, List.forall_mem_cons.mpr ⟨rfl, List.forall_mem_cons.mpr ⟨rfl, fun _ h => absurd h List.not_mem_nil⟩⟩⟩⟩⟩⟩ h
set_option maxRecDepth 100000 in
theorem p_99_10 {n d : Nat} {Q : Option Value → Sg → Prop} (σ : Sg) (x2 x3 x4 : Int32) (h : (((2000 : Int32) ≤ x4 → Pl PRG n d 99 134 [(0, .ref 17), (2, .int x2)] [] σ Q) ∧ (¬ (2000 : Int32) ≤ x4 → ((x2 ≤ x3 → Pl PRG n d 99 134 [(0, .ref 17), (2, .int x2)] [] σ Q) ∧ (¬ x2 ≤ x3 → (((2000 : Int32) ≤ x3 → Pl PRG n d 99 134 [(0, .ref 17), (2, .int x2)] [] σ Q) ∧ (¬ (2000 : Int32) ≤ x3 → (((400 : Int32) < (σ.1 17 4) → Pl PRG n d 99 134 [(0, .ref 17), (2, .int x2)] [] σ Q) ∧ (¬ (400 : Int32) < (σ.1 17 4) → (inR x3 2000 = true → ((((σ.1 1 x3.toNatClampNeg) &&& (255 : Int32)) = (9 : Int32) → Pl PRG n d 99 76 [(0, .ref 17), (1, .ref 1), (2, .int x2), (3, .int x3), (4, .int x4)] [] σ Q) ∧ (¬ ((σ.1 1 x3.toNatClampNeg) &&& (255 : Int32)) = (9 : Int32) → ((((σ.1 1 x3.toNatClampNeg) &&& (255 : Int32)) = (10 : Int32) → Pl PRG n d 99 76 [(0, .ref 17), (1, .ref 1), (2, .int x2), (3, .int x3), (4, .int x4)] [] σ Q) ∧ (¬ ((σ.1 1 x3.toNatClampNeg) &&& (255 : Int32)) = (10 : Int32) → ((((σ.1 1 x3.toNatClampNeg) &&& (255 : Int32)) = (13 : Int32) → Pl PRG n d 99 76 [(0, .ref 17), (1, .ref 1), (2, .int x2), (3, .int x3), (4, .int x4)] [] σ Q) ∧ (¬ ((σ.1 1 x3.toNatClampNeg) &&& (255 : Int32)) = (13 : Int32) → ((((σ.1 1 x3.toNatClampNeg) &&& (255 : Int32)) = (32 : Int32) → Pl PRG n d 99 76 [(0, .ref 17), (1, .ref 1), (2, .int x2), (3, .int x3), (4, .int x4)] [] σ Q) ∧ (¬ ((σ.1 1 x3.toNatClampNeg) &&& (255 : Int32)) = (32 : Int32) → (∀ w2 σ1, RCx PRG n 91 [.int ((σ.1 1 x3.toNatClampNeg) &&& (255 : Int32))] σ (some (.int w2)) σ1 → (w2 = 0 ∨ w2 = 1) → ((w2 = 0 → (∀ w4 σ3, RCx PRG n 95 [.int ((σ.1 1 x3.toNatClampNeg) &&& (255 : Int32))] σ1 (some (.int w4)) σ3 → (w4 = 0 ∨ w4 = 1) → ((w4 = 0 → (∀ w6 σ5, RCx PRG n 98 [.ref 17, .ref 1, .int x2, .int x3] σ3 (some (.int w6)) σ5 → Pl PRG n d 99 128 [(0, .ref 17), (1, .ref 1), (2, .int x2), (3, .int w6), (4, .int x4)] [] σ5 Q)) ∧ (¬ w4 = 0 → (∀ w8 σ7, RCx PRG n 96 [.ref 17, .ref 1, .int x2, .int x3] σ3 (some (.int w8)) σ7 → Pl PRG n d 99 128 [(0, .ref 17), (1, .ref 1), (2, .int x2), (3, .int w8), (4, .int x4)] [] σ7 Q))))) ∧ (¬ w2 = 0 → (∀ w10 σ9, RCx PRG n 94 [.ref 17, .ref 1, .int x2, .int x3] σ1 (some (.int w10)) σ9 → Pl PRG n d 99 128 [(0, .ref 17), (1, .ref 1), (2, .int x2), (3, .int w10), (4, .int x4)] [] σ9 Q)))))))))))))))))))))) : Pl PRG (n + 1) d 99 10 [(0, .ref 17), (1, .ref 1), (2, .int x2), (3, .int x3), (4, .int x4)] [] σ Q := by
  have hM : PRG[99]? = some M_99 := rfl
  refine Pl.br1 (c := (2000 : Int32) ≤ x4) (a := 134) (b := 18) (ls' := [(0, .ref 17), (1, .ref 1), (2, .int x2), (3, .int x3), (4, .int x4)]) (st' := []) (σ' := σ) hM 2 rfl (fun c => ?_) (fun c => ?_)
  · replace h := h.1 c
    exact Pl.live (l' := [(0, .ref 17), (2, .int x2)]) hM lv_99 ⟨show ndL _ from (by decide : List.Nodup ([0, 1, 2, 3, 4] : List Nat)), show ndL _ from (by decide : List.Nodup ([0, 2] : List Nat)), by rw [lva_99_134]; exact List.forall_mem_cons.mpr ⟨rfl, List.forall_mem_cons.mpr ⟨rfl, fun _ h => absurd h List.not_mem_nil⟩⟩⟩ h
  · replace h := h.2 c
    refine Pl.br (c := x2 ≤ x3) (a := 134) (b := 23) (ls' := [(0, .ref 17), (1, .ref 1), (2, .int x2), (3, .int x3), (4, .int x4)]) (st' := []) (σ' := σ) hM 3 rfl (fun c => ?_) (fun c => ?_)
    · replace h := h.1 c
      exact Pl.live (l' := [(0, .ref 17), (2, .int x2)]) hM lv_99 ⟨show ndL _ from (by decide : List.Nodup ([0, 1, 2, 3, 4] : List Nat)), show ndL _ from (by decide : List.Nodup ([0, 2] : List Nat)), by rw [lva_99_134]; exact List.forall_mem_cons.mpr ⟨rfl, List.forall_mem_cons.mpr ⟨rfl, fun _ h => absurd h List.not_mem_nil⟩⟩⟩ h
    · replace h := h.2 c
      refine Pl.br (c := (2000 : Int32) ≤ x3) (a := 134) (b := 29) (ls' := [(0, .ref 17), (1, .ref 1), (2, .int x2), (3, .int x3), (4, .int x4)]) (st' := []) (σ' := σ) hM 4 rfl (fun c => ?_) (fun c => ?_)
      · replace h := h.1 c
        exact Pl.live (l' := [(0, .ref 17), (2, .int x2)]) hM lv_99 ⟨show ndL _ from (by decide : List.Nodup ([0, 1, 2, 3, 4] : List Nat)), show ndL _ from (by decide : List.Nodup ([0, 2] : List Nat)), by rw [lva_99_134]; exact List.forall_mem_cons.mpr ⟨rfl, List.forall_mem_cons.mpr ⟨rfl, fun _ h => absurd h List.not_mem_nil⟩⟩⟩ h
      · replace h := h.2 c
        refine Pl.br (c := (400 : Int32) < (σ.1 17 4)) (a := 134) (b := 39) (ls' := [(0, .ref 17), (1, .ref 1), (2, .int x2), (3, .int x3), (4, .int x4)]) (st' := []) (σ' := σ) hM 4 rfl (fun c => ?_) (fun c => ?_)
        · replace h := h.1 c
          exact Pl.live (l' := [(0, .ref 17), (2, .int x2)]) hM lv_99 ⟨show ndL _ from (by decide : List.Nodup ([0, 1, 2, 3, 4] : List Nat)), show ndL _ from (by decide : List.Nodup ([0, 2] : List Nat)), by rw [lva_99_134]; exact List.forall_mem_cons.mpr ⟨rfl, List.forall_mem_cons.mpr ⟨rfl, fun _ h => absurd h List.not_mem_nil⟩⟩⟩ h
        · replace h := h.2 c
          refine Pl.seg (pc' := 41) (ls' := [(0, .ref 17), (1, .ref 1), (2, .int x2), (3, .int x3), (4, .int x4)]) (st' := [.int x3, .ref 1]) (σ' := σ) hM 2 rfl ?_
          refine Pl.weak (Pl.bald2 hM rfl rfl (fun hi => ?_))
          replace h := h hi
          refine Pl.br (c := ((σ.1 1 x3.toNatClampNeg) &&& (255 : Int32)) = (9 : Int32)) (a := 76) (b := 55) (ls' := [(5, .int ((σ.1 1 x3.toNatClampNeg) &&& (255 : Int32))), (0, .ref 17), (1, .ref 1), (2, .int x2), (3, .int x3), (4, .int x4)]) (st' := []) (σ' := σ) hM 6 rfl (fun c => ?_) (fun c => ?_)
          · replace h := h.1 c
            exact Pl.live (l' := [(0, .ref 17), (1, .ref 1), (2, .int x2), (3, .int x3), (4, .int x4)]) hM lv_99 ⟨show ndL _ from (by decide : List.Nodup ([5, 0, 1, 2, 3, 4] : List Nat)), show ndL _ from (by decide : List.Nodup ([0, 1, 2, 3, 4] : List Nat)), by rw [lva_99_76]; exact List.forall_mem_cons.mpr ⟨rfl, List.forall_mem_cons.mpr ⟨rfl, List.forall_mem_cons.mpr ⟨rfl, List.forall_mem_cons.mpr ⟨rfl, List.forall_mem_cons.mpr ⟨rfl, fun _ h => absurd h List.not_mem_nil⟩⟩⟩⟩⟩⟩ h
          · replace h := h.2 c
            refine Pl.br (c := ((σ.1 1 x3.toNatClampNeg) &&& (255 : Int32)) = (10 : Int32)) (a := 76) (b := 62) (ls' := [(5, .int ((σ.1 1 x3.toNatClampNeg) &&& (255 : Int32))), (0, .ref 17), (1, .ref 1), (2, .int x2), (3, .int x3), (4, .int x4)]) (st' := []) (σ' := σ) hM 3 rfl (fun c => ?_) (fun c => ?_)
            · replace h := h.1 c
              exact Pl.live (l' := [(0, .ref 17), (1, .ref 1), (2, .int x2), (3, .int x3), (4, .int x4)]) hM lv_99 ⟨show ndL _ from (by decide : List.Nodup ([5, 0, 1, 2, 3, 4] : List Nat)), show ndL _ from (by decide : List.Nodup ([0, 1, 2, 3, 4] : List Nat)), by rw [lva_99_76]; exact List.forall_mem_cons.mpr ⟨rfl, List.forall_mem_cons.mpr ⟨rfl, List.forall_mem_cons.mpr ⟨rfl, List.forall_mem_cons.mpr ⟨rfl, List.forall_mem_cons.mpr ⟨rfl, fun _ h => absurd h List.not_mem_nil⟩⟩⟩⟩⟩⟩ h
            · replace h := h.2 c
              refine Pl.br (c := ((σ.1 1 x3.toNatClampNeg) &&& (255 : Int32)) = (13 : Int32)) (a := 76) (b := 69) (ls' := [(5, .int ((σ.1 1 x3.toNatClampNeg) &&& (255 : Int32))), (0, .ref 17), (1, .ref 1), (2, .int x2), (3, .int x3), (4, .int x4)]) (st' := []) (σ' := σ) hM 3 rfl (fun c => ?_) (fun c => ?_)
              · replace h := h.1 c
                exact Pl.live (l' := [(0, .ref 17), (1, .ref 1), (2, .int x2), (3, .int x3), (4, .int x4)]) hM lv_99 ⟨show ndL _ from (by decide : List.Nodup ([5, 0, 1, 2, 3, 4] : List Nat)), show ndL _ from (by decide : List.Nodup ([0, 1, 2, 3, 4] : List Nat)), by rw [lva_99_76]; exact List.forall_mem_cons.mpr ⟨rfl, List.forall_mem_cons.mpr ⟨rfl, List.forall_mem_cons.mpr ⟨rfl, List.forall_mem_cons.mpr ⟨rfl, List.forall_mem_cons.mpr ⟨rfl, fun _ h => absurd h List.not_mem_nil⟩⟩⟩⟩⟩⟩ h
              · replace h := h.2 c
                refine Pl.brN (c := ((σ.1 1 x3.toNatClampNeg) &&& (255 : Int32)) = (32 : Int32)) (a := 82) (b := 76) (ls' := [(5, .int ((σ.1 1 x3.toNatClampNeg) &&& (255 : Int32))), (0, .ref 17), (1, .ref 1), (2, .int x2), (3, .int x3), (4, .int x4)]) (st' := []) (σ' := σ) hM 3 rfl (fun c => ?_) (fun c => ?_)
                · replace h := h.2 c
                  refine Pl.seg (pc' := 84) (ls' := [(5, .int ((σ.1 1 x3.toNatClampNeg) &&& (255 : Int32))), (0, .ref 17), (1, .ref 1), (2, .int x2), (3, .int x3), (4, .int x4)]) (st' := [.int ((σ.1 1 x3.toNatClampNeg) &&& (255 : Int32))]) (σ' := σ) hM 1 rfl ?_
                  refine Pl.weak (Pl.cZ hM rfl rfl (by decide) (Mj := M_91) rfl rfl (fun w2 σ1 hw hz => ?_))
                  replace h := h w2 σ1 hw hz
                  refine Pl.br (c := w2 = 0) (a := 101) (b := 90) (ls' := [(5, .int ((σ.1 1 x3.toNatClampNeg) &&& (255 : Int32))), (0, .ref 17), (1, .ref 1), (2, .int x2), (3, .int x3), (4, .int x4)]) (st' := []) (σ' := σ1) hM 1 rfl (fun c => ?_) (fun c => ?_)
                  · replace h := h.1 c
                    refine Pl.seg (pc' := 103) (ls' := [(5, .int ((σ.1 1 x3.toNatClampNeg) &&& (255 : Int32))), (0, .ref 17), (1, .ref 1), (2, .int x2), (3, .int x3), (4, .int x4)]) (st' := [.int ((σ.1 1 x3.toNatClampNeg) &&& (255 : Int32))]) (σ' := σ1) hM 1 rfl ?_
                    refine Pl.weak (Pl.cZ hM rfl rfl (by decide) (Mj := M_95) rfl rfl (fun w4 σ3 hw hz => ?_))
                    replace h := h w4 σ3 hw hz
                    refine Pl.br (c := w4 = 0) (a := 120) (b := 109) (ls' := [(5, .int ((σ.1 1 x3.toNatClampNeg) &&& (255 : Int32))), (0, .ref 17), (1, .ref 1), (2, .int x2), (3, .int x3), (4, .int x4)]) (st' := []) (σ' := σ3) hM 1 rfl (fun c => ?_) (fun c => ?_)
                    · replace h := h.1 c
                      refine Pl.seg (pc' := 124) (ls' := [(5, .int ((σ.1 1 x3.toNatClampNeg) &&& (255 : Int32))), (0, .ref 17), (1, .ref 1), (2, .int x2), (3, .int x3), (4, .int x4)]) (st' := [.int x3, .int x2, .ref 1, .ref 17]) (σ' := σ3) hM 4 rfl ?_
                      refine Pl.weak (Pl.cI hM rfl rfl (by decide) (Mj := M_98) rfl rfl (fun w6 σ5 hw => ?_))
                      replace h := h w6 σ5 hw
                      refine Pl.seg (pc' := 128) (ls' := [(3, .int w6), (5, .int ((σ.1 1 x3.toNatClampNeg) &&& (255 : Int32))), (0, .ref 17), (1, .ref 1), (2, .int x2), (4, .int x4)]) (st' := []) (σ' := σ5) hM 1 rfl ?_
                      exact Pl.live (l' := [(0, .ref 17), (1, .ref 1), (2, .int x2), (3, .int w6), (4, .int x4)]) hM lv_99 ⟨show ndL _ from (by decide : List.Nodup ([3, 5, 0, 1, 2, 4] : List Nat)), show ndL _ from (by decide : List.Nodup ([0, 1, 2, 3, 4] : List Nat)), by rw [lva_99_128]; exact List.forall_mem_cons.mpr ⟨rfl, List.forall_mem_cons.mpr ⟨rfl, List.forall_mem_cons.mpr ⟨rfl, List.forall_mem_cons.mpr ⟨rfl, List.forall_mem_cons.mpr ⟨rfl, fun _ h => absurd h List.not_mem_nil⟩⟩⟩⟩⟩⟩ h
                    · replace h := h.2 c
                      refine Pl.seg (pc' := 113) (ls' := [(5, .int ((σ.1 1 x3.toNatClampNeg) &&& (255 : Int32))), (0, .ref 17), (1, .ref 1), (2, .int x2), (3, .int x3), (4, .int x4)]) (st' := [.int x3, .int x2, .ref 1, .ref 17]) (σ' := σ3) hM 4 rfl ?_
                      refine Pl.weak (Pl.cI hM rfl rfl (by decide) (Mj := M_96) rfl rfl (fun w8 σ7 hw => ?_))
                      replace h := h w8 σ7 hw
                      refine Pl.seg (pc' := 128) (ls' := [(3, .int w8), (5, .int ((σ.1 1 x3.toNatClampNeg) &&& (255 : Int32))), (0, .ref 17), (1, .ref 1), (2, .int x2), (4, .int x4)]) (st' := []) (σ' := σ7) hM 2 rfl ?_
                      exact Pl.live (l' := [(0, .ref 17), (1, .ref 1), (2, .int x2), (3, .int w8), (4, .int x4)]) hM lv_99 ⟨show ndL _ from (by decide : List.Nodup ([3, 5, 0, 1, 2, 4] : List Nat)), show ndL _ from (by decide : List.Nodup ([0, 1, 2, 3, 4] : List Nat)), by rw [lva_99_128]; exact List.forall_mem_cons.mpr ⟨rfl, List.forall_mem_cons.mpr ⟨rfl, List.forall_mem_cons.mpr ⟨rfl, List.forall_mem_cons.mpr ⟨rfl, List.forall_mem_cons.mpr ⟨rfl, fun _ h => absurd h List.not_mem_nil⟩⟩⟩⟩⟩⟩ h
                  · replace h := h.2 c
                    refine Pl.seg (pc' := 94) (ls' := [(5, .int ((σ.1 1 x3.toNatClampNeg) &&& (255 : Int32))), (0, .ref 17), (1, .ref 1), (2, .int x2), (3, .int x3), (4, .int x4)]) (st' := [.int x3, .int x2, .ref 1, .ref 17]) (σ' := σ1) hM 4 rfl ?_
                    refine Pl.weak (Pl.cI hM rfl rfl (by decide) (Mj := M_94) rfl rfl (fun w10 σ9 hw => ?_))
                    replace h := h w10 σ9 hw
                    refine Pl.seg (pc' := 128) (ls' := [(3, .int w10), (5, .int ((σ.1 1 x3.toNatClampNeg) &&& (255 : Int32))), (0, .ref 17), (1, .ref 1), (2, .int x2), (4, .int x4)]) (st' := []) (σ' := σ9) hM 2 rfl ?_
                    exact Pl.live (l' := [(0, .ref 17), (1, .ref 1), (2, .int x2), (3, .int w10), (4, .int x4)]) hM lv_99 ⟨show ndL _ from (by decide : List.Nodup ([3, 5, 0, 1, 2, 4] : List Nat)), show ndL _ from (by decide : List.Nodup ([0, 1, 2, 3, 4] : List Nat)), by rw [lva_99_128]; exact List.forall_mem_cons.mpr ⟨rfl, List.forall_mem_cons.mpr ⟨rfl, List.forall_mem_cons.mpr ⟨rfl, List.forall_mem_cons.mpr ⟨rfl, List.forall_mem_cons.mpr ⟨rfl, fun _ h => absurd h List.not_mem_nil⟩⟩⟩⟩⟩⟩ h
                · replace h := h.1 c
                  exact Pl.live (l' := [(0, .ref 17), (1, .ref 1), (2, .int x2), (3, .int x3), (4, .int x4)]) hM lv_99 ⟨show ndL _ from (by decide : List.Nodup ([5, 0, 1, 2, 3, 4] : List Nat)), show ndL _ from (by decide : List.Nodup ([0, 1, 2, 3, 4] : List Nat)), by rw [lva_99_76]; exact List.forall_mem_cons.mpr ⟨rfl, List.forall_mem_cons.mpr ⟨rfl, List.forall_mem_cons.mpr ⟨rfl, List.forall_mem_cons.mpr ⟨rfl, List.forall_mem_cons.mpr ⟨rfl, fun _ h => absurd h List.not_mem_nil⟩⟩⟩⟩⟩⟩ h
set_option maxRecDepth 100000 in
theorem p_99_134 {n d : Nat} {Q : Option Value → Sg → Prop} (σ : Sg) (x2 : Int32) (h : (∀ σ1, RCx PRG n 92 [.ref 17, .int (0 : Int32), .long (0 : Int64), .int x2] σ none σ1 → Q none σ1)) : Pl PRG (n + 1) d 99 134 [(0, .ref 17), (2, .int x2)] [] σ Q := by
  have hM : PRG[99]? = some M_99 := rfl
  refine Pl.sg1 (pc' := 138) (ls' := [(0, .ref 17), (2, .int x2)]) (st' := [.int x2, .long (0 : Int64), .int (0 : Int32), .ref 17]) (σ' := σ) hM 3 rfl ?_
  refine Pl.weak (Pl.cV hM rfl rfl (by decide) (Mj := M_92) rfl rfl (fun σ1 hw => ?_))
  replace h := h σ1 hw
  refine Pl.weak (Pl.ret hM rfl rfl h)
set_option maxRecDepth 100000 in
theorem p_99_76 {n d : Nat} {Q : Option Value → Sg → Prop} (σ : Sg) (x2 x3 x4 : Int32) (h : Pl PRG n d 99 128 [(0, .ref 17), (1, .ref 1), (2, .int x2), (3, .int (x3 + (1 : Int32))), (4, .int x4)] [] σ Q) : Pl PRG (n + 1) d 99 76 [(0, .ref 17), (1, .ref 1), (2, .int x2), (3, .int x3), (4, .int x4)] [] σ Q := by
  have hM : PRG[99]? = some M_99 := rfl
  refine Pl.sg1 (pc' := 128) (ls' := [(3, .int (x3 + (1 : Int32))), (0, .ref 17), (1, .ref 1), (2, .int x2), (4, .int x4)]) (st' := []) (σ' := σ) hM 1 rfl ?_
  exact Pl.live (l' := [(0, .ref 17), (1, .ref 1), (2, .int x2), (3, .int (x3 + (1 : Int32))), (4, .int x4)]) hM lv_99 ⟨show ndL _ from (by decide : List.Nodup ([3, 0, 1, 2, 4] : List Nat)), show ndL _ from (by decide : List.Nodup ([0, 1, 2, 3, 4] : List Nat)), by rw [lva_99_128]; exact List.forall_mem_cons.mpr ⟨rfl, List.forall_mem_cons.mpr ⟨rfl, List.forall_mem_cons.mpr ⟨rfl, List.forall_mem_cons.mpr ⟨rfl, List.forall_mem_cons.mpr ⟨rfl, fun _ h => absurd h List.not_mem_nil⟩⟩⟩⟩⟩⟩ h
set_option maxRecDepth 100000 in
theorem p_99_128 {n d : Nat} {Q : Option Value → Sg → Prop} (σ : Sg) (x2 x3 x4 : Int32) (h : Pl PRG n d 99 10 [(0, .ref 17), (1, .ref 1), (2, .int x2), (3, .int x3), (4, .int (x4 + (1 : Int32)))] [] σ Q) : Pl PRG (n + 1) d 99 128 [(0, .ref 17), (1, .ref 1), (2, .int x2), (3, .int x3), (4, .int x4)] [] σ Q := by
  have hM : PRG[99]? = some M_99 := rfl
  refine Pl.sg1 (pc' := 10) (ls' := [(4, .int (x4 + (1 : Int32))), (0, .ref 17), (1, .ref 1), (2, .int x2), (3, .int x3)]) (st' := []) (σ' := σ) hM 1 rfl ?_
  exact Pl.live (l' := [(0, .ref 17), (1, .ref 1), (2, .int x2), (3, .int x3), (4, .int (x4 + (1 : Int32)))]) hM lv_99 ⟨show ndL _ from (by decide : List.Nodup ([4, 0, 1, 2, 3] : List Nat)), show ndL _ from (by decide : List.Nodup ([0, 1, 2, 3, 4] : List Nat)), by rw [lva_99_10]; exact List.forall_mem_cons.mpr ⟨rfl, List.forall_mem_cons.mpr ⟨rfl, List.forall_mem_cons.mpr ⟨rfl, List.forall_mem_cons.mpr ⟨rfl, List.forall_mem_cons.mpr ⟨rfl, fun _ h => absurd h List.not_mem_nil⟩⟩⟩⟩⟩⟩ h
set_option maxRecDepth 100000 in
theorem p_100_0 {n d : Nat} {Q : Option Value → Sg → Prop} (σ : Sg) (x2 : Int32) (h : (∀ σ1, RCx PRG n 99 [.ref 17, .ref 1, .int x2] σ none σ1 → Q none σ1)) : Pl PRG (n + 1) d 100 0 [(0, .ref 15), (1, .ref 1), (2, .int x2)] [] σ Q := by
  have hM : PRG[100]? = some M_100 := rfl
  refine Pl.sg1 (pc' := 6) (ls' := [(0, .ref 15), (1, .ref 1), (2, .int x2)]) (st' := [.int x2, .ref 1, .ref 17]) (σ' := σ) hM 3 rfl ?_
  refine Pl.weak (Pl.cV hM rfl rfl (by decide) (Mj := M_99) rfl rfl (fun σ1 hw => ?_))
  replace h := h σ1 hw
  refine Pl.weak (Pl.ret hM rfl rfl h)
set_option maxRecDepth 100000 in
theorem p_181_0 {n d : Nat} {Q : Option Value → Sg → Prop} (σ : Sg) (x1 : Int32) (h : (((σ.1 97 4) ≤ x1 → Q (some (.int (0 : Int32))) σ) ∧ (¬ (σ.1 97 4) ≤ x1 → (inR x1 2000 = true → Q (some (.int ((σ.1 99 x1.toNatClampNeg) &&& (255 : Int32)))) σ)))) : Pl PRG (n + 1) d 181 0 [(0, .ref 97), (1, .int x1)] [] σ Q := by
  have hM : PRG[181]? = some M_181 := rfl
  refine Pl.br1 (c := (σ.1 97 4) ≤ x1) (a := 21) (b := 8) (ls' := [(0, .ref 97), (1, .int x1)]) (st' := []) (σ' := σ) hM 3 rfl (fun c => ?_) (fun c => ?_)
  · replace h := h.1 c
    refine Pl.seg (pc' := 22) (ls' := [(0, .ref 97), (1, .int x1)]) (st' := [.int (0 : Int32)]) (σ' := σ) hM 1 rfl ?_
    refine Pl.weak (Pl.ret hM rfl rfl h)
  · replace h := h.2 c
    refine Pl.seg (pc' := 13) (ls' := [(0, .ref 97), (1, .int x1)]) (st' := [.int x1, .ref 99]) (σ' := σ) hM 3 rfl ?_
    refine Pl.weak (Pl.bald2 hM rfl rfl (fun hi => ?_))
    replace h := h hi
    refine Pl.seg (pc' := 22) (ls' := [(0, .ref 97), (1, .int x1)]) (st' := [.int ((σ.1 99 x1.toNatClampNeg) &&& (255 : Int32))]) (σ' := σ) hM 3 rfl ?_
    refine Pl.weak (Pl.ret hM rfl rfl h)
set_option maxRecDepth 100000 in
theorem p_182_0 {n d : Nat} {Q : Option Value → Sg → Prop} (σ : Sg) (x0 : Int32) (h : ((x0 < (48 : Int32) → Q (some (.int (0 : Int32))) σ) ∧ (¬ x0 < (48 : Int32) → (((57 : Int32) < x0 → Q (some (.int (0 : Int32))) σ) ∧ (¬ (57 : Int32) < x0 → Q (some (.int (1 : Int32))) σ))))) : Pl PRG (n + 1) d 182 0 [(0, .int x0)] [] σ Q := by
  have hM : PRG[182]? = some M_182 := rfl
  refine Pl.br1 (c := x0 < (48 : Int32)) (a := 16) (b := 6) (ls' := [(0, .int x0)]) (st' := []) (σ' := σ) hM 2 rfl (fun c => ?_) (fun c => ?_)
  · replace h := h.1 c
    refine Pl.seg (pc' := 17) (ls' := [(0, .int x0)]) (st' := [.int (0 : Int32)]) (σ' := σ) hM 1 rfl ?_
    refine Pl.weak (Pl.ret hM rfl rfl h)
  · replace h := h.2 c
    refine Pl.br (c := (57 : Int32) < x0) (a := 16) (b := 12) (ls' := [(0, .int x0)]) (st' := []) (σ' := σ) hM 3 rfl (fun c => ?_) (fun c => ?_)
    · replace h := h.1 c
      refine Pl.seg (pc' := 17) (ls' := [(0, .int x0)]) (st' := [.int (0 : Int32)]) (σ' := σ) hM 1 rfl ?_
      refine Pl.weak (Pl.ret hM rfl rfl h)
    · replace h := h.2 c
      refine Pl.seg (pc' := 17) (ls' := [(0, .int x0)]) (st' := [.int (1 : Int32)]) (σ' := σ) hM 2 rfl ?_
      refine Pl.weak (Pl.ret hM rfl rfl h)
set_option maxRecDepth 100000 in
theorem p_183_0 {n d : Nat} {Q : Option Value → Sg → Prop} (σ : Sg) (x0 : Int32) (h : ((x0 < (97 : Int32) → Q (some (.int (0 : Int32))) σ) ∧ (¬ x0 < (97 : Int32) → (((122 : Int32) < x0 → Q (some (.int (0 : Int32))) σ) ∧ (¬ (122 : Int32) < x0 → Q (some (.int (1 : Int32))) σ))))) : Pl PRG (n + 1) d 183 0 [(0, .int x0)] [] σ Q := by
  have hM : PRG[183]? = some M_183 := rfl
  refine Pl.br1 (c := x0 < (97 : Int32)) (a := 16) (b := 6) (ls' := [(0, .int x0)]) (st' := []) (σ' := σ) hM 2 rfl (fun c => ?_) (fun c => ?_)
  · replace h := h.1 c
    refine Pl.seg (pc' := 17) (ls' := [(0, .int x0)]) (st' := [.int (0 : Int32)]) (σ' := σ) hM 1 rfl ?_
    refine Pl.weak (Pl.ret hM rfl rfl h)
  · replace h := h.2 c
    refine Pl.br (c := (122 : Int32) < x0) (a := 16) (b := 12) (ls' := [(0, .int x0)]) (st' := []) (σ' := σ) hM 3 rfl (fun c => ?_) (fun c => ?_)
    · replace h := h.1 c
      refine Pl.seg (pc' := 17) (ls' := [(0, .int x0)]) (st' := [.int (0 : Int32)]) (σ' := σ) hM 1 rfl ?_
      refine Pl.weak (Pl.ret hM rfl rfl h)
    · replace h := h.2 c
      refine Pl.seg (pc' := 17) (ls' := [(0, .int x0)]) (st' := [.int (1 : Int32)]) (σ' := σ) hM 2 rfl ?_
      refine Pl.weak (Pl.ret hM rfl rfl h)
set_option maxRecDepth 100000 in
theorem p_184_0 {n d : Nat} {Q : Option Value → Sg → Prop} (σ : Sg) (x2 : Int32) (x0 : Int64) (h : ((x2 = 0 → Q (some (.long x0)) σ) ∧ (¬ x2 = 0 → Q (some (.long (((Int64.ofNat 27) * x0) + ((x2 - (97 : Int32)) + (1 : Int32)).toInt64))) σ))) : Pl PRG (n + 1) d 184 0 [(0, .long x0), (2, .int x2)] [] σ Q := by
  have hM : PRG[184]? = some M_184 := rfl
  refine Pl.brN1 (c := x2 = 0) (a := 8) (b := 4) (ls' := [(0, .long x0), (2, .int x2)]) (st' := []) (σ' := σ) hM 1 rfl (fun c => ?_) (fun c => ?_)
  · replace h := h.2 c
    refine Pl.seg (pc' := 21) (ls' := [(0, .long x0), (2, .int x2)]) (st' := [.long (((Int64.ofNat 27) * x0) + ((x2 - (97 : Int32)) + (1 : Int32)).toInt64)]) (σ' := σ) hM 10 rfl ?_
    refine Pl.weak (Pl.ret hM rfl rfl h)
  · replace h := h.1 c
    refine Pl.seg (pc' := 21) (ls' := [(0, .long x0), (2, .int x2)]) (st' := [.long x0]) (σ' := σ) hM 2 rfl ?_
    refine Pl.weak (Pl.ret hM rfl rfl h)
set_option maxRecDepth 100000 in
theorem p_186_0 {n d : Nat} {Q : Option Value → Sg → Prop} (σ : Sg) (x1 x2 x3 : Int32) (x4 : Int64) (h : (inR (σ.1 97 10) 403 = true → (inR (σ.1 97 10) 403 = true → (inR (σ.1 97 10) 403 = true → (inR (σ.1 97 10) 403 = true → Q none (s1 (s2 (s1 (s1 (s1 σ 100 (σ.1 97 10).toNatClampNeg x1) 101 (σ.1 97 10).toNatClampNeg x2) 102 (σ.1 97 10).toNatClampNeg x3) 103 (σ.1 97 10).toNatClampNeg x4) 97 10 ((σ.1 97 10) + (1 : Int32)))))))) : Pl PRG (n + 1) d 186 0 [(0, .ref 97), (1, .int x1), (2, .int x2), (3, .int x3), (4, .long x4)] [] σ Q := by
  have hM : PRG[186]? = some M_186 := rfl
  refine Pl.sg1 (pc' := 9) (ls' := [(0, .ref 97), (1, .int x1), (2, .int x2), (3, .int x3), (4, .long x4)]) (st' := [.int x1, .int (σ.1 97 10), .ref 100]) (σ' := σ) hM 4 rfl ?_
  refine Pl.weak (Pl.iast hM rfl rfl (fun hi => ?_))
  replace h := h hi
  refine Pl.seg (pc' := 19) (ls' := [(0, .ref 97), (1, .int x1), (2, .int x2), (3, .int x3), (4, .long x4)]) (st' := [.int x2, .int (σ.1 97 10), .ref 101]) (σ' := (s1 σ 100 (σ.1 97 10).toNatClampNeg x1)) hM 5 rfl ?_
  refine Pl.weak (Pl.iast hM rfl rfl (fun hi => ?_))
  replace h := h hi
  refine Pl.seg (pc' := 29) (ls' := [(0, .ref 97), (1, .int x1), (2, .int x2), (3, .int x3), (4, .long x4)]) (st' := [.int x3, .int (σ.1 97 10), .ref 102]) (σ' := (s1 (s1 σ 100 (σ.1 97 10).toNatClampNeg x1) 101 (σ.1 97 10).toNatClampNeg x2)) hM 5 rfl ?_
  refine Pl.weak (Pl.iast hM rfl rfl (fun hi => ?_))
  replace h := h hi
  refine Pl.seg (pc' := 40) (ls' := [(0, .ref 97), (1, .int x1), (2, .int x2), (3, .int x3), (4, .long x4)]) (st' := [.long x4, .int (σ.1 97 10), .ref 103]) (σ' := (s1 (s1 (s1 σ 100 (σ.1 97 10).toNatClampNeg x1) 101 (σ.1 97 10).toNatClampNeg x2) 102 (σ.1 97 10).toNatClampNeg x3)) hM 5 rfl ?_
  refine Pl.weak (Pl.last hM rfl rfl (fun hi => ?_))
  replace h := h hi
  refine Pl.seg (pc' := 51) (ls' := [(0, .ref 97), (1, .int x1), (2, .int x2), (3, .int x3), (4, .long x4)]) (st' := []) (σ' := (s1 (s2 (s1 (s1 (s1 σ 100 (σ.1 97 10).toNatClampNeg x1) 101 (σ.1 97 10).toNatClampNeg x2) 102 (σ.1 97 10).toNatClampNeg x3) 103 (σ.1 97 10).toNatClampNeg x4) 97 10 ((σ.1 97 10) + (1 : Int32)))) hM 6 rfl ?_
  refine Pl.weak (Pl.ret hM rfl rfl h)
def LV_187 : List (Nat × List Nat) := [(0, [0, 1, 2, 3]), (1, [0, 1, 2]), (3, [0, 1, 2]), (6, [0, 1, 2]), (7, [0, 1, 2]), (10, [0, 1, 2]), (11, [0, 1, 2]), (13, [0, 1, 2]), (16, [0, 1, 2]), (18, [0, 1, 2]), (21, [0, 1, 2]), (22, [0, 1, 2]), (24, [0, 1, 2]), (27, [0, 1, 2]), (29, [0, 1, 2]), (32, [0, 1, 2]), (33, [0, 1, 2]), (35, [0, 1, 2]), (38, [0, 1, 2]), (40, [0, 1, 2]), (43, [0, 1, 2]), (44, [0, 1, 2]), (46, [0, 1, 2, 4]), (47, [0, 1, 2, 4]), (49, [0, 1, 2, 4, 5]), (51, [0, 1, 2, 4, 5]), (54, [0, 1, 4]), (56, [0, 1, 4]), (58, [0, 1, 4, 5]), (61, [0, 1, 2, 4, 5]), (62, [0, 1, 2, 4, 5]), (64, [0, 1, 2, 4, 5]), (67, [0, 1, 4]), (68, [0, 1, 4]), (70, [0, 1, 4, 5]), (73, [0, 1, 2, 4, 5]), (74, [0, 1, 2, 4, 5]), (76, [0, 1, 2, 4, 5]), (79, [0, 1, 4]), (81, [0, 1, 4]), (83, [0, 1, 4, 5]), (86, [0, 1, 2, 4, 5]), (87, [0, 1, 2, 4, 5]), (89, [0, 1, 2, 4, 5]), (92, [0, 1, 4]), (94, [0, 1, 4]), (96, [0, 1, 4, 5]), (99, [0, 1, 2, 4, 5]), (100, [0, 1, 2, 4, 5]), (102, [0, 1, 2, 4, 5]), (105, [0, 1, 4]), (107, [0, 1, 4]), (109, [0, 1, 4, 5]), (112, [0, 1, 2, 4, 5]), (113, [0, 1, 2, 4, 5]), (115, [0, 1, 2, 4, 5]), (118, [0, 1, 4]), (120, [0, 1, 4]), (122, [0, 1, 4, 5]), (125, [0, 1, 2, 4, 5]), (126, [0, 1, 2, 4, 5]), (128, [0, 1, 2, 4, 5]), (131, [0, 1, 4]), (133, [0, 1, 4]), (135, [0, 1, 4, 5]), (138, [0, 1, 2, 4, 5]), (139, [0, 1, 2, 4, 5]), (141, [0, 1, 2, 4, 5]), (144, [0, 1, 4]), (146, [0, 1, 4]), (148, [0, 1, 4, 5]), (151, [0, 1, 2, 4, 5]), (152, [0, 1, 4, 5]), (154, [0, 1, 4, 5]), (157, [0, 1, 4]), (159, [0, 1, 4]), (161, [0, 1, 4, 5]), (162, [1, 4, 5]), (164, [1, 4]), (165, [4]), (166, [4]), (167, [4]), (170, [4]), (172, []), (175, []), (176, []), (179, []), (180, [])]
set_option maxRecDepth 100000 in
theorem lv_187 : chkLv M_187 LV_187 = true := by decide +kernel
set_option maxRecDepth 100000 in
theorem lva_187_161 : lvA LV_187 161 = [0, 1, 4, 5] := by decide +kernel
set_option maxRecDepth 100000 in
theorem p_187_0 {n d : Nat} {Q : Option Value → Sg → Prop} (σ : Sg) (x1 x2 x3 : Int32) (h : ((x3 = (61 : Int32) → ((x2 = (61 : Int32) → Pl PRG n d 187 161 [(0, .ref 97), (1, .int x1), (4, .int (11 : Int32)), (5, .int (11 : Int32))] [] σ Q) ∧ (¬ x2 = (61 : Int32) → ((x2 = (33 : Int32) → Pl PRG n d 187 161 [(0, .ref 97), (1, .int x1), (4, .int (12 : Int32)), (5, .int (12 : Int32))] [] σ Q) ∧ (¬ x2 = (33 : Int32) → ((x2 = (60 : Int32) → Pl PRG n d 187 161 [(0, .ref 97), (1, .int x1), (4, .int (14 : Int32)), (5, .int (14 : Int32))] [] σ Q) ∧ (¬ x2 = (60 : Int32) → ((x2 = (59 : Int32) → Pl PRG n d 187 161 [(0, .ref 97), (1, .int x1), (4, .int (0 : Int32)), (5, .int (4 : Int32))] [] σ Q) ∧ (¬ x2 = (59 : Int32) → ((x2 = (40 : Int32) → Pl PRG n d 187 161 [(0, .ref 97), (1, .int x1), (4, .int (0 : Int32)), (5, .int (6 : Int32))] [] σ Q) ∧ (¬ x2 = (40 : Int32) → ((x2 = (41 : Int32) → Pl PRG n d 187 161 [(0, .ref 97), (1, .int x1), (4, .int (0 : Int32)), (5, .int (7 : Int32))] [] σ Q) ∧ (¬ x2 = (41 : Int32) → ((x2 = (43 : Int32) → Pl PRG n d 187 161 [(0, .ref 97), (1, .int x1), (4, .int (0 : Int32)), (5, .int (8 : Int32))] [] σ Q) ∧ (¬ x2 = (43 : Int32) → ((x2 = (45 : Int32) → Pl PRG n d 187 161 [(0, .ref 97), (1, .int x1), (4, .int (0 : Int32)), (5, .int (9 : Int32))] [] σ Q) ∧ (¬ x2 = (45 : Int32) → ((x2 = (42 : Int32) → Pl PRG n d 187 161 [(0, .ref 97), (1, .int x1), (4, .int (0 : Int32)), (5, .int (10 : Int32))] [] σ Q) ∧ (¬ x2 = (42 : Int32) → ((x2 = (60 : Int32) → Pl PRG n d 187 161 [(0, .ref 97), (1, .int x1), (4, .int (0 : Int32)), (5, .int (13 : Int32))] [] σ Q) ∧ (¬ x2 = (60 : Int32) → ((x2 = (47 : Int32) → Pl PRG n d 187 161 [(0, .ref 97), (1, .int x1), (4, .int (0 : Int32)), (5, .int (15 : Int32))] [] σ Q) ∧ (¬ x2 = (47 : Int32) → Pl PRG n d 187 161 [(0, .ref 97), (1, .int x1), (4, .int (0 : Int32)), (5, .int (3 : Int32))] [] σ Q))))))))))))))))))))))) ∧ (¬ x3 = (61 : Int32) → ((x2 = (59 : Int32) → Pl PRG n d 187 161 [(0, .ref 97), (1, .int x1), (4, .int (0 : Int32)), (5, .int (4 : Int32))] [] σ Q) ∧ (¬ x2 = (59 : Int32) → ((x2 = (40 : Int32) → Pl PRG n d 187 161 [(0, .ref 97), (1, .int x1), (4, .int (0 : Int32)), (5, .int (6 : Int32))] [] σ Q) ∧ (¬ x2 = (40 : Int32) → ((x2 = (41 : Int32) → Pl PRG n d 187 161 [(0, .ref 97), (1, .int x1), (4, .int (0 : Int32)), (5, .int (7 : Int32))] [] σ Q) ∧ (¬ x2 = (41 : Int32) → ((x2 = (43 : Int32) → Pl PRG n d 187 161 [(0, .ref 97), (1, .int x1), (4, .int (0 : Int32)), (5, .int (8 : Int32))] [] σ Q) ∧ (¬ x2 = (43 : Int32) → ((x2 = (45 : Int32) → Pl PRG n d 187 161 [(0, .ref 97), (1, .int x1), (4, .int (0 : Int32)), (5, .int (9 : Int32))] [] σ Q) ∧ (¬ x2 = (45 : Int32) → ((x2 = (42 : Int32) → Pl PRG n d 187 161 [(0, .ref 97), (1, .int x1), (4, .int (0 : Int32)), (5, .int (10 : Int32))] [] σ Q) ∧ (¬ x2 = (42 : Int32) → ((x2 = (60 : Int32) → Pl PRG n d 187 161 [(0, .ref 97), (1, .int x1), (4, .int (0 : Int32)), (5, .int (13 : Int32))] [] σ Q) ∧ (¬ x2 = (60 : Int32) → ((x2 = (47 : Int32) → Pl PRG n d 187 161 [(0, .ref 97), (1, .int x1), (4, .int (0 : Int32)), (5, .int (15 : Int32))] [] σ Q) ∧ (¬ x2 = (47 : Int32) → Pl PRG n d 187 161 [(0, .ref 97), (1, .int x1), (4, .int (0 : Int32)), (5, .int (3 : Int32))] [] σ Q))))))))))))))))))) : Pl PRG (n + 1) d 187 0 [(0, .ref 97), (1, .int x1), (2, .int x2), (3, .int x3)] [] σ Q := by
  have hM : PRG[187]? = some M_187 := rfl
  refine Pl.br1 (c := x3 = (61 : Int32)) (a := 10) (b := 6) (ls' := [(0, .ref 97), (1, .int x1), (2, .int x2), (3, .int x3)]) (st' := []) (σ' := σ) hM 2 rfl (fun c => ?_) (fun c => ?_)
  · replace h := h.1 c
    refine Pl.brN (c := x2 = (61 : Int32)) (a := 21) (b := 16) (ls' := [(0, .ref 97), (1, .int x1), (2, .int x2), (3, .int x3)]) (st' := []) (σ' := σ) hM 3 rfl (fun c => ?_) (fun c => ?_)
    · replace h := h.2 c
      refine Pl.brN (c := x2 = (33 : Int32)) (a := 32) (b := 27) (ls' := [(0, .ref 97), (1, .int x1), (2, .int x2), (3, .int x3)]) (st' := []) (σ' := σ) hM 3 rfl (fun c => ?_) (fun c => ?_)
      · replace h := h.2 c
        refine Pl.brN (c := x2 = (60 : Int32)) (a := 43) (b := 38) (ls' := [(0, .ref 97), (1, .int x1), (2, .int x2), (3, .int x3)]) (st' := []) (σ' := σ) hM 3 rfl (fun c => ?_) (fun c => ?_)
        · replace h := h.2 c
          refine Pl.brN (c := x2 = (59 : Int32)) (a := 73) (b := 67) (ls' := [(5, .int (3 : Int32)), (4, .int (0 : Int32)), (0, .ref 97), (1, .int x1), (2, .int x2), (3, .int x3)]) (st' := []) (σ' := σ) hM 9 rfl (fun c => ?_) (fun c => ?_)
          · replace h := h.2 c
            refine Pl.brN (c := x2 = (40 : Int32)) (a := 86) (b := 79) (ls' := [(5, .int (3 : Int32)), (4, .int (0 : Int32)), (0, .ref 97), (1, .int x1), (2, .int x2), (3, .int x3)]) (st' := []) (σ' := σ) hM 3 rfl (fun c => ?_) (fun c => ?_)
            · replace h := h.2 c
              refine Pl.brN (c := x2 = (41 : Int32)) (a := 99) (b := 92) (ls' := [(5, .int (3 : Int32)), (4, .int (0 : Int32)), (0, .ref 97), (1, .int x1), (2, .int x2), (3, .int x3)]) (st' := []) (σ' := σ) hM 3 rfl (fun c => ?_) (fun c => ?_)
              · replace h := h.2 c
                refine Pl.brN (c := x2 = (43 : Int32)) (a := 112) (b := 105) (ls' := [(5, .int (3 : Int32)), (4, .int (0 : Int32)), (0, .ref 97), (1, .int x1), (2, .int x2), (3, .int x3)]) (st' := []) (σ' := σ) hM 3 rfl (fun c => ?_) (fun c => ?_)
                · replace h := h.2 c
                  refine Pl.brN (c := x2 = (45 : Int32)) (a := 125) (b := 118) (ls' := [(5, .int (3 : Int32)), (4, .int (0 : Int32)), (0, .ref 97), (1, .int x1), (2, .int x2), (3, .int x3)]) (st' := []) (σ' := σ) hM 3 rfl (fun c => ?_) (fun c => ?_)
                  · replace h := h.2 c
                    refine Pl.brN (c := x2 = (42 : Int32)) (a := 138) (b := 131) (ls' := [(5, .int (3 : Int32)), (4, .int (0 : Int32)), (0, .ref 97), (1, .int x1), (2, .int x2), (3, .int x3)]) (st' := []) (σ' := σ) hM 3 rfl (fun c => ?_) (fun c => ?_)
                    · replace h := h.2 c
                      refine Pl.brN (c := x2 = (60 : Int32)) (a := 151) (b := 144) (ls' := [(5, .int (3 : Int32)), (4, .int (0 : Int32)), (0, .ref 97), (1, .int x1), (2, .int x2), (3, .int x3)]) (st' := []) (σ' := σ) hM 3 rfl (fun c => ?_) (fun c => ?_)
                      · replace h := h.2 c
                        refine Pl.brN (c := x2 = (47 : Int32)) (a := 161) (b := 157) (ls' := [(5, .int (3 : Int32)), (4, .int (0 : Int32)), (0, .ref 97), (1, .int x1), (2, .int x2), (3, .int x3)]) (st' := []) (σ' := σ) hM 3 rfl (fun c => ?_) (fun c => ?_)
                        · replace h := h.2 c
                          exact Pl.live (l' := [(0, .ref 97), (1, .int x1), (4, .int (0 : Int32)), (5, .int (3 : Int32))]) hM lv_187 ⟨show ndL _ from (by decide : List.Nodup ([5, 4, 0, 1, 2, 3] : List Nat)), show ndL _ from (by decide : List.Nodup ([0, 1, 4, 5] : List Nat)), by rw [lva_187_161]; exact List.forall_mem_cons.mpr ⟨rfl, List.forall_mem_cons.mpr ⟨rfl, List.forall_mem_cons.mpr ⟨rfl, List.forall_mem_cons.mpr ⟨rfl, fun _ h => absurd h List.not_mem_nil⟩⟩⟩⟩⟩ h
                        · replace h := h.1 c
                          refine Pl.seg (pc' := 161) (ls' := [(5, .int (15 : Int32)), (4, .int (0 : Int32)), (0, .ref 97), (1, .int x1), (2, .int x2), (3, .int x3)]) (st' := []) (σ' := σ) hM 2 rfl ?_
                          exact Pl.live (l' := [(0, .ref 97), (1, .int x1), (4, .int (0 : Int32)), (5, .int (15 : Int32))]) hM lv_187 ⟨show ndL _ from (by decide : List.Nodup ([5, 4, 0, 1, 2, 3] : List Nat)), show ndL _ from (by decide : List.Nodup ([0, 1, 4, 5] : List Nat)), by rw [lva_187_161]; exact List.forall_mem_cons.mpr ⟨rfl, List.forall_mem_cons.mpr ⟨rfl, List.forall_mem_cons.mpr ⟨rfl, List.forall_mem_cons.mpr ⟨rfl, fun _ h => absurd h List.not_mem_nil⟩⟩⟩⟩⟩ h
                      · replace h := h.1 c
                        refine Pl.seg (pc' := 161) (ls' := [(5, .int (13 : Int32)), (4, .int (0 : Int32)), (0, .ref 97), (1, .int x1), (2, .int x2), (3, .int x3)]) (st' := []) (σ' := σ) hM 3 rfl ?_
                        exact Pl.live (l' := [(0, .ref 97), (1, .int x1), (4, .int (0 : Int32)), (5, .int (13 : Int32))]) hM lv_187 ⟨show ndL _ from (by decide : List.Nodup ([5, 4, 0, 1, 2, 3] : List Nat)), show ndL _ from (by decide : List.Nodup ([0, 1, 4, 5] : List Nat)), by rw [lva_187_161]; exact List.forall_mem_cons.mpr ⟨rfl, List.forall_mem_cons.mpr ⟨rfl, List.forall_mem_cons.mpr ⟨rfl, List.forall_mem_cons.mpr ⟨rfl, fun _ h => absurd h List.not_mem_nil⟩⟩⟩⟩⟩ h
                    · replace h := h.1 c
                      refine Pl.seg (pc' := 161) (ls' := [(5, .int (10 : Int32)), (4, .int (0 : Int32)), (0, .ref 97), (1, .int x1), (2, .int x2), (3, .int x3)]) (st' := []) (σ' := σ) hM 3 rfl ?_
                      exact Pl.live (l' := [(0, .ref 97), (1, .int x1), (4, .int (0 : Int32)), (5, .int (10 : Int32))]) hM lv_187 ⟨show ndL _ from (by decide : List.Nodup ([5, 4, 0, 1, 2, 3] : List Nat)), show ndL _ from (by decide : List.Nodup ([0, 1, 4, 5] : List Nat)), by rw [lva_187_161]; exact List.forall_mem_cons.mpr ⟨rfl, List.forall_mem_cons.mpr ⟨rfl, List.forall_mem_cons.mpr ⟨rfl, List.forall_mem_cons.mpr ⟨rfl, fun _ h => absurd h List.not_mem_nil⟩⟩⟩⟩⟩ h
                  · replace h := h.1 c
                    refine Pl.seg (pc' := 161) (ls' := [(5, .int (9 : Int32)), (4, .int (0 : Int32)), (0, .ref 97), (1, .int x1), (2, .int x2), (3, .int x3)]) (st' := []) (σ' := σ) hM 3 rfl ?_
                    exact Pl.live (l' := [(0, .ref 97), (1, .int x1), (4, .int (0 : Int32)), (5, .int (9 : Int32))]) hM lv_187 ⟨show ndL _ from (by decide : List.Nodup ([5, 4, 0, 1, 2, 3] : List Nat)), show ndL _ from (by decide : List.Nodup ([0, 1, 4, 5] : List Nat)), by rw [lva_187_161]; exact List.forall_mem_cons.mpr ⟨rfl, List.forall_mem_cons.mpr ⟨rfl, List.forall_mem_cons.mpr ⟨rfl, List.forall_mem_cons.mpr ⟨rfl, fun _ h => absurd h List.not_mem_nil⟩⟩⟩⟩⟩ h
                · replace h := h.1 c
                  refine Pl.seg (pc' := 161) (ls' := [(5, .int (8 : Int32)), (4, .int (0 : Int32)), (0, .ref 97), (1, .int x1), (2, .int x2), (3, .int x3)]) (st' := []) (σ' := σ) hM 3 rfl ?_
                  exact Pl.live (l' := [(0, .ref 97), (1, .int x1), (4, .int (0 : Int32)), (5, .int (8 : Int32))]) hM lv_187 ⟨show ndL _ from (by decide : List.Nodup ([5, 4, 0, 1, 2, 3] : List Nat)), show ndL _ from (by decide : List.Nodup ([0, 1, 4, 5] : List Nat)), by rw [lva_187_161]; exact List.forall_mem_cons.mpr ⟨rfl, List.forall_mem_cons.mpr ⟨rfl, List.forall_mem_cons.mpr ⟨rfl, List.forall_mem_cons.mpr ⟨rfl, fun _ h => absurd h List.not_mem_nil⟩⟩⟩⟩⟩ h
              · replace h := h.1 c
                refine Pl.seg (pc' := 161) (ls' := [(5, .int (7 : Int32)), (4, .int (0 : Int32)), (0, .ref 97), (1, .int x1), (2, .int x2), (3, .int x3)]) (st' := []) (σ' := σ) hM 3 rfl ?_
                exact Pl.live (l' := [(0, .ref 97), (1, .int x1), (4, .int (0 : Int32)), (5, .int (7 : Int32))]) hM lv_187 ⟨show ndL _ from (by decide : List.Nodup ([5, 4, 0, 1, 2, 3] : List Nat)), show ndL _ from (by decide : List.Nodup ([0, 1, 4, 5] : List Nat)), by rw [lva_187_161]; exact List.forall_mem_cons.mpr ⟨rfl, List.forall_mem_cons.mpr ⟨rfl, List.forall_mem_cons.mpr ⟨rfl, List.forall_mem_cons.mpr ⟨rfl, fun _ h => absurd h List.not_mem_nil⟩⟩⟩⟩⟩ h
            · replace h := h.1 c
              refine Pl.seg (pc' := 161) (ls' := [(5, .int (6 : Int32)), (4, .int (0 : Int32)), (0, .ref 97), (1, .int x1), (2, .int x2), (3, .int x3)]) (st' := []) (σ' := σ) hM 3 rfl ?_
              exact Pl.live (l' := [(0, .ref 97), (1, .int x1), (4, .int (0 : Int32)), (5, .int (6 : Int32))]) hM lv_187 ⟨show ndL _ from (by decide : List.Nodup ([5, 4, 0, 1, 2, 3] : List Nat)), show ndL _ from (by decide : List.Nodup ([0, 1, 4, 5] : List Nat)), by rw [lva_187_161]; exact List.forall_mem_cons.mpr ⟨rfl, List.forall_mem_cons.mpr ⟨rfl, List.forall_mem_cons.mpr ⟨rfl, List.forall_mem_cons.mpr ⟨rfl, fun _ h => absurd h List.not_mem_nil⟩⟩⟩⟩⟩ h
          · replace h := h.1 c
            refine Pl.seg (pc' := 161) (ls' := [(5, .int (4 : Int32)), (4, .int (0 : Int32)), (0, .ref 97), (1, .int x1), (2, .int x2), (3, .int x3)]) (st' := []) (σ' := σ) hM 3 rfl ?_
            exact Pl.live (l' := [(0, .ref 97), (1, .int x1), (4, .int (0 : Int32)), (5, .int (4 : Int32))]) hM lv_187 ⟨show ndL _ from (by decide : List.Nodup ([5, 4, 0, 1, 2, 3] : List Nat)), show ndL _ from (by decide : List.Nodup ([0, 1, 4, 5] : List Nat)), by rw [lva_187_161]; exact List.forall_mem_cons.mpr ⟨rfl, List.forall_mem_cons.mpr ⟨rfl, List.forall_mem_cons.mpr ⟨rfl, List.forall_mem_cons.mpr ⟨rfl, fun _ h => absurd h List.not_mem_nil⟩⟩⟩⟩⟩ h
        · replace h := h.1 c
          refine Pl.seg (pc' := 161) (ls' := [(5, .int (14 : Int32)), (4, .int (14 : Int32)), (0, .ref 97), (1, .int x1), (2, .int x2), (3, .int x3)]) (st' := []) (σ' := σ) hM 10 rfl ?_
          exact Pl.live (l' := [(0, .ref 97), (1, .int x1), (4, .int (14 : Int32)), (5, .int (14 : Int32))]) hM lv_187 ⟨show ndL _ from (by decide : List.Nodup ([5, 4, 0, 1, 2, 3] : List Nat)), show ndL _ from (by decide : List.Nodup ([0, 1, 4, 5] : List Nat)), by rw [lva_187_161]; exact List.forall_mem_cons.mpr ⟨rfl, List.forall_mem_cons.mpr ⟨rfl, List.forall_mem_cons.mpr ⟨rfl, List.forall_mem_cons.mpr ⟨rfl, fun _ h => absurd h List.not_mem_nil⟩⟩⟩⟩⟩ h
      · replace h := h.1 c
        refine Pl.seg (pc' := 161) (ls' := [(5, .int (12 : Int32)), (4, .int (12 : Int32)), (0, .ref 97), (1, .int x1), (2, .int x2), (3, .int x3)]) (st' := []) (σ' := σ) hM 10 rfl ?_
        exact Pl.live (l' := [(0, .ref 97), (1, .int x1), (4, .int (12 : Int32)), (5, .int (12 : Int32))]) hM lv_187 ⟨show ndL _ from (by decide : List.Nodup ([5, 4, 0, 1, 2, 3] : List Nat)), show ndL _ from (by decide : List.Nodup ([0, 1, 4, 5] : List Nat)), by rw [lva_187_161]; exact List.forall_mem_cons.mpr ⟨rfl, List.forall_mem_cons.mpr ⟨rfl, List.forall_mem_cons.mpr ⟨rfl, List.forall_mem_cons.mpr ⟨rfl, fun _ h => absurd h List.not_mem_nil⟩⟩⟩⟩⟩ h
    · replace h := h.1 c
      refine Pl.seg (pc' := 161) (ls' := [(5, .int (11 : Int32)), (4, .int (11 : Int32)), (0, .ref 97), (1, .int x1), (2, .int x2), (3, .int x3)]) (st' := []) (σ' := σ) hM 10 rfl ?_
      exact Pl.live (l' := [(0, .ref 97), (1, .int x1), (4, .int (11 : Int32)), (5, .int (11 : Int32))]) hM lv_187 ⟨show ndL _ from (by decide : List.Nodup ([5, 4, 0, 1, 2, 3] : List Nat)), show ndL _ from (by decide : List.Nodup ([0, 1, 4, 5] : List Nat)), by rw [lva_187_161]; exact List.forall_mem_cons.mpr ⟨rfl, List.forall_mem_cons.mpr ⟨rfl, List.forall_mem_cons.mpr ⟨rfl, List.forall_mem_cons.mpr ⟨rfl, fun _ h => absurd h List.not_mem_nil⟩⟩⟩⟩⟩ h
  · replace h := h.2 c
    refine Pl.brN (c := x2 = (59 : Int32)) (a := 73) (b := 67) (ls' := [(5, .int (3 : Int32)), (4, .int (0 : Int32)), (0, .ref 97), (1, .int x1), (2, .int x2), (3, .int x3)]) (st' := []) (σ' := σ) hM 10 rfl (fun c => ?_) (fun c => ?_)
    · replace h := h.2 c
      refine Pl.brN (c := x2 = (40 : Int32)) (a := 86) (b := 79) (ls' := [(5, .int (3 : Int32)), (4, .int (0 : Int32)), (0, .ref 97), (1, .int x1), (2, .int x2), (3, .int x3)]) (st' := []) (σ' := σ) hM 3 rfl (fun c => ?_) (fun c => ?_)
      · replace h := h.2 c
        refine Pl.brN (c := x2 = (41 : Int32)) (a := 99) (b := 92) (ls' := [(5, .int (3 : Int32)), (4, .int (0 : Int32)), (0, .ref 97), (1, .int x1), (2, .int x2), (3, .int x3)]) (st' := []) (σ' := σ) hM 3 rfl (fun c => ?_) (fun c => ?_)
        · replace h := h.2 c
          refine Pl.brN (c := x2 = (43 : Int32)) (a := 112) (b := 105) (ls' := [(5, .int (3 : Int32)), (4, .int (0 : Int32)), (0, .ref 97), (1, .int x1), (2, .int x2), (3, .int x3)]) (st' := []) (σ' := σ) hM 3 rfl (fun c => ?_) (fun c => ?_)
          · replace h := h.2 c
            refine Pl.brN (c := x2 = (45 : Int32)) (a := 125) (b := 118) (ls' := [(5, .int (3 : Int32)), (4, .int (0 : Int32)), (0, .ref 97), (1, .int x1), (2, .int x2), (3, .int x3)]) (st' := []) (σ' := σ) hM 3 rfl (fun c => ?_) (fun c => ?_)
            · replace h := h.2 c
              refine Pl.brN (c := x2 = (42 : Int32)) (a := 138) (b := 131) (ls' := [(5, .int (3 : Int32)), (4, .int (0 : Int32)), (0, .ref 97), (1, .int x1), (2, .int x2), (3, .int x3)]) (st' := []) (σ' := σ) hM 3 rfl (fun c => ?_) (fun c => ?_)
              · replace h := h.2 c
                refine Pl.brN (c := x2 = (60 : Int32)) (a := 151) (b := 144) (ls' := [(5, .int (3 : Int32)), (4, .int (0 : Int32)), (0, .ref 97), (1, .int x1), (2, .int x2), (3, .int x3)]) (st' := []) (σ' := σ) hM 3 rfl (fun c => ?_) (fun c => ?_)
                · replace h := h.2 c
                  refine Pl.brN (c := x2 = (47 : Int32)) (a := 161) (b := 157) (ls' := [(5, .int (3 : Int32)), (4, .int (0 : Int32)), (0, .ref 97), (1, .int x1), (2, .int x2), (3, .int x3)]) (st' := []) (σ' := σ) hM 3 rfl (fun c => ?_) (fun c => ?_)
                  · replace h := h.2 c
                    exact Pl.live (l' := [(0, .ref 97), (1, .int x1), (4, .int (0 : Int32)), (5, .int (3 : Int32))]) hM lv_187 ⟨show ndL _ from (by decide : List.Nodup ([5, 4, 0, 1, 2, 3] : List Nat)), show ndL _ from (by decide : List.Nodup ([0, 1, 4, 5] : List Nat)), by rw [lva_187_161]; exact List.forall_mem_cons.mpr ⟨rfl, List.forall_mem_cons.mpr ⟨rfl, List.forall_mem_cons.mpr ⟨rfl, List.forall_mem_cons.mpr ⟨rfl, fun _ h => absurd h List.not_mem_nil⟩⟩⟩⟩⟩ h
                  · replace h := h.1 c
                    refine Pl.seg (pc' := 161) (ls' := [(5, .int (15 : Int32)), (4, .int (0 : Int32)), (0, .ref 97), (1, .int x1), (2, .int x2), (3, .int x3)]) (st' := []) (σ' := σ) hM 2 rfl ?_
                    exact Pl.live (l' := [(0, .ref 97), (1, .int x1), (4, .int (0 : Int32)), (5, .int (15 : Int32))]) hM lv_187 ⟨show ndL _ from (by decide : List.Nodup ([5, 4, 0, 1, 2, 3] : List Nat)), show ndL _ from (by decide : List.Nodup ([0, 1, 4, 5] : List Nat)), by rw [lva_187_161]; exact List.forall_mem_cons.mpr ⟨rfl, List.forall_mem_cons.mpr ⟨rfl, List.forall_mem_cons.mpr ⟨rfl, List.forall_mem_cons.mpr ⟨rfl, fun _ h => absurd h List.not_mem_nil⟩⟩⟩⟩⟩ h
                · replace h := h.1 c
                  refine Pl.seg (pc' := 161) (ls' := [(5, .int (13 : Int32)), (4, .int (0 : Int32)), (0, .ref 97), (1, .int x1), (2, .int x2), (3, .int x3)]) (st' := []) (σ' := σ) hM 3 rfl ?_
                  exact Pl.live (l' := [(0, .ref 97), (1, .int x1), (4, .int (0 : Int32)), (5, .int (13 : Int32))]) hM lv_187 ⟨show ndL _ from (by decide : List.Nodup ([5, 4, 0, 1, 2, 3] : List Nat)), show ndL _ from (by decide : List.Nodup ([0, 1, 4, 5] : List Nat)), by rw [lva_187_161]; exact List.forall_mem_cons.mpr ⟨rfl, List.forall_mem_cons.mpr ⟨rfl, List.forall_mem_cons.mpr ⟨rfl, List.forall_mem_cons.mpr ⟨rfl, fun _ h => absurd h List.not_mem_nil⟩⟩⟩⟩⟩ h
              · replace h := h.1 c
                refine Pl.seg (pc' := 161) (ls' := [(5, .int (10 : Int32)), (4, .int (0 : Int32)), (0, .ref 97), (1, .int x1), (2, .int x2), (3, .int x3)]) (st' := []) (σ' := σ) hM 3 rfl ?_
                exact Pl.live (l' := [(0, .ref 97), (1, .int x1), (4, .int (0 : Int32)), (5, .int (10 : Int32))]) hM lv_187 ⟨show ndL _ from (by decide : List.Nodup ([5, 4, 0, 1, 2, 3] : List Nat)), show ndL _ from (by decide : List.Nodup ([0, 1, 4, 5] : List Nat)), by rw [lva_187_161]; exact List.forall_mem_cons.mpr ⟨rfl, List.forall_mem_cons.mpr ⟨rfl, List.forall_mem_cons.mpr ⟨rfl, List.forall_mem_cons.mpr ⟨rfl, fun _ h => absurd h List.not_mem_nil⟩⟩⟩⟩⟩ h
            · replace h := h.1 c
              refine Pl.seg (pc' := 161) (ls' := [(5, .int (9 : Int32)), (4, .int (0 : Int32)), (0, .ref 97), (1, .int x1), (2, .int x2), (3, .int x3)]) (st' := []) (σ' := σ) hM 3 rfl ?_
              exact Pl.live (l' := [(0, .ref 97), (1, .int x1), (4, .int (0 : Int32)), (5, .int (9 : Int32))]) hM lv_187 ⟨show ndL _ from (by decide : List.Nodup ([5, 4, 0, 1, 2, 3] : List Nat)), show ndL _ from (by decide : List.Nodup ([0, 1, 4, 5] : List Nat)), by rw [lva_187_161]; exact List.forall_mem_cons.mpr ⟨rfl, List.forall_mem_cons.mpr ⟨rfl, List.forall_mem_cons.mpr ⟨rfl, List.forall_mem_cons.mpr ⟨rfl, fun _ h => absurd h List.not_mem_nil⟩⟩⟩⟩⟩ h
          · replace h := h.1 c
            refine Pl.seg (pc' := 161) (ls' := [(5, .int (8 : Int32)), (4, .int (0 : Int32)), (0, .ref 97), (1, .int x1), (2, .int x2), (3, .int x3)]) (st' := []) (σ' := σ) hM 3 rfl ?_
            exact Pl.live (l' := [(0, .ref 97), (1, .int x1), (4, .int (0 : Int32)), (5, .int (8 : Int32))]) hM lv_187 ⟨show ndL _ from (by decide : List.Nodup ([5, 4, 0, 1, 2, 3] : List Nat)), show ndL _ from (by decide : List.Nodup ([0, 1, 4, 5] : List Nat)), by rw [lva_187_161]; exact List.forall_mem_cons.mpr ⟨rfl, List.forall_mem_cons.mpr ⟨rfl, List.forall_mem_cons.mpr ⟨rfl, List.forall_mem_cons.mpr ⟨rfl, fun _ h => absurd h List.not_mem_nil⟩⟩⟩⟩⟩ h
        · replace h := h.1 c
          refine Pl.seg (pc' := 161) (ls' := [(5, .int (7 : Int32)), (4, .int (0 : Int32)), (0, .ref 97), (1, .int x1), (2, .int x2), (3, .int x3)]) (st' := []) (σ' := σ) hM 3 rfl ?_
          exact Pl.live (l' := [(0, .ref 97), (1, .int x1), (4, .int (0 : Int32)), (5, .int (7 : Int32))]) hM lv_187 ⟨show ndL _ from (by decide : List.Nodup ([5, 4, 0, 1, 2, 3] : List Nat)), show ndL _ from (by decide : List.Nodup ([0, 1, 4, 5] : List Nat)), by rw [lva_187_161]; exact List.forall_mem_cons.mpr ⟨rfl, List.forall_mem_cons.mpr ⟨rfl, List.forall_mem_cons.mpr ⟨rfl, List.forall_mem_cons.mpr ⟨rfl, fun _ h => absurd h List.not_mem_nil⟩⟩⟩⟩⟩ h
      · replace h := h.1 c
        refine Pl.seg (pc' := 161) (ls' := [(5, .int (6 : Int32)), (4, .int (0 : Int32)), (0, .ref 97), (1, .int x1), (2, .int x2), (3, .int x3)]) (st' := []) (σ' := σ) hM 3 rfl ?_
        exact Pl.live (l' := [(0, .ref 97), (1, .int x1), (4, .int (0 : Int32)), (5, .int (6 : Int32))]) hM lv_187 ⟨show ndL _ from (by decide : List.Nodup ([5, 4, 0, 1, 2, 3] : List Nat)), show ndL _ from (by decide : List.Nodup ([0, 1, 4, 5] : List Nat)), by rw [lva_187_161]; exact List.forall_mem_cons.mpr ⟨rfl, List.forall_mem_cons.mpr ⟨rfl, List.forall_mem_cons.mpr ⟨rfl, List.forall_mem_cons.mpr ⟨rfl, fun _ h => absurd h List.not_mem_nil⟩⟩⟩⟩⟩ h
    · replace h := h.1 c
      refine Pl.seg (pc' := 161) (ls' := [(5, .int (4 : Int32)), (4, .int (0 : Int32)), (0, .ref 97), (1, .int x1), (2, .int x2), (3, .int x3)]) (st' := []) (σ' := σ) hM 3 rfl ?_
      exact Pl.live (l' := [(0, .ref 97), (1, .int x1), (4, .int (0 : Int32)), (5, .int (4 : Int32))]) hM lv_187 ⟨show ndL _ from (by decide : List.Nodup ([5, 4, 0, 1, 2, 3] : List Nat)), show ndL _ from (by decide : List.Nodup ([0, 1, 4, 5] : List Nat)), by rw [lva_187_161]; exact List.forall_mem_cons.mpr ⟨rfl, List.forall_mem_cons.mpr ⟨rfl, List.forall_mem_cons.mpr ⟨rfl, List.forall_mem_cons.mpr ⟨rfl, fun _ h => absurd h List.not_mem_nil⟩⟩⟩⟩⟩ h
set_option maxRecDepth 100000 in
theorem p_187_161 {n d : Nat} {Q : Option Value → Sg → Prop} (σ : Sg) (x1 x4 x5 : Int32) (h : (∀ σ1, RCx PRG n 186 [.ref 97, .int x5, .int x1, .int (0 : Int32), .long (0 : Int64)] σ none σ1 → ((x4 ≤ 0 → Q (some (.int (1 : Int32))) σ1) ∧ (¬ x4 ≤ 0 → Q (some (.int (2 : Int32))) σ1)))) : Pl PRG (n + 1) d 187 161 [(0, .ref 97), (1, .int x1), (4, .int x4), (5, .int x5)] [] σ Q := by
  have hM : PRG[187]? = some M_187 := rfl
  refine Pl.sg1 (pc' := 167) (ls' := [(0, .ref 97), (1, .int x1), (4, .int x4), (5, .int x5)]) (st' := [.long (0 : Int64), .int (0 : Int32), .int x1, .int x5, .ref 97]) (σ' := σ) hM 4 rfl ?_
  refine Pl.weak (Pl.cV hM rfl rfl (by decide) (Mj := M_186) rfl rfl (fun σ1 hw => ?_))
  replace h := h σ1 hw
  refine Pl.br (c := x4 ≤ 0) (a := 179) (b := 175) (ls' := [(0, .ref 97), (1, .int x1), (4, .int x4), (5, .int x5)]) (st' := []) (σ' := σ1) hM 2 rfl (fun c => ?_) (fun c => ?_)
  · replace h := h.1 c
    refine Pl.seg (pc' := 180) (ls' := [(0, .ref 97), (1, .int x1), (4, .int x4), (5, .int x5)]) (st' := [.int (1 : Int32)]) (σ' := σ1) hM 1 rfl ?_
    refine Pl.weak (Pl.ret hM rfl rfl h)
  · replace h := h.2 c
    refine Pl.seg (pc' := 180) (ls' := [(0, .ref 97), (1, .int x1), (4, .int x4), (5, .int x5)]) (st' := [.int (2 : Int32)]) (σ' := σ1) hM 2 rfl ?_
    refine Pl.weak (Pl.ret hM rfl rfl h)
def LV_188 : List (Nat × List Nat) := [(0, [0]), (1, [0]), (2, [0]), (5, [0]), (6, [0]), (7, [0, 1]), (8, [0, 1]), (11, [0, 1]), (14, [0, 1]), (17, [0, 1]), (18, [0, 1]), (19, [0, 1]), (22, [0, 1]), (23, [0, 1, 2]), (24, [0, 1, 2]), (25, [0, 1, 2]), (28, [0, 1, 2]), (31, [0]), (32, [0]), (33, [0]), (34, []), (37, []), (38, []), (39, []), (42, []), (43, [0, 1, 2]), (44, [0, 1, 2]), (46, [0, 1, 2]), (49, [0, 1, 2]), (50, [0, 1, 2]), (52, [0, 1, 2]), (55, [0, 1, 2]), (56, [0, 1, 2]), (58, [0, 1, 2]), (61, [0, 1, 2]), (62, [0, 1, 2]), (64, [0, 1, 2]), (67, [0, 1]), (70, [0, 1]), (73, [0, 1, 2]), (74, [0, 1, 2]), (77, [0, 1, 2]), (80, [0, 1]), (81, [0, 1]), (82, [0, 1, 3]), (83, [0, 1, 3]), (85, [0, 1, 3, 4]), (86, [0, 1, 3, 4]), (87, [0, 1, 3, 4]), (88, [0, 1, 3, 4]), (89, [0, 1, 3, 4]), (92, [0, 1, 3, 4]), (95, [0, 1, 3, 4]), (98, [0, 1, 3, 4]), (99, [0, 1, 3, 4]), (101, [0, 1, 3, 4]), (104, [0, 1, 3, 4]), (106, [0, 1, 3]), (107, [0, 1, 3]), (108, [0, 1, 3]), (109, [0, 1, 3]), (110, [0, 1, 3]), (113, [0, 1, 3]), (116, [0, 1, 3]), (118, [0, 1, 3, 4]), (121, [0, 1, 3, 4]), (124, [0, 1, 3, 4]), (125, [0, 1, 3, 4]), (127, [0, 1, 3, 4]), (130, [0, 1, 3, 4]), (131, [0, 1, 3, 4]), (134, [0, 1, 3, 4]), (135, [0, 1, 3, 4]), (137, [0, 1, 3, 4, 6]), (138, [0, 1, 3, 4, 6]), (140, [0, 1, 3, 4, 6]), (143, [0, 1, 3, 4, 6]), (144, [0, 1, 3, 4, 6]), (146, [0, 1, 3, 4, 6, 7]), (148, [0, 1, 3, 4, 6, 7]), (150, [0, 1, 3, 4, 6, 7]), (153, [0, 1, 3, 4, 6, 7]), (154, [0, 1, 3, 4, 6, 7]), (157, [0, 1, 3, 4, 6, 7]), (159, [0, 1, 3, 4, 6, 7]), (160, [0, 1, 3, 4, 6, 7]), (162, [0, 1, 3, 4, 6, 7]), (163, [0, 1, 3, 4, 6, 7]), (166, [0, 1, 3, 4, 7]), (168, [0, 1, 3, 4, 7]), (170, [0, 1, 3, 4, 7]), (171, [0, 1, 3, 4, 7]), (173, [0, 1, 3, 4, 6, 7]), (176, [0, 1, 3, 4, 6, 7]), (179, [0, 1, 3, 4, 6]), (180, [0, 1, 3, 4, 6]), (182, [0, 1, 3, 4]), (183, [0, 1, 3, 4]), (184, [0, 1, 3, 4]), (186, [0, 1, 3]), (189, [0, 1, 3]), (190, [0, 3]), (191, [0]), (192, [0]), (193, [0, 1]), (196, [0, 1, 2]), (197, [0, 1, 2]), (200, [0, 1, 2]), (203, [0, 1]), (204, [0, 1]), (205, [0, 1, 3]), (206, [0, 1, 3]), (208, [0, 1, 3, 4]), (209, [0, 1, 3, 4]), (210, [0, 1, 3, 4]), (211, [0, 1, 3, 4]), (212, [0, 1, 3, 4]), (215, [0, 1, 3, 4]), (218, [0, 1, 3, 4]), (221, [0, 1, 3, 4]), (222, [0, 1, 3, 4]), (223, [0, 1, 3, 4]), (226, [0, 1, 3, 4]), (228, [0, 1, 3, 4]), (230, [0, 1, 3]), (231, [0, 1, 3]), (232, [0, 1, 3]), (233, [0, 1, 3]), (234, [0, 1, 3]), (235, [0, 1, 3]), (238, [0, 1, 3]), (239, [0, 1, 3]), (241, [0, 1, 3]), (242, [0, 1, 3]), (244, [0, 1, 3, 4]), (247, [0, 1, 3, 4]), (250, [0, 1, 3, 4]), (251, [0, 1, 3, 4]), (252, [0, 1, 3, 4]), (253, [0, 1, 3, 4]), (256, [0, 1, 3, 4]), (257, [0, 1, 3, 4]), (260, [0, 1, 3, 4]), (261, [0, 1, 3, 4]), (262, [0, 1, 3, 4]), (264, [0, 1, 3]), (265, [0, 1, 3]), (268, [0, 1, 3]), (269, [0, 3]), (270, [0]), (271, [0]), (272, [0, 1]), (275, [0, 1, 2]), (276, [0, 1, 2]), (277, [0, 1, 2]), (278, [0, 1, 2]), (279, [0, 1]), (280, [0, 1]), (281, [0]), (282, [0]), (283, [0]), (286, [0]), (289, [0]), (290, [0]), (291, [0, 1]), (294, [])]
set_option maxRecDepth 100000 in
theorem lv_188 : chkLv M_188 LV_188 = true := by decide +kernel
set_option maxRecDepth 100000 in
theorem lva_188_7 : lvA LV_188 7 = [0, 1] := by decide +kernel
set_option maxRecDepth 100000 in
theorem lva_188_85 : lvA LV_188 85 = [0, 1, 3, 4] := by decide +kernel
set_option maxRecDepth 100000 in
theorem lva_188_146 : lvA LV_188 146 = [0, 1, 3, 4, 6, 7] := by decide +kernel
set_option maxRecDepth 100000 in
theorem lva_188_208 : lvA LV_188 208 = [0, 1, 3, 4] := by decide +kernel
set_option maxRecDepth 100000 in
theorem p_188_0 {n d : Nat} {Q : Option Value → Sg → Prop} (σ : Sg) (h : Pl PRG n d 188 7 [(0, .ref 97), (1, .int (0 : Int32))] [] (s1 σ 97 10 (0 : Int32)) Q) : Pl PRG (n + 1) d 188 0 [(0, .ref 97)] [] σ Q := by
  have hM : PRG[188]? = some M_188 := rfl
  refine Pl.sg1 (pc' := 7) (ls' := [(1, .int (0 : Int32)), (0, .ref 97)]) (st' := []) (σ' := (s1 σ 97 10 (0 : Int32))) hM 4 rfl ?_
  exact Pl.live (l' := [(0, .ref 97), (1, .int (0 : Int32))]) hM lv_188 ⟨show ndL _ from (by decide : List.Nodup ([1, 0] : List Nat)), show ndL _ from (by decide : List.Nodup ([0, 1] : List Nat)), by rw [lva_188_7]; exact List.forall_mem_cons.mpr ⟨rfl, List.forall_mem_cons.mpr ⟨rfl, fun _ h => absurd h List.not_mem_nil⟩⟩⟩ h
set_option maxRecDepth 100000 in
theorem p_188_7 {n d : Nat} {Q : Option Value → Sg → Prop} (σ : Sg) (x1 : Int32) (h : (((400 : Int32) < (σ.1 97 10) → Q none σ) ∧ (¬ (400 : Int32) < (σ.1 97 10) → (∀ w2 σ1, RCx PRG n 181 [.ref 97, .int x1] σ (some (.int w2)) σ1 → ((x1 < (σ1.1 97 4) → ((w2 = (9 : Int32) → Pl PRG n d 188 7 [(0, .ref 97), (1, .int (x1 + (1 : Int32)))] [] σ1 Q) ∧ (¬ w2 = (9 : Int32) → ((w2 = (10 : Int32) → Pl PRG n d 188 7 [(0, .ref 97), (1, .int (x1 + (1 : Int32)))] [] σ1 Q) ∧ (¬ w2 = (10 : Int32) → ((w2 = (13 : Int32) → Pl PRG n d 188 7 [(0, .ref 97), (1, .int (x1 + (1 : Int32)))] [] σ1 Q) ∧ (¬ w2 = (13 : Int32) → ((w2 = (32 : Int32) → Pl PRG n d 188 7 [(0, .ref 97), (1, .int (x1 + (1 : Int32)))] [] σ1 Q) ∧ (¬ w2 = (32 : Int32) → (∀ w4 σ3, RCx PRG n 183 [.int w2] σ1 (some (.int w4)) σ3 → (w4 = 0 ∨ w4 = 1) → ((w4 = 0 → (∀ w6 σ5, RCx PRG n 182 [.int w2] σ3 (some (.int w6)) σ5 → (w6 = 0 ∨ w6 = 1) → ((w6 = 0 → (∀ w8 σ7, RCx PRG n 181 [.ref 97, .int (x1 + (1 : Int32))] σ5 (some (.int w8)) σ7 → (∀ w10 σ9, RCx PRG n 187 [.ref 97, .int x1, .int w2, .int w8] σ7 (some (.int w10)) σ9 → Pl PRG n d 188 7 [(0, .ref 97), (1, .int (x1 + w10))] [] σ9 Q))) ∧ (¬ w6 = 0 → Pl PRG n d 188 208 [(0, .ref 97), (1, .int x1), (3, .int (0 : Int32)), (4, .int (0 : Int32))] [] σ5 Q)))) ∧ (¬ w4 = 0 → Pl PRG n d 188 85 [(0, .ref 97), (1, .int x1), (3, .int (0 : Int32)), (4, .long (0 : Int64))] [] σ3 Q)))))))))))) ∧ (¬ x1 < (σ1.1 97 4) → (∀ σ11, RCx PRG n 186 [.ref 97, .int (0 : Int32), .int (σ1.1 97 4), .int (0 : Int32), .long (0 : Int64)] σ1 none σ11 → Q none σ11))))))) : Pl PRG (n + 1) d 188 7 [(0, .ref 97), (1, .int x1)] [] σ Q := by
  have hM : PRG[188]? = some M_188 := rfl
  refine Pl.br1 (c := (400 : Int32) < (σ.1 97 10)) (a := 294) (b := 17) (ls' := [(0, .ref 97), (1, .int x1)]) (st' := []) (σ' := σ) hM 3 rfl (fun c => ?_) (fun c => ?_)
  · replace h := h.1 c
    refine Pl.weak (Pl.ret hM rfl rfl h)
  · replace h := h.2 c
    refine Pl.seg (pc' := 19) (ls' := [(0, .ref 97), (1, .int x1)]) (st' := [.int x1, .ref 97]) (σ' := σ) hM 2 rfl ?_
    refine Pl.weak (Pl.cI hM rfl rfl (by decide) (Mj := M_181) rfl rfl (fun w2 σ1 hw => ?_))
    replace h := h w2 σ1 hw
    refine Pl.br (c := x1 < (σ1.1 97 4)) (a := 43) (b := 31) (ls' := [(2, .int w2), (0, .ref 97), (1, .int x1)]) (st' := []) (σ' := σ1) hM 5 rfl (fun c => ?_) (fun c => ?_)
    · replace h := h.1 c
      refine Pl.br (c := w2 = (9 : Int32)) (a := 67) (b := 49) (ls' := [(2, .int w2), (0, .ref 97), (1, .int x1)]) (st' := []) (σ' := σ1) hM 3 rfl (fun c => ?_) (fun c => ?_)
      · replace h := h.1 c
        refine Pl.seg (pc' := 7) (ls' := [(1, .int (x1 + (1 : Int32))), (2, .int w2), (0, .ref 97)]) (st' := []) (σ' := σ1) hM 3 rfl ?_
        exact Pl.live (l' := [(0, .ref 97), (1, .int (x1 + (1 : Int32)))]) hM lv_188 ⟨show ndL _ from (by decide : List.Nodup ([1, 2, 0] : List Nat)), show ndL _ from (by decide : List.Nodup ([0, 1] : List Nat)), by rw [lva_188_7]; exact List.forall_mem_cons.mpr ⟨rfl, List.forall_mem_cons.mpr ⟨rfl, fun _ h => absurd h List.not_mem_nil⟩⟩⟩ h
      · replace h := h.2 c
        refine Pl.br (c := w2 = (10 : Int32)) (a := 67) (b := 55) (ls' := [(2, .int w2), (0, .ref 97), (1, .int x1)]) (st' := []) (σ' := σ1) hM 3 rfl (fun c => ?_) (fun c => ?_)
        · replace h := h.1 c
          refine Pl.seg (pc' := 7) (ls' := [(1, .int (x1 + (1 : Int32))), (2, .int w2), (0, .ref 97)]) (st' := []) (σ' := σ1) hM 3 rfl ?_
          exact Pl.live (l' := [(0, .ref 97), (1, .int (x1 + (1 : Int32)))]) hM lv_188 ⟨show ndL _ from (by decide : List.Nodup ([1, 2, 0] : List Nat)), show ndL _ from (by decide : List.Nodup ([0, 1] : List Nat)), by rw [lva_188_7]; exact List.forall_mem_cons.mpr ⟨rfl, List.forall_mem_cons.mpr ⟨rfl, fun _ h => absurd h List.not_mem_nil⟩⟩⟩ h
        · replace h := h.2 c
          refine Pl.br (c := w2 = (13 : Int32)) (a := 67) (b := 61) (ls' := [(2, .int w2), (0, .ref 97), (1, .int x1)]) (st' := []) (σ' := σ1) hM 3 rfl (fun c => ?_) (fun c => ?_)
          · replace h := h.1 c
            refine Pl.seg (pc' := 7) (ls' := [(1, .int (x1 + (1 : Int32))), (2, .int w2), (0, .ref 97)]) (st' := []) (σ' := σ1) hM 3 rfl ?_
            exact Pl.live (l' := [(0, .ref 97), (1, .int (x1 + (1 : Int32)))]) hM lv_188 ⟨show ndL _ from (by decide : List.Nodup ([1, 2, 0] : List Nat)), show ndL _ from (by decide : List.Nodup ([0, 1] : List Nat)), by rw [lva_188_7]; exact List.forall_mem_cons.mpr ⟨rfl, List.forall_mem_cons.mpr ⟨rfl, fun _ h => absurd h List.not_mem_nil⟩⟩⟩ h
          · replace h := h.2 c
            refine Pl.brN (c := w2 = (32 : Int32)) (a := 73) (b := 67) (ls' := [(2, .int w2), (0, .ref 97), (1, .int x1)]) (st' := []) (σ' := σ1) hM 3 rfl (fun c => ?_) (fun c => ?_)
            · replace h := h.2 c
              refine Pl.seg (pc' := 74) (ls' := [(2, .int w2), (0, .ref 97), (1, .int x1)]) (st' := [.int w2]) (σ' := σ1) hM 1 rfl ?_
              refine Pl.weak (Pl.cZ hM rfl rfl (by decide) (Mj := M_183) rfl rfl (fun w4 σ3 hw hz => ?_))
              replace h := h w4 σ3 hw hz
              refine Pl.br (c := w4 = 0) (a := 196) (b := 80) (ls' := [(2, .int w2), (0, .ref 97), (1, .int x1)]) (st' := []) (σ' := σ3) hM 1 rfl (fun c => ?_) (fun c => ?_)
              · replace h := h.1 c
                refine Pl.seg (pc' := 197) (ls' := [(2, .int w2), (0, .ref 97), (1, .int x1)]) (st' := [.int w2]) (σ' := σ3) hM 1 rfl ?_
                refine Pl.weak (Pl.cZ hM rfl rfl (by decide) (Mj := M_182) rfl rfl (fun w6 σ5 hw hz => ?_))
                replace h := h w6 σ5 hw hz
                refine Pl.br (c := w6 = 0) (a := 275) (b := 203) (ls' := [(2, .int w2), (0, .ref 97), (1, .int x1)]) (st' := []) (σ' := σ5) hM 1 rfl (fun c => ?_) (fun c => ?_)
                · replace h := h.1 c
                  refine Pl.seg (pc' := 283) (ls' := [(2, .int w2), (0, .ref 97), (1, .int x1)]) (st' := [.int (x1 + (1 : Int32)), .ref 97, .int w2, .int x1, .ref 97, .int x1]) (σ' := σ5) hM 8 rfl ?_
                  refine Pl.weak (Pl.cI hM rfl rfl (by decide) (Mj := M_181) rfl rfl (fun w8 σ7 hw => ?_))
                  replace h := h w8 σ7 hw
                  refine Pl.weak (Pl.cI hM rfl rfl (by decide) (Mj := M_187) rfl rfl (fun w10 σ9 hw => ?_))
                  replace h := h w10 σ9 hw
                  refine Pl.seg (pc' := 7) (ls' := [(1, .int (x1 + w10)), (2, .int w2), (0, .ref 97)]) (st' := []) (σ' := σ9) hM 3 rfl ?_
                  exact Pl.live (l' := [(0, .ref 97), (1, .int (x1 + w10))]) hM lv_188 ⟨show ndL _ from (by decide : List.Nodup ([1, 2, 0] : List Nat)), show ndL _ from (by decide : List.Nodup ([0, 1] : List Nat)), by rw [lva_188_7]; exact List.forall_mem_cons.mpr ⟨rfl, List.forall_mem_cons.mpr ⟨rfl, fun _ h => absurd h List.not_mem_nil⟩⟩⟩ h
                · replace h := h.2 c
                  refine Pl.seg (pc' := 208) (ls' := [(4, .int (0 : Int32)), (3, .int (0 : Int32)), (2, .int w2), (0, .ref 97), (1, .int x1)]) (st' := []) (σ' := σ5) hM 4 rfl ?_
                  exact Pl.live (l' := [(0, .ref 97), (1, .int x1), (3, .int (0 : Int32)), (4, .int (0 : Int32))]) hM lv_188 ⟨show ndL _ from (by decide : List.Nodup ([4, 3, 2, 0, 1] : List Nat)), show ndL _ from (by decide : List.Nodup ([0, 1, 3, 4] : List Nat)), by rw [lva_188_208]; exact List.forall_mem_cons.mpr ⟨rfl, List.forall_mem_cons.mpr ⟨rfl, List.forall_mem_cons.mpr ⟨rfl, List.forall_mem_cons.mpr ⟨rfl, fun _ h => absurd h List.not_mem_nil⟩⟩⟩⟩⟩ h
              · replace h := h.2 c
                refine Pl.seg (pc' := 85) (ls' := [(4, .long (0 : Int64)), (3, .int (0 : Int32)), (2, .int w2), (0, .ref 97), (1, .int x1)]) (st' := []) (σ' := σ3) hM 4 rfl ?_
                exact Pl.live (l' := [(0, .ref 97), (1, .int x1), (3, .int (0 : Int32)), (4, .long (0 : Int64))]) hM lv_188 ⟨show ndL _ from (by decide : List.Nodup ([4, 3, 2, 0, 1] : List Nat)), show ndL _ from (by decide : List.Nodup ([0, 1, 3, 4] : List Nat)), by rw [lva_188_85]; exact List.forall_mem_cons.mpr ⟨rfl, List.forall_mem_cons.mpr ⟨rfl, List.forall_mem_cons.mpr ⟨rfl, List.forall_mem_cons.mpr ⟨rfl, fun _ h => absurd h List.not_mem_nil⟩⟩⟩⟩⟩ h
            · replace h := h.1 c
              refine Pl.seg (pc' := 7) (ls' := [(1, .int (x1 + (1 : Int32))), (2, .int w2), (0, .ref 97)]) (st' := []) (σ' := σ1) hM 3 rfl ?_
              exact Pl.live (l' := [(0, .ref 97), (1, .int (x1 + (1 : Int32)))]) hM lv_188 ⟨show ndL _ from (by decide : List.Nodup ([1, 2, 0] : List Nat)), show ndL _ from (by decide : List.Nodup ([0, 1] : List Nat)), by rw [lva_188_7]; exact List.forall_mem_cons.mpr ⟨rfl, List.forall_mem_cons.mpr ⟨rfl, fun _ h => absurd h List.not_mem_nil⟩⟩⟩ h
    · replace h := h.2 c
      refine Pl.seg (pc' := 39) (ls' := [(2, .int w2), (0, .ref 97), (1, .int x1)]) (st' := [.long (0 : Int64), .int (0 : Int32), .int (σ1.1 97 4), .int (0 : Int32), .ref 97]) (σ' := σ1) hM 6 rfl ?_
      refine Pl.weak (Pl.cV hM rfl rfl (by decide) (Mj := M_186) rfl rfl (fun σ11 hw => ?_))
      replace h := h σ11 hw
      refine Pl.weak (Pl.ret hM rfl rfl h)
set_option maxRecDepth 100000 in
theorem p_188_208 {n d : Nat} {Q : Option Value → Sg → Prop} (σ : Sg) (x1 x3 x4 : Int32) (h : (∀ w2 σ1, RCx PRG n 181 [.ref 97, .int (x1 + x3)] σ (some (.int w2)) σ1 → (∀ w4 σ3, RCx PRG n 182 [.int w2] σ1 (some (.int w4)) σ3 → (w4 = 0 ∨ w4 = 1) → ((w4 = 0 → ((x3 ≤ (4 : Int32) → (∀ σ5, RCx PRG n 186 [.ref 97, .int (2 : Int32), .int x1, .int x4, .long (0 : Int64)] σ3 none σ5 → Pl PRG n d 188 7 [(0, .ref 97), (1, .int (x1 + x3))] [] σ5 Q)) ∧ (¬ x3 ≤ (4 : Int32) → (∀ σ6, RCx PRG n 186 [.ref 97, .int (3 : Int32), .int x1, .int x4, .long (0 : Int64)] σ3 none σ6 → Pl PRG n d 188 7 [(0, .ref 97), (1, .int (x1 + x3))] [] σ6 Q)))) ∧ (¬ w4 = 0 → (((4 : Int32) ≤ x3 → Pl PRG n d 188 208 [(0, .ref 97), (1, .int x1), (3, .int (x3 + (1 : Int32))), (4, .int x4)] [] σ3 Q) ∧ (¬ (4 : Int32) ≤ x3 → (∀ w8 σ7, RCx PRG n 181 [.ref 97, .int (x1 + x3)] σ3 (some (.int w8)) σ7 → Pl PRG n d 188 208 [(0, .ref 97), (1, .int x1), (3, .int (x3 + (1 : Int32))), (4, .int ((((10 : Int32) * x4) + w8) - (48 : Int32)))] [] σ7 Q)))))))) : Pl PRG (n + 1) d 188 208 [(0, .ref 97), (1, .int x1), (3, .int x3), (4, .int x4)] [] σ Q := by
  have hM : PRG[188]? = some M_188 := rfl
  refine Pl.sg1 (pc' := 212) (ls' := [(0, .ref 97), (1, .int x1), (3, .int x3), (4, .int x4)]) (st' := [.int (x1 + x3), .ref 97]) (σ' := σ) hM 3 rfl ?_
  refine Pl.weak (Pl.cI hM rfl rfl (by decide) (Mj := M_181) rfl rfl (fun w2 σ1 hw => ?_))
  replace h := h w2 σ1 hw
  refine Pl.weak (Pl.cZ hM rfl rfl (by decide) (Mj := M_182) rfl rfl (fun w4 σ3 hw hz => ?_))
  replace h := h w4 σ3 hw hz
  refine Pl.br (c := w4 = 0) (a := 250) (b := 221) (ls' := [(0, .ref 97), (1, .int x1), (3, .int x3), (4, .int x4)]) (st' := []) (σ' := σ3) hM 1 rfl (fun c => ?_) (fun c => ?_)
  · replace h := h.1 c
    refine Pl.br (c := x3 ≤ (4 : Int32)) (a := 260) (b := 256) (ls' := [(0, .ref 97), (1, .int x1), (3, .int x3), (4, .int x4)]) (st' := [.ref 97]) (σ' := σ3) hM 4 rfl (fun c => ?_) (fun c => ?_)
    · replace h := h.1 c
      refine Pl.seg (pc' := 265) (ls' := [(0, .ref 97), (1, .int x1), (3, .int x3), (4, .int x4)]) (st' := [.long (0 : Int64), .int x4, .int x1, .int (2 : Int32), .ref 97]) (σ' := σ3) hM 4 rfl ?_
      refine Pl.weak (Pl.cV hM rfl rfl (by decide) (Mj := M_186) rfl rfl (fun σ5 hw => ?_))
      replace h := h σ5 hw
      refine Pl.seg (pc' := 7) (ls' := [(1, .int (x1 + x3)), (0, .ref 97), (3, .int x3), (4, .int x4)]) (st' := []) (σ' := σ5) hM 6 rfl ?_
      exact Pl.live (l' := [(0, .ref 97), (1, .int (x1 + x3))]) hM lv_188 ⟨show ndL _ from (by decide : List.Nodup ([1, 0, 3, 4] : List Nat)), show ndL _ from (by decide : List.Nodup ([0, 1] : List Nat)), by rw [lva_188_7]; exact List.forall_mem_cons.mpr ⟨rfl, List.forall_mem_cons.mpr ⟨rfl, fun _ h => absurd h List.not_mem_nil⟩⟩⟩ h
    · replace h := h.2 c
      refine Pl.seg (pc' := 265) (ls' := [(0, .ref 97), (1, .int x1), (3, .int x3), (4, .int x4)]) (st' := [.long (0 : Int64), .int x4, .int x1, .int (3 : Int32), .ref 97]) (σ' := σ3) hM 5 rfl ?_
      refine Pl.weak (Pl.cV hM rfl rfl (by decide) (Mj := M_186) rfl rfl (fun σ6 hw => ?_))
      replace h := h σ6 hw
      refine Pl.seg (pc' := 7) (ls' := [(1, .int (x1 + x3)), (0, .ref 97), (3, .int x3), (4, .int x4)]) (st' := []) (σ' := σ6) hM 6 rfl ?_
      exact Pl.live (l' := [(0, .ref 97), (1, .int (x1 + x3))]) hM lv_188 ⟨show ndL _ from (by decide : List.Nodup ([1, 0, 3, 4] : List Nat)), show ndL _ from (by decide : List.Nodup ([0, 1] : List Nat)), by rw [lva_188_7]; exact List.forall_mem_cons.mpr ⟨rfl, List.forall_mem_cons.mpr ⟨rfl, fun _ h => absurd h List.not_mem_nil⟩⟩⟩ h
  · replace h := h.2 c
    refine Pl.br (c := (4 : Int32) ≤ x3) (a := 244) (b := 226) (ls' := [(0, .ref 97), (1, .int x1), (3, .int x3), (4, .int x4)]) (st' := []) (σ' := σ3) hM 3 rfl (fun c => ?_) (fun c => ?_)
    · replace h := h.1 c
      refine Pl.seg (pc' := 208) (ls' := [(3, .int (x3 + (1 : Int32))), (0, .ref 97), (1, .int x1), (4, .int x4)]) (st' := []) (σ' := σ3) hM 2 rfl ?_
      exact Pl.live (l' := [(0, .ref 97), (1, .int x1), (3, .int (x3 + (1 : Int32))), (4, .int x4)]) hM lv_188 ⟨show ndL _ from (by decide : List.Nodup ([3, 0, 1, 4] : List Nat)), show ndL _ from (by decide : List.Nodup ([0, 1, 3, 4] : List Nat)), by rw [lva_188_208]; exact List.forall_mem_cons.mpr ⟨rfl, List.forall_mem_cons.mpr ⟨rfl, List.forall_mem_cons.mpr ⟨rfl, List.forall_mem_cons.mpr ⟨rfl, fun _ h => absurd h List.not_mem_nil⟩⟩⟩⟩⟩ h
    · replace h := h.2 c
      refine Pl.seg (pc' := 235) (ls' := [(0, .ref 97), (1, .int x1), (3, .int x3), (4, .int x4)]) (st' := [.int (x1 + x3), .ref 97, .int ((10 : Int32) * x4)]) (σ' := σ3) hM 7 rfl ?_
      refine Pl.weak (Pl.cI hM rfl rfl (by decide) (Mj := M_181) rfl rfl (fun w8 σ7 hw => ?_))
      replace h := h w8 σ7 hw
      refine Pl.seg (pc' := 208) (ls' := [(3, .int (x3 + (1 : Int32))), (4, .int ((((10 : Int32) * x4) + w8) - (48 : Int32))), (0, .ref 97), (1, .int x1)]) (st' := []) (σ' := σ7) hM 6 rfl ?_
      exact Pl.live (l' := [(0, .ref 97), (1, .int x1), (3, .int (x3 + (1 : Int32))), (4, .int ((((10 : Int32) * x4) + w8) - (48 : Int32)))]) hM lv_188 ⟨show ndL _ from (by decide : List.Nodup ([3, 4, 0, 1] : List Nat)), show ndL _ from (by decide : List.Nodup ([0, 1, 3, 4] : List Nat)), by rw [lva_188_208]; exact List.forall_mem_cons.mpr ⟨rfl, List.forall_mem_cons.mpr ⟨rfl, List.forall_mem_cons.mpr ⟨rfl, List.forall_mem_cons.mpr ⟨rfl, fun _ h => absurd h List.not_mem_nil⟩⟩⟩⟩⟩ h
set_option maxRecDepth 100000 in
theorem p_188_85 {n d : Nat} {Q : Option Value → Sg → Prop} (σ : Sg) (x1 x3 : Int32) (x4 : Int64) (h : (∀ w2 σ1, RCx PRG n 181 [.ref 97, .int (x1 + x3)] σ (some (.int w2)) σ1 → (∀ w4 σ3, RCx PRG n 183 [.int w2] σ1 (some (.int w4)) σ3 → (w4 = 0 ∨ w4 = 1) → ((w4 = 0 → ((x3 ≤ (8 : Int32) → (((7 : Int32) < x3 → (∀ σ5, RCx PRG n 186 [.ref 97, .int (1 : Int32), .int x1, .int (0 : Int32), .long x4] σ3 none σ5 → Pl PRG n d 188 7 [(0, .ref 97), (1, .int (x1 + x3))] [] σ5 Q)) ∧ (¬ (7 : Int32) < x3 → Pl PRG n d 188 146 [(0, .ref 97), (1, .int x1), (3, .int x3), (4, .long x4), (6, .int (1 : Int32)), (7, .int (0 : Int32))] [] σ3 Q))) ∧ (¬ x3 ≤ (8 : Int32) → (((7 : Int32) < x3 → (∀ σ6, RCx PRG n 186 [.ref 97, .int (3 : Int32), .int x1, .int (0 : Int32), .long x4] σ3 none σ6 → Pl PRG n d 188 7 [(0, .ref 97), (1, .int (x1 + x3))] [] σ6 Q)) ∧ (¬ (7 : Int32) < x3 → Pl PRG n d 188 146 [(0, .ref 97), (1, .int x1), (3, .int x3), (4, .long x4), (6, .int (3 : Int32)), (7, .int (0 : Int32))] [] σ3 Q))))) ∧ (¬ w4 = 0 → (((8 : Int32) ≤ x3 → Pl PRG n d 188 85 [(0, .ref 97), (1, .int x1), (3, .int (x3 + (1 : Int32))), (4, .long x4)] [] σ3 Q) ∧ (¬ (8 : Int32) ≤ x3 → (∀ w8 σ7, RCx PRG n 181 [.ref 97, .int (x1 + x3)] σ3 (some (.int w8)) σ7 → (∀ w10 σ9, RCx PRG n 184 [.long x4, .int w8] σ7 (some (.long w10)) σ9 → Pl PRG n d 188 85 [(0, .ref 97), (1, .int x1), (3, .int (x3 + (1 : Int32))), (4, .long w10)] [] σ9 Q))))))))) : Pl PRG (n + 1) d 188 85 [(0, .ref 97), (1, .int x1), (3, .int x3), (4, .long x4)] [] σ Q := by
  have hM : PRG[188]? = some M_188 := rfl
  refine Pl.sg1 (pc' := 89) (ls' := [(0, .ref 97), (1, .int x1), (3, .int x3), (4, .long x4)]) (st' := [.int (x1 + x3), .ref 97]) (σ' := σ) hM 3 rfl ?_
  refine Pl.weak (Pl.cI hM rfl rfl (by decide) (Mj := M_181) rfl rfl (fun w2 σ1 hw => ?_))
  replace h := h w2 σ1 hw
  refine Pl.weak (Pl.cZ hM rfl rfl (by decide) (Mj := M_183) rfl rfl (fun w4 σ3 hw hz => ?_))
  replace h := h w4 σ3 hw hz
  refine Pl.br (c := w4 = 0) (a := 124) (b := 98) (ls' := [(0, .ref 97), (1, .int x1), (3, .int x3), (4, .long x4)]) (st' := []) (σ' := σ3) hM 1 rfl (fun c => ?_) (fun c => ?_)
  · replace h := h.1 c
    refine Pl.br (c := x3 ≤ (8 : Int32)) (a := 134) (b := 130) (ls' := [(0, .ref 97), (1, .int x1), (3, .int x3), (4, .long x4)]) (st' := []) (σ' := σ3) hM 3 rfl (fun c => ?_) (fun c => ?_)
    · replace h := h.1 c
      refine Pl.br (c := (7 : Int32) < x3) (a := 179) (b := 143) (ls' := [(6, .int (1 : Int32)), (0, .ref 97), (1, .int x1), (3, .int x3), (4, .long x4)]) (st' := []) (σ' := σ3) hM 5 rfl (fun c => ?_) (fun c => ?_)
      · replace h := h.1 c
        refine Pl.seg (pc' := 186) (ls' := [(6, .int (1 : Int32)), (0, .ref 97), (1, .int x1), (3, .int x3), (4, .long x4)]) (st' := [.long x4, .int (0 : Int32), .int x1, .int (1 : Int32), .ref 97]) (σ' := σ3) hM 5 rfl ?_
        refine Pl.weak (Pl.cV hM rfl rfl (by decide) (Mj := M_186) rfl rfl (fun σ5 hw => ?_))
        replace h := h σ5 hw
        refine Pl.seg (pc' := 7) (ls' := [(1, .int (x1 + x3)), (6, .int (1 : Int32)), (0, .ref 97), (3, .int x3), (4, .long x4)]) (st' := []) (σ' := σ5) hM 6 rfl ?_
        exact Pl.live (l' := [(0, .ref 97), (1, .int (x1 + x3))]) hM lv_188 ⟨show ndL _ from (by decide : List.Nodup ([1, 6, 0, 3, 4] : List Nat)), show ndL _ from (by decide : List.Nodup ([0, 1] : List Nat)), by rw [lva_188_7]; exact List.forall_mem_cons.mpr ⟨rfl, List.forall_mem_cons.mpr ⟨rfl, fun _ h => absurd h List.not_mem_nil⟩⟩⟩ h
      · replace h := h.2 c
        refine Pl.seg (pc' := 146) (ls' := [(7, .int (0 : Int32)), (6, .int (1 : Int32)), (0, .ref 97), (1, .int x1), (3, .int x3), (4, .long x4)]) (st' := []) (σ' := σ3) hM 2 rfl ?_
        exact Pl.live (l' := [(0, .ref 97), (1, .int x1), (3, .int x3), (4, .long x4), (6, .int (1 : Int32)), (7, .int (0 : Int32))]) hM lv_188 ⟨show ndL _ from (by decide : List.Nodup ([7, 6, 0, 1, 3, 4] : List Nat)), show ndL _ from (by decide : List.Nodup ([0, 1, 3, 4, 6, 7] : List Nat)), by rw [lva_188_146]; exact List.forall_mem_cons.mpr ⟨rfl, List.forall_mem_cons.mpr ⟨rfl, List.forall_mem_cons.mpr ⟨rfl, List.forall_mem_cons.mpr ⟨rfl, List.forall_mem_cons.mpr ⟨rfl, List.forall_mem_cons.mpr ⟨rfl, fun _ h => absurd h List.not_mem_nil⟩⟩⟩⟩⟩⟩⟩ h
    · replace h := h.2 c
      refine Pl.br (c := (7 : Int32) < x3) (a := 179) (b := 143) (ls' := [(6, .int (3 : Int32)), (0, .ref 97), (1, .int x1), (3, .int x3), (4, .long x4)]) (st' := []) (σ' := σ3) hM 6 rfl (fun c => ?_) (fun c => ?_)
      · replace h := h.1 c
        refine Pl.seg (pc' := 186) (ls' := [(6, .int (3 : Int32)), (0, .ref 97), (1, .int x1), (3, .int x3), (4, .long x4)]) (st' := [.long x4, .int (0 : Int32), .int x1, .int (3 : Int32), .ref 97]) (σ' := σ3) hM 5 rfl ?_
        refine Pl.weak (Pl.cV hM rfl rfl (by decide) (Mj := M_186) rfl rfl (fun σ6 hw => ?_))
        replace h := h σ6 hw
        refine Pl.seg (pc' := 7) (ls' := [(1, .int (x1 + x3)), (6, .int (3 : Int32)), (0, .ref 97), (3, .int x3), (4, .long x4)]) (st' := []) (σ' := σ6) hM 6 rfl ?_
        exact Pl.live (l' := [(0, .ref 97), (1, .int (x1 + x3))]) hM lv_188 ⟨show ndL _ from (by decide : List.Nodup ([1, 6, 0, 3, 4] : List Nat)), show ndL _ from (by decide : List.Nodup ([0, 1] : List Nat)), by rw [lva_188_7]; exact List.forall_mem_cons.mpr ⟨rfl, List.forall_mem_cons.mpr ⟨rfl, fun _ h => absurd h List.not_mem_nil⟩⟩⟩ h
      · replace h := h.2 c
        refine Pl.seg (pc' := 146) (ls' := [(7, .int (0 : Int32)), (6, .int (3 : Int32)), (0, .ref 97), (1, .int x1), (3, .int x3), (4, .long x4)]) (st' := []) (σ' := σ3) hM 2 rfl ?_
        exact Pl.live (l' := [(0, .ref 97), (1, .int x1), (3, .int x3), (4, .long x4), (6, .int (3 : Int32)), (7, .int (0 : Int32))]) hM lv_188 ⟨show ndL _ from (by decide : List.Nodup ([7, 6, 0, 1, 3, 4] : List Nat)), show ndL _ from (by decide : List.Nodup ([0, 1, 3, 4, 6, 7] : List Nat)), by rw [lva_188_146]; exact List.forall_mem_cons.mpr ⟨rfl, List.forall_mem_cons.mpr ⟨rfl, List.forall_mem_cons.mpr ⟨rfl, List.forall_mem_cons.mpr ⟨rfl, List.forall_mem_cons.mpr ⟨rfl, List.forall_mem_cons.mpr ⟨rfl, fun _ h => absurd h List.not_mem_nil⟩⟩⟩⟩⟩⟩⟩ h
  · replace h := h.2 c
    refine Pl.br (c := (8 : Int32) ≤ x3) (a := 118) (b := 104) (ls' := [(0, .ref 97), (1, .int x1), (3, .int x3), (4, .long x4)]) (st' := []) (σ' := σ3) hM 3 rfl (fun c => ?_) (fun c => ?_)
    · replace h := h.1 c
      refine Pl.seg (pc' := 85) (ls' := [(3, .int (x3 + (1 : Int32))), (0, .ref 97), (1, .int x1), (4, .long x4)]) (st' := []) (σ' := σ3) hM 2 rfl ?_
      exact Pl.live (l' := [(0, .ref 97), (1, .int x1), (3, .int (x3 + (1 : Int32))), (4, .long x4)]) hM lv_188 ⟨show ndL _ from (by decide : List.Nodup ([3, 0, 1, 4] : List Nat)), show ndL _ from (by decide : List.Nodup ([0, 1, 3, 4] : List Nat)), by rw [lva_188_85]; exact List.forall_mem_cons.mpr ⟨rfl, List.forall_mem_cons.mpr ⟨rfl, List.forall_mem_cons.mpr ⟨rfl, List.forall_mem_cons.mpr ⟨rfl, fun _ h => absurd h List.not_mem_nil⟩⟩⟩⟩⟩ h
    · replace h := h.2 c
      refine Pl.seg (pc' := 110) (ls' := [(0, .ref 97), (1, .int x1), (3, .int x3), (4, .long x4)]) (st' := [.int (x1 + x3), .ref 97, .long x4]) (σ' := σ3) hM 5 rfl ?_
      refine Pl.weak (Pl.cI hM rfl rfl (by decide) (Mj := M_181) rfl rfl (fun w8 σ7 hw => ?_))
      replace h := h w8 σ7 hw
      refine Pl.weak (Pl.cJ hM rfl rfl (by decide) (Mj := M_184) rfl rfl (fun w10 σ9 hw => ?_))
      replace h := h w10 σ9 hw
      refine Pl.seg (pc' := 85) (ls' := [(3, .int (x3 + (1 : Int32))), (4, .long w10), (0, .ref 97), (1, .int x1)]) (st' := []) (σ' := σ9) hM 3 rfl ?_
      exact Pl.live (l' := [(0, .ref 97), (1, .int x1), (3, .int (x3 + (1 : Int32))), (4, .long w10)]) hM lv_188 ⟨show ndL _ from (by decide : List.Nodup ([3, 4, 0, 1] : List Nat)), show ndL _ from (by decide : List.Nodup ([0, 1, 3, 4] : List Nat)), by rw [lva_188_85]; exact List.forall_mem_cons.mpr ⟨rfl, List.forall_mem_cons.mpr ⟨rfl, List.forall_mem_cons.mpr ⟨rfl, List.forall_mem_cons.mpr ⟨rfl, fun _ h => absurd h List.not_mem_nil⟩⟩⟩⟩⟩ h
set_option maxRecDepth 100000 in
theorem p_188_146 {n d : Nat} {Q : Option Value → Sg → Prop} (σ : Sg) (x1 x3 x6 x7 : Int32) (x4 : Int64) (h : (((22 : Int32) ≤ x7 → (∀ σ1, RCx PRG n 186 [.ref 97, .int x6, .int x1, .int (0 : Int32), .long x4] σ none σ1 → Pl PRG n d 188 7 [(0, .ref 97), (1, .int (x1 + x3))] [] σ1 Q)) ∧ (¬ (22 : Int32) ≤ x7 → (inR x7 22 = true → (((lg_cmp (σ.2 104 x7.toNatClampNeg) x4) = 0 → Pl PRG n d 188 146 [(0, .ref 97), (1, .int x1), (3, .int x3), (4, .long x4), (6, .int ((20 : Int32) + x7)), (7, .int (x7 + (1 : Int32)))] [] σ Q) ∧ (¬ (lg_cmp (σ.2 104 x7.toNatClampNeg) x4) = 0 → Pl PRG n d 188 146 [(0, .ref 97), (1, .int x1), (3, .int x3), (4, .long x4), (6, .int x6), (7, .int (x7 + (1 : Int32)))] [] σ Q)))))) : Pl PRG (n + 1) d 188 146 [(0, .ref 97), (1, .int x1), (3, .int x3), (4, .long x4), (6, .int x6), (7, .int x7)] [] σ Q := by
  have hM : PRG[188]? = some M_188 := rfl
  refine Pl.br1 (c := (22 : Int32) ≤ x7) (a := 179) (b := 153) (ls' := [(0, .ref 97), (1, .int x1), (3, .int x3), (4, .long x4), (6, .int x6), (7, .int x7)]) (st' := []) (σ' := σ) hM 2 rfl (fun c => ?_) (fun c => ?_)
  · replace h := h.1 c
    refine Pl.seg (pc' := 186) (ls' := [(0, .ref 97), (1, .int x1), (3, .int x3), (4, .long x4), (6, .int x6), (7, .int x7)]) (st' := [.long x4, .int (0 : Int32), .int x1, .int x6, .ref 97]) (σ' := σ) hM 5 rfl ?_
    refine Pl.weak (Pl.cV hM rfl rfl (by decide) (Mj := M_186) rfl rfl (fun σ1 hw => ?_))
    replace h := h σ1 hw
    refine Pl.seg (pc' := 7) (ls' := [(1, .int (x1 + x3)), (0, .ref 97), (3, .int x3), (4, .long x4), (6, .int x6), (7, .int x7)]) (st' := []) (σ' := σ1) hM 6 rfl ?_
    exact Pl.live (l' := [(0, .ref 97), (1, .int (x1 + x3))]) hM lv_188 ⟨show ndL _ from (by decide : List.Nodup ([1, 0, 3, 4, 6, 7] : List Nat)), show ndL _ from (by decide : List.Nodup ([0, 1] : List Nat)), by rw [lva_188_7]; exact List.forall_mem_cons.mpr ⟨rfl, List.forall_mem_cons.mpr ⟨rfl, fun _ h => absurd h List.not_mem_nil⟩⟩⟩ h
  · replace h := h.2 c
    refine Pl.seg (pc' := 159) (ls' := [(0, .ref 97), (1, .int x1), (3, .int x3), (4, .long x4), (6, .int x6), (7, .int x7)]) (st' := [.int x7, .ref 104]) (σ' := σ) hM 3 rfl ?_
    refine Pl.weak (Pl.lald hM rfl rfl (fun hi => ?_))
    replace h := h hi
    refine Pl.brN (c := (lg_cmp (σ.2 104 x7.toNatClampNeg) x4) = 0) (a := 173) (b := 166) (ls' := [(0, .ref 97), (1, .int x1), (3, .int x3), (4, .long x4), (6, .int x6), (7, .int x7)]) (st' := []) (σ' := σ) hM 3 rfl (fun c => ?_) (fun c => ?_)
    · replace h := h.2 c
      refine Pl.seg (pc' := 146) (ls' := [(7, .int (x7 + (1 : Int32))), (0, .ref 97), (1, .int x1), (3, .int x3), (4, .long x4), (6, .int x6)]) (st' := []) (σ' := σ) hM 2 rfl ?_
      exact Pl.live (l' := [(0, .ref 97), (1, .int x1), (3, .int x3), (4, .long x4), (6, .int x6), (7, .int (x7 + (1 : Int32)))]) hM lv_188 ⟨show ndL _ from (by decide : List.Nodup ([7, 0, 1, 3, 4, 6] : List Nat)), show ndL _ from (by decide : List.Nodup ([0, 1, 3, 4, 6, 7] : List Nat)), by rw [lva_188_146]; exact List.forall_mem_cons.mpr ⟨rfl, List.forall_mem_cons.mpr ⟨rfl, List.forall_mem_cons.mpr ⟨rfl, List.forall_mem_cons.mpr ⟨rfl, List.forall_mem_cons.mpr ⟨rfl, List.forall_mem_cons.mpr ⟨rfl, fun _ h => absurd h List.not_mem_nil⟩⟩⟩⟩⟩⟩⟩ h
    · replace h := h.1 c
      refine Pl.seg (pc' := 146) (ls' := [(7, .int (x7 + (1 : Int32))), (6, .int ((20 : Int32) + x7)), (0, .ref 97), (1, .int x1), (3, .int x3), (4, .long x4)]) (st' := []) (σ' := σ) hM 6 rfl ?_
      exact Pl.live (l' := [(0, .ref 97), (1, .int x1), (3, .int x3), (4, .long x4), (6, .int ((20 : Int32) + x7)), (7, .int (x7 + (1 : Int32)))]) hM lv_188 ⟨show ndL _ from (by decide : List.Nodup ([7, 6, 0, 1, 3, 4] : List Nat)), show ndL _ from (by decide : List.Nodup ([0, 1, 3, 4, 6, 7] : List Nat)), by rw [lva_188_146]; exact List.forall_mem_cons.mpr ⟨rfl, List.forall_mem_cons.mpr ⟨rfl, List.forall_mem_cons.mpr ⟨rfl, List.forall_mem_cons.mpr ⟨rfl, List.forall_mem_cons.mpr ⟨rfl, List.forall_mem_cons.mpr ⟨rfl, fun _ h => absurd h List.not_mem_nil⟩⟩⟩⟩⟩⟩⟩ h
