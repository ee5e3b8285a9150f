/-! feed and back, both sides: what must hold -/
set_option maxRecDepth 100000 in
theorem w_120_0 {d : Nat} {Q : Option Value → Sg → Prop} (σ : Sg) (x1 : Int32) (h : Rn PRG d 120 3 [(0, .ref 0), (1, .int x1), (2, .int (24 : Int32))] [] σ Q) : Rn PRG d 120 0 [(0, .ref 0), (1, .int x1)] [] σ Q := by
  have hM : PRG[120]? = some M_120 := rfl
  refine Rn.seg (pc' := 3) (ls' := [(2, .int (24 : Int32)), (0, .ref 0), (1, .int x1)]) (st' := []) (σ' := σ) hM 2 rfl ?_
  exact Rn.sub h (subL_cons rfl (subL_cons rfl (subL_cons rfl subL_nil))) (show ndL _ from (by decide : List.Nodup ([0, 1, 2] : List Nat)))
set_option maxRecDepth 100000 in
theorem w_120_3 {d : Nat} {Q : Option Value → Sg → Prop} (σ : Sg) (x1 x2 : Int32) (h : ((x2 < 0 → Q none σ) ∧ (¬ x2 < 0 → (((2000 : Int32) ≤ (σ.1 0 1) → Q none σ) ∧ (¬ (2000 : Int32) ≤ (σ.1 0 1) → (inR (σ.1 0 1) 2000 = true ∧ Rn PRG d 120 3 [(0, .ref 0), (1, .int x1), (2, .int (x2 + (-8 : Int32)))] [] (s1 (s1 σ 1 (σ.1 0 1).toNatClampNeg (vp_nar .byte (ush x1 x2).toInt8.toInt32)) 0 1 ((σ.1 0 1) + (1 : Int32))) Q)))))) : Rn PRG d 120 3 [(0, .ref 0), (1, .int x1), (2, .int x2)] [] σ Q := by
  have hM : PRG[120]? = some M_120 := rfl
  refine Rn.br (c := x2 < 0) (a := 46) (b := 7) (ls' := [(0, .ref 0), (1, .int x1), (2, .int x2)]) (st' := []) (σ' := σ) hM 2 rfl (fun c => ?_) (fun c => ?_)
  · replace h := h.1 c
    refine Rn.seg (pc' := 46) (ls' := [(0, .ref 0), (1, .int x1), (2, .int x2)]) (st' := []) (σ' := σ) hM 0 rfl ?_
    exact Rn.ret hM rfl rfl h
  · replace h := h.2 c
    refine Rn.br (c := (2000 : Int32) ≤ (σ.1 0 1)) (a := 46) (b := 17) (ls' := [(0, .ref 0), (1, .int x1), (2, .int x2)]) (st' := []) (σ' := σ) hM 4 rfl (fun c => ?_) (fun c => ?_)
    · replace h := h.1 c
      refine Rn.seg (pc' := 46) (ls' := [(0, .ref 0), (1, .int x1), (2, .int x2)]) (st' := []) (σ' := σ) hM 0 rfl ?_
      exact Rn.ret hM rfl rfl h
    · replace h := h.2 c
      refine Rn.seg (pc' := 29) (ls' := [(0, .ref 0), (1, .int x1), (2, .int x2)]) (st' := [.int (ush x1 x2).toInt8.toInt32, .int (σ.1 0 1), .ref 1]) (σ' := σ) hM 8 rfl ?_
      refine Rn.bast2 hM rfl rfl h.1 ?_
      refine Rn.seg (pc' := 3) (ls' := [(2, .int (x2 + (-8 : Int32))), (0, .ref 0), (1, .int x1)]) (st' := []) (σ' := (s1 (s1 σ 1 (σ.1 0 1).toNatClampNeg (vp_nar .byte (ush x1 x2).toInt8.toInt32)) 0 1 ((σ.1 0 1) + (1 : Int32)))) hM 8 rfl ?_
      exact Rn.sub h.2 (subL_cons rfl (subL_cons rfl (subL_cons rfl subL_nil))) (show ndL _ from (by decide : List.Nodup ([0, 1, 2] : List Nat)))
set_option maxRecDepth 100000 in
theorem w_121_0 {d : Nat} {Q : Option Value → Sg → Prop} (σ : Sg) (x1 x2 x3 x4 x5 : Int32) (h : ((((σ.1 0 1) + (20 : Int32)) ≤ (2000 : Int32) → (∃ Qc : Sg → Prop, OkV PRG d 120 [.ref 0, .int x1] σ Qc ∧ ∀ σ1, Qc σ1 → (∃ Qc : Sg → Prop, OkV PRG d 120 [.ref 0, .int x2] σ1 Qc ∧ ∀ σ2, Qc σ2 → (∃ Qc : Sg → Prop, OkV PRG d 120 [.ref 0, .int x3] σ2 Qc ∧ ∀ σ3, Qc σ3 → (∃ Qc : Sg → Prop, OkV PRG d 120 [.ref 0, .int x4] σ3 Qc ∧ ∀ σ4, Qc σ4 → (∃ Qc : Sg → Prop, OkV PRG d 120 [.ref 0, .int x5] σ4 Qc ∧ ∀ σ5, Qc σ5 → Q (some (.int (σ5.1 0 1))) σ5)))))) ∧ (¬ ((σ.1 0 1) + (20 : Int32)) ≤ (2000 : Int32) → Q (some (.int (-1 : Int32))) σ))) : Rn PRG (d + 1) 121 0 [(0, .ref 0), (1, .int x1), (2, .int x2), (3, .int x3), (4, .int x4), (5, .int x5)] [] σ Q := by
  have hM : PRG[121]? = some M_121 := rfl
  refine Rn.br (c := ((σ.1 0 1) + (20 : Int32)) ≤ (2000 : Int32)) (a := 15) (b := 13) (ls' := [(0, .ref 0), (1, .int x1), (2, .int x2), (3, .int x3), (4, .int x4), (5, .int x5)]) (st' := []) (σ' := σ) hM 6 rfl (fun c => ?_) (fun c => ?_)
  · replace h := h.1 c
    refine Rn.seg (pc' := 17) (ls' := [(0, .ref 0), (1, .int x1), (2, .int x2), (3, .int x3), (4, .int x4), (5, .int x5)]) (st' := [.int x1, .ref 0]) (σ' := σ) hM 2 rfl ?_
    obtain ⟨Qc, hq, h⟩ := h
    refine Rn.cV hM rfl rfl (by decide) hq (fun σ1 hw => ?_)
    replace h := h σ1 hw
    refine Rn.seg (pc' := 22) (ls' := [(0, .ref 0), (1, .int x1), (2, .int x2), (3, .int x3), (4, .int x4), (5, .int x5)]) (st' := [.int x2, .ref 0]) (σ' := σ1) hM 2 rfl ?_
    obtain ⟨Qc, hq, h⟩ := h
    refine Rn.cV hM rfl rfl (by decide) hq (fun σ2 hw => ?_)
    replace h := h σ2 hw
    refine Rn.seg (pc' := 27) (ls' := [(0, .ref 0), (1, .int x1), (2, .int x2), (3, .int x3), (4, .int x4), (5, .int x5)]) (st' := [.int x3, .ref 0]) (σ' := σ2) hM 2 rfl ?_
    obtain ⟨Qc, hq, h⟩ := h
    refine Rn.cV hM rfl rfl (by decide) hq (fun σ3 hw => ?_)
    replace h := h σ3 hw
    refine Rn.seg (pc' := 33) (ls' := [(0, .ref 0), (1, .int x1), (2, .int x2), (3, .int x3), (4, .int x4), (5, .int x5)]) (st' := [.int x4, .ref 0]) (σ' := σ3) hM 2 rfl ?_
    obtain ⟨Qc, hq, h⟩ := h
    refine Rn.cV hM rfl rfl (by decide) hq (fun σ4 hw => ?_)
    replace h := h σ4 hw
    refine Rn.seg (pc' := 39) (ls' := [(0, .ref 0), (1, .int x1), (2, .int x2), (3, .int x3), (4, .int x4), (5, .int x5)]) (st' := [.int x5, .ref 0]) (σ' := σ4) hM 2 rfl ?_
    obtain ⟨Qc, hq, h⟩ := h
    refine Rn.cV hM rfl rfl (by decide) hq (fun σ5 hw => ?_)
    replace h := h σ5 hw
    refine Rn.seg (pc' := 46) (ls' := [(0, .ref 0), (1, .int x1), (2, .int x2), (3, .int x3), (4, .int x4), (5, .int x5)]) (st' := [.int (σ5.1 0 1)]) (σ' := σ5) hM 2 rfl ?_
    exact Rn.ret hM rfl rfl h
  · replace h := h.2 c
    refine Rn.seg (pc' := 14) (ls' := [(0, .ref 0), (1, .int x1), (2, .int x2), (3, .int x3), (4, .int x4), (5, .int x5)]) (st' := [.int (-1 : Int32)]) (σ' := σ) hM 1 rfl ?_
    exact Rn.ret hM rfl rfl h
set_option maxRecDepth 100000 in
theorem w_122_0 {d : Nat} {Q : Option Value → Sg → Prop} (σ : Sg) (x1 : Int32) (h : ((x1 < 0 → Q (some (.int (-1 : Int32))) σ) ∧ (¬ x1 < 0 → ((x1 ≤ (σ.1 0 1) → Q (some (.int ((σ.1 0 1) - x1))) (s1 σ 0 1 ((σ.1 0 1) - x1))) ∧ (¬ x1 ≤ (σ.1 0 1) → Q (some (.int (-1 : Int32))) σ))))) : Rn PRG d 122 0 [(0, .ref 0), (1, .int x1)] [] σ Q := by
  have hM : PRG[122]? = some M_122 := rfl
  refine Rn.br (c := x1 < 0) (a := 12) (b := 4) (ls' := [(0, .ref 0), (1, .int x1)]) (st' := []) (σ' := σ) hM 2 rfl (fun c => ?_) (fun c => ?_)
  · replace h := h.1 c
    refine Rn.seg (pc' := 13) (ls' := [(0, .ref 0), (1, .int x1)]) (st' := [.int (-1 : Int32)]) (σ' := σ) hM 1 rfl ?_
    exact Rn.ret hM rfl rfl h
  · replace h := h.2 c
    refine Rn.br (c := x1 ≤ (σ.1 0 1)) (a := 14) (b := 12) (ls' := [(0, .ref 0), (1, .int x1)]) (st' := []) (σ' := σ) hM 4 rfl (fun c => ?_) (fun c => ?_)
    · replace h := h.1 c
      refine Rn.seg (pc' := 28) (ls' := [(0, .ref 0), (1, .int x1)]) (st' := [.int ((σ.1 0 1) - x1)]) (σ' := (s1 σ 0 1 ((σ.1 0 1) - x1))) hM 8 rfl ?_
      exact Rn.ret hM rfl rfl h
    · replace h := h.2 c
      refine Rn.seg (pc' := 13) (ls' := [(0, .ref 0), (1, .int x1)]) (st' := [.int (-1 : Int32)]) (σ' := σ) hM 1 rfl ?_
      exact Rn.ret hM rfl rfl h
set_option maxRecDepth 100000 in
theorem w_178_0 {d : Nat} {Q : Option Value → Sg → Prop} (σ : Sg) (x1 : Int32) (h : Rn PRG d 178 3 [(0, .ref 97), (1, .int x1), (2, .int (24 : Int32))] [] σ Q) : Rn PRG d 178 0 [(0, .ref 97), (1, .int x1)] [] σ Q := by
  have hM : PRG[178]? = some M_178 := rfl
  refine Rn.seg (pc' := 3) (ls' := [(2, .int (24 : Int32)), (0, .ref 97), (1, .int x1)]) (st' := []) (σ' := σ) hM 2 rfl ?_
  exact Rn.sub h (subL_cons rfl (subL_cons rfl (subL_cons rfl subL_nil))) (show ndL _ from (by decide : List.Nodup ([0, 1, 2] : List Nat)))
set_option maxRecDepth 100000 in
theorem w_178_3 {d : Nat} {Q : Option Value → Sg → Prop} (σ : Sg) (x1 x2 : Int32) (h : ((x2 < 0 → Q none σ) ∧ (¬ x2 < 0 → (inR (σ.1 97 2) 2000 = true ∧ Rn PRG d 178 3 [(0, .ref 97), (1, .int x1), (2, .int (x2 + (-8 : Int32)))] [] (s1 (s1 σ 98 (σ.1 97 2).toNatClampNeg (vp_nar .byte (x1 >>> (x2 &&& 31)).toInt8.toInt32)) 97 2 ((σ.1 97 2) + (1 : Int32))) Q)))) : Rn PRG d 178 3 [(0, .ref 97), (1, .int x1), (2, .int x2)] [] σ Q := by
  have hM : PRG[178]? = some M_178 := rfl
  refine Rn.br (c := x2 < 0) (a := 36) (b := 7) (ls' := [(0, .ref 97), (1, .int x1), (2, .int x2)]) (st' := []) (σ' := σ) hM 2 rfl (fun c => ?_) (fun c => ?_)
  · replace h := h.1 c
    refine Rn.seg (pc' := 36) (ls' := [(0, .ref 97), (1, .int x1), (2, .int x2)]) (st' := []) (σ' := σ) hM 0 rfl ?_
    exact Rn.ret hM rfl rfl h
  · replace h := h.2 c
    refine Rn.seg (pc' := 19) (ls' := [(0, .ref 97), (1, .int x1), (2, .int x2)]) (st' := [.int (x1 >>> (x2 &&& 31)).toInt8.toInt32, .int (σ.1 97 2), .ref 98]) (σ' := σ) hM 8 rfl ?_
    refine Rn.bast2 hM rfl rfl h.1 ?_
    refine Rn.seg (pc' := 3) (ls' := [(2, .int (x2 + (-8 : Int32))), (0, .ref 97), (1, .int x1)]) (st' := []) (σ' := (s1 (s1 σ 98 (σ.1 97 2).toNatClampNeg (vp_nar .byte (x1 >>> (x2 &&& 31)).toInt8.toInt32)) 97 2 ((σ.1 97 2) + (1 : Int32)))) hM 8 rfl ?_
    exact Rn.sub h.2 (subL_cons rfl (subL_cons rfl (subL_cons rfl subL_nil))) (show ndL _ from (by decide : List.Nodup ([0, 1, 2] : List Nat)))
set_option maxRecDepth 100000 in
theorem w_179_0 {d : Nat} {Q : Option Value → Sg → Prop} (σ : Sg) (x1 x2 x3 x4 x5 : Int32) (h : ((((σ.1 97 2) + (20 : Int32)) ≤ (2000 : Int32) → (∃ Qc : Sg → Prop, OkV PRG d 178 [.ref 97, .int x1] σ Qc ∧ ∀ σ1, Qc σ1 → (∃ Qc : Sg → Prop, OkV PRG d 178 [.ref 97, .int x2] σ1 Qc ∧ ∀ σ2, Qc σ2 → (∃ Qc : Sg → Prop, OkV PRG d 178 [.ref 97, .int x3] σ2 Qc ∧ ∀ σ3, Qc σ3 → (∃ Qc : Sg → Prop, OkV PRG d 178 [.ref 97, .int x4] σ3 Qc ∧ ∀ σ4, Qc σ4 → (∃ Qc : Sg → Prop, OkV PRG d 178 [.ref 97, .int x5] σ4 Qc ∧ ∀ σ5, Qc σ5 → Q (some (.int (σ5.1 97 2))) σ5)))))) ∧ (¬ ((σ.1 97 2) + (20 : Int32)) ≤ (2000 : Int32) → Q (some (.int (-1 : Int32))) σ))) : Rn PRG (d + 1) 179 0 [(0, .ref 97), (1, .int x1), (2, .int x2), (3, .int x3), (4, .int x4), (5, .int x5)] [] σ Q := by
  have hM : PRG[179]? = some M_179 := rfl
  refine Rn.br (c := ((σ.1 97 2) + (20 : Int32)) ≤ (2000 : Int32)) (a := 15) (b := 13) (ls' := [(0, .ref 97), (1, .int x1), (2, .int x2), (3, .int x3), (4, .int x4), (5, .int x5)]) (st' := []) (σ' := σ) hM 6 rfl (fun c => ?_) (fun c => ?_)
  · replace h := h.1 c
    refine Rn.seg (pc' := 17) (ls' := [(0, .ref 97), (1, .int x1), (2, .int x2), (3, .int x3), (4, .int x4), (5, .int x5)]) (st' := [.int x1, .ref 97]) (σ' := σ) hM 2 rfl ?_
    obtain ⟨Qc, hq, h⟩ := h
    refine Rn.cV hM rfl rfl (by decide) hq (fun σ1 hw => ?_)
    replace h := h σ1 hw
    refine Rn.seg (pc' := 22) (ls' := [(0, .ref 97), (1, .int x1), (2, .int x2), (3, .int x3), (4, .int x4), (5, .int x5)]) (st' := [.int x2, .ref 97]) (σ' := σ1) hM 2 rfl ?_
    obtain ⟨Qc, hq, h⟩ := h
    refine Rn.cV hM rfl rfl (by decide) hq (fun σ2 hw => ?_)
    replace h := h σ2 hw
    refine Rn.seg (pc' := 27) (ls' := [(0, .ref 97), (1, .int x1), (2, .int x2), (3, .int x3), (4, .int x4), (5, .int x5)]) (st' := [.int x3, .ref 97]) (σ' := σ2) hM 2 rfl ?_
    obtain ⟨Qc, hq, h⟩ := h
    refine Rn.cV hM rfl rfl (by decide) hq (fun σ3 hw => ?_)
    replace h := h σ3 hw
    refine Rn.seg (pc' := 33) (ls' := [(0, .ref 97), (1, .int x1), (2, .int x2), (3, .int x3), (4, .int x4), (5, .int x5)]) (st' := [.int x4, .ref 97]) (σ' := σ3) hM 2 rfl ?_
    obtain ⟨Qc, hq, h⟩ := h
    refine Rn.cV hM rfl rfl (by decide) hq (fun σ4 hw => ?_)
    replace h := h σ4 hw
    refine Rn.seg (pc' := 39) (ls' := [(0, .ref 97), (1, .int x1), (2, .int x2), (3, .int x3), (4, .int x4), (5, .int x5)]) (st' := [.int x5, .ref 97]) (σ' := σ4) hM 2 rfl ?_
    obtain ⟨Qc, hq, h⟩ := h
    refine Rn.cV hM rfl rfl (by decide) hq (fun σ5 hw => ?_)
    replace h := h σ5 hw
    refine Rn.seg (pc' := 46) (ls' := [(0, .ref 97), (1, .int x1), (2, .int x2), (3, .int x3), (4, .int x4), (5, .int x5)]) (st' := [.int (σ5.1 97 2)]) (σ' := σ5) hM 2 rfl ?_
    exact Rn.ret hM rfl rfl h
  · replace h := h.2 c
    refine Rn.seg (pc' := 14) (ls' := [(0, .ref 97), (1, .int x1), (2, .int x2), (3, .int x3), (4, .int x4), (5, .int x5)]) (st' := [.int (-1 : Int32)]) (σ' := σ) hM 1 rfl ?_
    exact Rn.ret hM rfl rfl h
set_option maxRecDepth 100000 in
theorem w_180_0 {d : Nat} {Q : Option Value → Sg → Prop} (σ : Sg) (x1 : Int32) (h : ((x1 < 0 → Q (some (.int (-1 : Int32))) σ) ∧ (¬ x1 < 0 → ((x1 ≤ (σ.1 97 2) → Q (some (.int ((σ.1 97 2) - x1))) (s1 σ 97 2 ((σ.1 97 2) - x1))) ∧ (¬ x1 ≤ (σ.1 97 2) → Q (some (.int (-1 : Int32))) σ))))) : Rn PRG d 180 0 [(0, .ref 97), (1, .int x1)] [] σ Q := by
  have hM : PRG[180]? = some M_180 := rfl
  refine Rn.br (c := x1 < 0) (a := 12) (b := 4) (ls' := [(0, .ref 97), (1, .int x1)]) (st' := []) (σ' := σ) hM 2 rfl (fun c => ?_) (fun c => ?_)
  · replace h := h.1 c
    refine Rn.seg (pc' := 13) (ls' := [(0, .ref 97), (1, .int x1)]) (st' := [.int (-1 : Int32)]) (σ' := σ) hM 1 rfl ?_
    exact Rn.ret hM rfl rfl h
  · replace h := h.2 c
    refine Rn.br (c := x1 ≤ (σ.1 97 2)) (a := 14) (b := 12) (ls' := [(0, .ref 97), (1, .int x1)]) (st' := []) (σ' := σ) hM 4 rfl (fun c => ?_) (fun c => ?_)
    · replace h := h.1 c
      refine Rn.seg (pc' := 28) (ls' := [(0, .ref 97), (1, .int x1)]) (st' := [.int ((σ.1 97 2) - x1)]) (σ' := (s1 σ 97 2 ((σ.1 97 2) - x1))) hM 8 rfl ?_
      exact Rn.ret hM rfl rfl h
    · replace h := h.2 c
      refine Rn.seg (pc' := 13) (ls' := [(0, .ref 97), (1, .int x1)]) (st' := [.int (-1 : Int32)]) (σ' := σ) hM 1 rfl ?_
      exact Rn.ret hM rfl rfl h
/-! the tape's length behind feed and back -/
theorem add_lit {x : Int32} {c : Int32} {t k : Int} (hx : x.toInt = t) (hc : c.toInt = k) (h1 : FL ≤ t + k) (h2 : t + k ≤ FH) : (x + c).toInt = t + k := by
  subst hx; subst hc; exact add_ex h1 h2
theorem app_1 {d : Nat} {Q : Option Value → Sg → Prop} {x1 x2 : Int32} {σ : Sg} {t : Int} (ht : (σ.1 0 1).toInt = t) (h0 : 0 ≤ t) (h1 : t < 2000) (hx : ¬ x2 < 0) (h : ∀ σ1 : Sg, (σ1.1 0 1).toInt = t + 1 → Rn PRG d 120 3 [(0, .ref 0), (1, .int x1), (2, .int (x2 + (-8 : Int32)))] [] σ1 Q) : Rn PRG d 120 3 [(0, .ref 0), (1, .int x1), (2, .int x2)] [] σ Q := by
  refine w_120_3 σ x1 x2 ⟨fun c => absurd c hx, fun _ => ⟨fun c => ?_, fun _ => ⟨inR_ok (by omega) (by omega), h _ ?_⟩⟩⟩
  · rw [Int32.le_iff_toInt_le] at c
    have : (2000 : Int32).toInt = 2000 := by decide
    omega
  · show ((σ.1 0 1) + (1 : Int32)).toInt = t + 1
    exact add_lit ht (by decide) (by unfold FL; omega) (by unfold FH; omega)
theorem put_1 {d : Nat} {Q : Option Value → Sg → Prop} {x1 x2 : Int32} {σ : Sg} {t : Int} (ht : (σ.1 97 2).toInt = t) (h0 : 0 ≤ t) (h1 : t < 2000) (hx : ¬ x2 < 0) (h : ∀ σ1 : Sg, (σ1.1 97 2).toInt = t + 1 → Rn PRG d 178 3 [(0, .ref 97), (1, .int x1), (2, .int (x2 + (-8 : Int32)))] [] σ1 Q) : Rn PRG d 178 3 [(0, .ref 97), (1, .int x1), (2, .int x2)] [] σ Q := by
  refine w_178_3 σ x1 x2 ⟨fun c => absurd c hx, fun _ => ⟨inR_ok (by omega) (by omega), h _ ?_⟩⟩
  show ((σ.1 97 2) + (1 : Int32)).toInt = t + 1
  exact add_lit ht (by decide) (by unfold FL; omega) (by unfold FH; omega)
theorem app_len {d : Nat} {x : Int32} {σ : Sg} {t : Int} (ht : (σ.1 0 1).toInt = t) (h0 : 0 ≤ t) (h1 : t + 4 ≤ 2000) : OkV PRG d 120 [.ref 0, .int x] σ (fun σ' => (σ'.1 0 1).toInt = t + 4) := by
  refine ⟨M_120, rfl, Nat.le_of_ble_eq_true rfl, w_120_0 σ x ?_⟩
  refine app_1 ht h0 (by omega) (by decide) (fun σ1 e1 => app_1 e1 (by omega) (by omega) (by decide) (fun σ2 e2 => app_1 e2 (by omega) (by omega) (by decide) (fun σ3 e3 => app_1 e3 (by omega) (by omega) (by decide) (fun σ4 e4 => ?_))))
  exact w_120_3 σ4 x _ ⟨fun _ => ⟨rfl, by omega⟩, fun c => absurd (by decide) c⟩
theorem put_len {d : Nat} {x : Int32} {σ : Sg} {t : Int} (ht : (σ.1 97 2).toInt = t) (h0 : 0 ≤ t) (h1 : t + 4 ≤ 2000) : OkV PRG d 178 [.ref 97, .int x] σ (fun σ' => (σ'.1 97 2).toInt = t + 4) := by
  refine ⟨M_178, rfl, Nat.le_of_ble_eq_true rfl, w_178_0 σ x ?_⟩
  refine put_1 ht h0 (by omega) (by decide) (fun σ1 e1 => put_1 e1 (by omega) (by omega) (by decide) (fun σ2 e2 => put_1 e2 (by omega) (by omega) (by decide) (fun σ3 e3 => put_1 e3 (by omega) (by omega) (by decide) (fun σ4 e4 => ?_))))
  exact w_178_3 σ4 x _ ⟨fun _ => ⟨rfl, by omega⟩, fun c => absurd (by decide) c⟩
/-- what feed answers and leaves, by the tape's length before it -/
def fedTo (t w t' : Int) : Prop := (t + 20 ≤ 2000 ∧ w = t + 20 ∧ t' = t + 20) ∨ (¬ t + 20 ≤ 2000 ∧ w = -1 ∧ t' = t)
theorem le_2000 {x : Int32} {t : Int} (ht : x.toInt = t) (h0 : 0 ≤ t) (h1 : t ≤ 2000) : (x + (20 : Int32) ≤ (2000 : Int32)) ↔ t + 20 ≤ 2000 := by
  rw [Int32.le_iff_toInt_le, add_lit (c := 20) (k := 20) ht (by decide) (by unfold FL; omega) (by unfold FH; omega)]
  have : (2000 : Int32).toInt = 2000 := by decide
  omega
theorem feed_x {d : Nat} {a b c e f : Int32} {σ : Sg} {t : Int} (ht : (σ.1 0 1).toInt = t) (h0 : 0 ≤ t) (h1 : t ≤ 2000) : OkI PRG (d + 1) 121 [.ref 0, .int a, .int b, .int c, .int e, .int f] σ (fun w σ' => fedTo t w.toInt (σ'.1 0 1).toInt) := by
  refine ⟨M_121, rfl, Nat.le_of_ble_eq_true rfl, w_121_0 σ a b c e f ⟨fun hc => ?_, fun hc => ?_⟩⟩
  · rw [le_2000 ht h0 h1] at hc
    refine ⟨_, app_len ht h0 (by omega), fun σ1 e1 => ⟨_, app_len e1 (by omega) (by omega), fun σ2 e2 => ⟨_, app_len e2 (by omega) (by omega), fun σ3 e3 => ⟨_, app_len e3 (by omega) (by omega), fun σ4 e4 => ⟨_, app_len e4 (by omega) (by omega), fun σ5 e5 => ⟨_, rfl, Or.inl ⟨hc, by omega, by omega⟩⟩⟩⟩⟩⟩⟩
  · rw [le_2000 ht h0 h1] at hc
    exact ⟨_, rfl, Or.inr ⟨hc, by decide, ht⟩⟩
theorem feed_m {d : Nat} {a b c e f : Int32} {σ : Sg} {t : Int} (ht : (σ.1 97 2).toInt = t) (h0 : 0 ≤ t) (h1 : t ≤ 2000) : OkI PRG (d + 1) 179 [.ref 97, .int a, .int b, .int c, .int e, .int f] σ (fun w σ' => fedTo t w.toInt (σ'.1 97 2).toInt) := by
  refine ⟨M_179, rfl, Nat.le_of_ble_eq_true rfl, w_179_0 σ a b c e f ⟨fun hc => ?_, fun hc => ?_⟩⟩
  · rw [le_2000 ht h0 h1] at hc
    refine ⟨_, put_len ht h0 (by omega), fun σ1 e1 => ⟨_, put_len e1 (by omega) (by omega), fun σ2 e2 => ⟨_, put_len e2 (by omega) (by omega), fun σ3 e3 => ⟨_, put_len e3 (by omega) (by omega), fun σ4 e4 => ⟨_, put_len e4 (by omega) (by omega), fun σ5 e5 => ⟨_, rfl, Or.inl ⟨hc, by omega, by omega⟩⟩⟩⟩⟩⟩⟩
  · rw [le_2000 ht h0 h1] at hc
    exact ⟨_, rfl, Or.inr ⟨hc, by decide, ht⟩⟩
def backTo (t n w t' : Int) : Prop := (0 ≤ n ∧ n ≤ t ∧ w = t - n ∧ t' = t - n) ∨ (¬ (0 ≤ n ∧ n ≤ t) ∧ w = -1 ∧ t' = t)
theorem back_x {d : Nat} {n : Int32} {σ : Sg} {t : Int} (ht : (σ.1 0 1).toInt = t) (h0 : 0 ≤ t) (h1 : t ≤ 2000) : OkI PRG d 122 [.ref 0, .int n] σ (fun w σ' => backTo t n.toInt w.toInt (σ'.1 0 1).toInt) := by
  have z0 : (0 : Int32).toInt = 0 := by decide
  refine ⟨M_122, rfl, Nat.le_of_ble_eq_true rfl, w_122_0 σ n ⟨fun hc => ?_, fun hc => ⟨fun hd => ?_, fun hd => ?_⟩⟩⟩
  · rw [Int32.lt_iff_toInt_lt] at hc
    exact ⟨_, rfl, Or.inr ⟨by omega, by decide, ht⟩⟩
  · rw [Int32.lt_iff_toInt_lt] at hc
    rw [Int32.le_iff_toInt_le] at hd
    have e : (σ.1 0 1 - n).toInt = t - n.toInt := by rw [← ht]; exact sub_ex (by unfold FL; omega) (by unfold FH; omega)
    exact ⟨_, rfl, Or.inl ⟨by omega, by omega, e, e⟩⟩
  · rw [Int32.le_iff_toInt_le] at hd
    exact ⟨_, rfl, Or.inr ⟨by omega, by decide, ht⟩⟩
theorem back_m {d : Nat} {n : Int32} {σ : Sg} {t : Int} (ht : (σ.1 97 2).toInt = t) (h0 : 0 ≤ t) (h1 : t ≤ 2000) : OkI PRG d 180 [.ref 97, .int n] σ (fun w σ' => backTo t n.toInt w.toInt (σ'.1 97 2).toInt) := by
  have z0 : (0 : Int32).toInt = 0 := by decide
  refine ⟨M_180, rfl, Nat.le_of_ble_eq_true rfl, w_180_0 σ n ⟨fun hc => ?_, fun hc => ⟨fun hd => ?_, fun hd => ?_⟩⟩⟩
  · rw [Int32.lt_iff_toInt_lt] at hc
    exact ⟨_, rfl, Or.inr ⟨by omega, by decide, ht⟩⟩
  · rw [Int32.lt_iff_toInt_lt] at hc
    rw [Int32.le_iff_toInt_le] at hd
    have e : (σ.1 97 2 - n).toInt = t - n.toInt := by rw [← ht]; exact sub_ex (by unfold FL; omega) (by unfold FH; omega)
    exact ⟨_, rfl, Or.inl ⟨by omega, by omega, e, e⟩⟩
  · rw [Int32.le_iff_toInt_le] at hd
    exact ⟨_, rfl, Or.inr ⟨by omega, by decide, ht⟩⟩
