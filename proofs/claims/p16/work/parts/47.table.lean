/-! the table: what must hold -/
set_option maxRecDepth 100000 in
theorem w_279_0 {d : Nat} {Q : Option Value → Sg → Prop} (σ : Sg) (x1 x2 x3 : Int32) (h : Rn PRG (d + 1) 279 7 [(0, .ref 97), (1, .int x1), (2, .int x2), (3, .int x3)] [] (s1 σ 139 2 (0 : Int32)) Q) : Rn PRG (d + 1) 279 0 [(0, .ref 97), (1, .int x1), (2, .int x2), (3, .int x3)] [] σ Q := by
  have hM : PRG[279]? = some M_279 := rfl
  refine Rn.seg (pc' := 7) (ls' := [(0, .ref 97), (1, .int x1), (2, .int x2), (3, .int x3)]) (st' := []) (σ' := (s1 σ 139 2 (0 : Int32))) hM 5 rfl ?_
  exact Rn.sub h (subL_cons rfl (subL_cons rfl (subL_cons rfl (subL_cons rfl subL_nil)))) (show ndL _ from (by decide : List.Nodup ([0, 1, 2, 3] : List Nat)))
set_option maxRecDepth 100000 in
theorem w_279_7 {d : Nat} {Q : Option Value → Sg → Prop} (σ : Sg) (x1 x2 x3 : Int32) (h : ((x1 < (σ.1 139 2) → Q none σ) ∧ (¬ x1 < (σ.1 139 2) → (∃ Qc : Int32 → Sg → Prop, OkI PRG d 209 [.int (σ.1 139 2)] σ Qc ∧ ∀ w2 σ1, Qc w2 σ1 → ((w2 = x3 → Rn PRG (d + 1) 279 40 [(0, .ref 97), (1, .int x1), (2, .int x2), (3, .int x3)] [] (s1 σ1 139 3 (0 : Int32)) Q) ∧ (¬ w2 = x3 → Rn PRG (d + 1) 279 7 [(0, .ref 97), (1, .int x1), (2, .int x2), (3, .int x3)] [] (s1 σ1 139 2 ((σ1.1 139 2) + (1 : Int32))) Q)))))) : Rn PRG (d + 1) 279 7 [(0, .ref 97), (1, .int x1), (2, .int x2), (3, .int x3)] [] σ Q := by
  have hM : PRG[279]? = some M_279 := rfl
  refine Rn.br (c := x1 < (σ.1 139 2)) (a := 148) (b := 17) (ls' := [(0, .ref 97), (1, .int x1), (2, .int x2), (3, .int x3)]) (st' := []) (σ' := σ) hM 6 rfl (fun c => ?_) (fun c => ?_)
  · replace h := h.1 c
    refine Rn.seg (pc' := 148) (ls' := [(0, .ref 97), (1, .int x1), (2, .int x2), (3, .int x3)]) (st' := []) (σ' := σ) hM 0 rfl ?_
    exact Rn.ret hM rfl rfl h
  · replace h := h.2 c
    refine Rn.seg (pc' := 23) (ls' := [(0, .ref 97), (1, .int x1), (2, .int x2), (3, .int x3)]) (st' := [.int (σ.1 139 2)]) (σ' := σ) hM 4 rfl ?_
    obtain ⟨Qc, hq, h⟩ := h
    refine Rn.cI hM rfl rfl (by decide) hq (fun w2 σ1 hw => ?_)
    replace h := h w2 σ1 hw
    refine Rn.br (c := w2 = x3) (a := 33) (b := 30) (ls' := [(0, .ref 97), (1, .int x1), (2, .int x2), (3, .int x3)]) (st' := []) (σ' := σ1) hM 2 rfl (fun c => ?_) (fun c => ?_)
    · replace h := h.1 c
      refine Rn.seg (pc' := 40) (ls' := [(0, .ref 97), (1, .int x1), (2, .int x2), (3, .int x3)]) (st' := []) (σ' := (s1 σ1 139 3 (0 : Int32))) hM 5 rfl ?_
      exact Rn.sub h (subL_cons rfl (subL_cons rfl (subL_cons rfl (subL_cons rfl subL_nil)))) (show ndL _ from (by decide : List.Nodup ([0, 1, 2, 3] : List Nat)))
    · replace h := h.2 c
      refine Rn.seg (pc' := 7) (ls' := [(0, .ref 97), (1, .int x1), (2, .int x2), (3, .int x3)]) (st' := []) (σ' := (s1 σ1 139 2 ((σ1.1 139 2) + (1 : Int32)))) hM 10 rfl ?_
      exact Rn.sub h (subL_cons rfl (subL_cons rfl (subL_cons rfl (subL_cons rfl subL_nil)))) (show ndL _ from (by decide : List.Nodup ([0, 1, 2, 3] : List Nat)))
set_option maxRecDepth 100000 in
theorem w_279_40 {d : Nat} {Q : Option Value → Sg → Prop} (σ : Sg) (x1 x2 x3 : Int32) (h : ((x2 < (σ.1 139 3) → Rn PRG (d + 1) 279 7 [(0, .ref 97), (1, .int x1), (2, .int x2), (3, .int x3)] [] (s1 σ 139 2 ((σ.1 139 2) + (1 : Int32))) Q) ∧ (¬ x2 < (σ.1 139 3) → (∃ Qc : Int32 → Sg → Prop, OkI PRG d 209 [.int (σ.1 139 3)] σ Qc ∧ ∀ w2 σ1, Qc w2 σ1 → ((w2 = x3 → Rn PRG (d + 1) 279 69 [(0, .ref 97), (1, .int x1), (2, .int x2), (3, .int x3), (4, .int (0 : Int32))] [] σ1 Q) ∧ (¬ w2 = x3 → Rn PRG (d + 1) 279 40 [(0, .ref 97), (1, .int x1), (2, .int x2), (3, .int x3)] [] (s1 σ1 139 3 ((σ1.1 139 3) + (1 : Int32))) Q)))))) : Rn PRG (d + 1) 279 40 [(0, .ref 97), (1, .int x1), (2, .int x2), (3, .int x3)] [] σ Q := by
  have hM : PRG[279]? = some M_279 := rfl
  refine Rn.br (c := x2 < (σ.1 139 3)) (a := 135) (b := 50) (ls' := [(0, .ref 97), (1, .int x1), (2, .int x2), (3, .int x3)]) (st' := []) (σ' := σ) hM 6 rfl (fun c => ?_) (fun c => ?_)
  · replace h := h.1 c
    refine Rn.seg (pc' := 7) (ls' := [(0, .ref 97), (1, .int x1), (2, .int x2), (3, .int x3)]) (st' := []) (σ' := (s1 σ 139 2 ((σ.1 139 2) + (1 : Int32)))) hM 9 rfl ?_
    exact Rn.sub h (subL_cons rfl (subL_cons rfl (subL_cons rfl (subL_cons rfl subL_nil)))) (show ndL _ from (by decide : List.Nodup ([0, 1, 2, 3] : List Nat)))
  · replace h := h.2 c
    refine Rn.seg (pc' := 56) (ls' := [(0, .ref 97), (1, .int x1), (2, .int x2), (3, .int x3)]) (st' := [.int (σ.1 139 3)]) (σ' := σ) hM 4 rfl ?_
    obtain ⟨Qc, hq, h⟩ := h
    refine Rn.cI hM rfl rfl (by decide) hq (fun w2 σ1 hw => ?_)
    replace h := h w2 σ1 hw
    refine Rn.br (c := w2 = x3) (a := 66) (b := 63) (ls' := [(0, .ref 97), (1, .int x1), (2, .int x2), (3, .int x3)]) (st' := []) (σ' := σ1) hM 2 rfl (fun c => ?_) (fun c => ?_)
    · replace h := h.1 c
      refine Rn.seg (pc' := 69) (ls' := [(4, .int (0 : Int32)), (0, .ref 97), (1, .int x1), (2, .int x2), (3, .int x3)]) (st' := []) (σ' := σ1) hM 2 rfl ?_
      exact Rn.sub h (subL_cons rfl (subL_cons rfl (subL_cons rfl (subL_cons rfl (subL_cons rfl subL_nil))))) (show ndL _ from (by decide : List.Nodup ([0, 1, 2, 3, 4] : List Nat)))
    · replace h := h.2 c
      refine Rn.seg (pc' := 40) (ls' := [(0, .ref 97), (1, .int x1), (2, .int x2), (3, .int x3)]) (st' := []) (σ' := (s1 σ1 139 3 ((σ1.1 139 3) + (1 : Int32)))) hM 10 rfl ?_
      exact Rn.sub h (subL_cons rfl (subL_cons rfl (subL_cons rfl (subL_cons rfl subL_nil)))) (show ndL _ from (by decide : List.Nodup ([0, 1, 2, 3] : List Nat)))
set_option maxRecDepth 100000 in
theorem w_279_69 {d : Nat} {Q : Option Value → Sg → Prop} (σ : Sg) (x1 x2 x3 x4 : Int32) (h : (((4 : Int32) ≤ x4 → Rn PRG (d + 1) 279 40 [(0, .ref 97), (1, .int x1), (2, .int x2), (3, .int x3)] [] (s1 σ 139 3 ((σ.1 139 3) + (1 : Int32))) Q) ∧ (¬ (4 : Int32) ≤ x4 → (∃ Qc : Int32 → Sg → Prop, OkI PRG d 273 [.int x4, .int (σ.1 139 0), .int (σ.1 139 1), .int (σ.1 139 2), .int (σ.1 139 3)] σ Qc ∧ ∀ w2 σ1, Qc w2 σ1 → (∃ Qc : Int32 → Sg → Prop, OkI PRG d 278 [.ref 97, .int x4] σ1 Qc ∧ ∀ w4 σ3, Qc w4 σ3 → (inR w2 262144 = true ∧ Rn PRG (d + 1) 279 69 [(0, .ref 97), (1, .int x1), (2, .int x2), (3, .int x3), (4, .int (x4 + (1 : Int32)))] [] (s1 σ3 136 w2.toNatClampNeg (vp_nar .byte w4.toInt8.toInt32)) Q)))))) : Rn PRG (d + 1) 279 69 [(0, .ref 97), (1, .int x1), (2, .int x2), (3, .int x3), (4, .int x4)] [] σ Q := by
  have hM : PRG[279]? = some M_279 := rfl
  refine Rn.br (c := (4 : Int32) ≤ x4) (a := 122) (b := 75) (ls' := [(0, .ref 97), (1, .int x1), (2, .int x2), (3, .int x3), (4, .int x4)]) (st' := []) (σ' := σ) hM 3 rfl (fun c => ?_) (fun c => ?_)
  · replace h := h.1 c
    refine Rn.seg (pc' := 40) (ls' := [(0, .ref 97), (1, .int x1), (2, .int x2), (3, .int x3), (4, .int x4)]) (st' := []) (σ' := (s1 σ 139 3 ((σ.1 139 3) + (1 : Int32)))) hM 9 rfl ?_
    exact Rn.sub h (subL_cons rfl (subL_cons rfl (subL_cons rfl (subL_cons rfl subL_nil)))) (show ndL _ from (by decide : List.Nodup ([0, 1, 2, 3] : List Nat)))
  · replace h := h.2 c
    refine Rn.seg (pc' := 105) (ls' := [(0, .ref 97), (1, .int x1), (2, .int x2), (3, .int x3), (4, .int x4)]) (st' := [.int (σ.1 139 3), .int (σ.1 139 2), .int (σ.1 139 1), .int (σ.1 139 0), .int x4, .ref 136]) (σ' := σ) hM 19 rfl ?_
    obtain ⟨Qc, hq, h⟩ := h
    refine Rn.cI hM rfl rfl (by decide) hq (fun w2 σ1 hw => ?_)
    replace h := h w2 σ1 hw
    refine Rn.seg (pc' := 111) (ls' := [(0, .ref 97), (1, .int x1), (2, .int x2), (3, .int x3), (4, .int x4)]) (st' := [.int x4, .ref 97, .int w2, .ref 136]) (σ' := σ1) hM 2 rfl ?_
    obtain ⟨Qc, hq, h⟩ := h
    refine Rn.cI hM rfl rfl (by decide) hq (fun w4 σ3 hw => ?_)
    replace h := h w4 σ3 hw
    refine Rn.seg (pc' := 115) (ls' := [(0, .ref 97), (1, .int x1), (2, .int x2), (3, .int x3), (4, .int x4)]) (st' := [.int w4.toInt8.toInt32, .int w2, .ref 136]) (σ' := σ3) hM 1 rfl ?_
    refine Rn.bast2 hM rfl rfl h.1 ?_
    refine Rn.seg (pc' := 69) (ls' := [(4, .int (x4 + (1 : Int32))), (0, .ref 97), (1, .int x1), (2, .int x2), (3, .int x3)]) (st' := []) (σ' := (s1 σ3 136 w2.toNatClampNeg (vp_nar .byte w4.toInt8.toInt32))) hM 2 rfl ?_
    exact Rn.sub h.2 (subL_cons rfl (subL_cons rfl (subL_cons rfl (subL_cons rfl (subL_cons rfl subL_nil))))) (show ndL _ from (by decide : List.Nodup ([0, 1, 2, 3, 4] : List Nat)))
set_option maxRecDepth 100000 in
theorem w_280_0 {d : Nat} {Q : Option Value → Sg → Prop} (σ : Sg) (x1 : Int32) (h : Rn PRG (d + 1) 280 44 [(0, .ref 97), (1, .int x1), (2, .int (σ.1 139 0)), (3, .int (σ.1 139 1)), (4, .int (σ.1 139 2)), (5, .int (σ.1 139 3)), (6, .int (σ.1 97 69)), (7, .int (0 : Int32))] [] (s1 σ 97 69 (0 : Int32)) Q) : Rn PRG (d + 1) 280 0 [(0, .ref 97), (1, .int x1)] [] σ Q := by
  have hM : PRG[280]? = some M_280 := rfl
  refine Rn.seg (pc' := 44) (ls' := [(7, .int (0 : Int32)), (6, .int (σ.1 97 69)), (5, .int (σ.1 139 3)), (4, .int (σ.1 139 2)), (3, .int (σ.1 139 1)), (2, .int (σ.1 139 0)), (0, .ref 97), (1, .int x1)]) (st' := []) (σ' := (s1 σ 97 69 (0 : Int32))) hM 28 rfl ?_
  exact Rn.sub h (subL_cons rfl (subL_cons rfl (subL_cons rfl (subL_cons rfl (subL_cons rfl (subL_cons rfl (subL_cons rfl (subL_cons rfl subL_nil)))))))) (show ndL _ from (by decide : List.Nodup ([0, 1, 2, 3, 4, 5, 6, 7] : List Nat)))
set_option maxRecDepth 100000 in
theorem w_280_44 {d : Nat} {Q : Option Value → Sg → Prop} (σ : Sg) (x1 x2 x3 x4 x5 x6 x7 : Int32) (h : (((4 : Int32) ≤ x7 → Rn PRG (d + 1) 280 67 [(0, .ref 97), (1, .int x1), (2, .int x2), (3, .int x3), (4, .int x4), (5, .int x5), (6, .int x6), (7, .int (1 : Int32))] [] σ Q) ∧ (¬ (4 : Int32) ≤ x7 → (inR x7 262144 = true ∧ Rn PRG (d + 1) 280 44 [(0, .ref 97), (1, .int x1), (2, .int x2), (3, .int x3), (4, .int x4), (5, .int x5), (6, .int x6), (7, .int (x7 + (1 : Int32)))] [] (s1 σ 136 x7.toNatClampNeg (vp_nar .byte (0 : Int32))) Q)))) : Rn PRG (d + 1) 280 44 [(0, .ref 97), (1, .int x1), (2, .int x2), (3, .int x3), (4, .int x4), (5, .int x5), (6, .int x6), (7, .int x7)] [] σ Q := by
  have hM : PRG[280]? = some M_280 := rfl
  refine Rn.br (c := (4 : Int32) ≤ x7) (a := 64) (b := 50) (ls' := [(0, .ref 97), (1, .int x1), (2, .int x2), (3, .int x3), (4, .int x4), (5, .int x5), (6, .int x6), (7, .int x7)]) (st' := []) (σ' := σ) hM 3 rfl (fun c => ?_) (fun c => ?_)
  · replace h := h.1 c
    refine Rn.seg (pc' := 67) (ls' := [(7, .int (1 : Int32)), (0, .ref 97), (1, .int x1), (2, .int x2), (3, .int x3), (4, .int x4), (5, .int x5), (6, .int x6)]) (st' := []) (σ' := σ) hM 2 rfl ?_
    exact Rn.sub h (subL_cons rfl (subL_cons rfl (subL_cons rfl (subL_cons rfl (subL_cons rfl (subL_cons rfl (subL_cons rfl (subL_cons rfl subL_nil)))))))) (show ndL _ from (by decide : List.Nodup ([0, 1, 2, 3, 4, 5, 6, 7] : List Nat)))
  · replace h := h.2 c
    refine Rn.seg (pc' := 57) (ls' := [(0, .ref 97), (1, .int x1), (2, .int x2), (3, .int x3), (4, .int x4), (5, .int x5), (6, .int x6), (7, .int x7)]) (st' := [.int (0 : Int32), .int x7, .ref 136]) (σ' := σ) hM 4 rfl ?_
    refine Rn.bast2 hM rfl rfl h.1 ?_
    refine Rn.seg (pc' := 44) (ls' := [(7, .int (x7 + (1 : Int32))), (0, .ref 97), (1, .int x1), (2, .int x2), (3, .int x3), (4, .int x4), (5, .int x5), (6, .int x6)]) (st' := []) (σ' := (s1 σ 136 x7.toNatClampNeg (vp_nar .byte (0 : Int32)))) hM 2 rfl ?_
    exact Rn.sub h.2 (subL_cons rfl (subL_cons rfl (subL_cons rfl (subL_cons rfl (subL_cons rfl (subL_cons rfl (subL_cons rfl (subL_cons rfl subL_nil)))))))) (show ndL _ from (by decide : List.Nodup ([0, 1, 2, 3, 4, 5, 6, 7] : List Nat)))
set_option maxRecDepth 100000 in
theorem w_280_67 {d : Nat} {Q : Option Value → Sg → Prop} (σ : Sg) (x1 x2 x3 x4 x5 x6 x7 : Int32) (h : ((x1 < x7 → Q none (s1 (s1 (s1 (s1 (s1 σ 97 69 x6) 139 0 x2) 139 1 x3) 139 2 x4) 139 3 x5)) ∧ (¬ x1 < x7 → Rn PRG (d + 1) 280 80 [(0, .ref 97), (1, .int x1), (2, .int x2), (3, .int x3), (4, .int x4), (5, .int x5), (6, .int x6), (7, .int x7)] [] (s1 σ 139 0 (0 : Int32)) Q))) : Rn PRG (d + 1) 280 67 [(0, .ref 97), (1, .int x1), (2, .int x2), (3, .int x3), (4, .int x4), (5, .int x5), (6, .int x6), (7, .int x7)] [] σ Q := by
  have hM : PRG[280]? = some M_280 := rfl
  refine Rn.br (c := x1 < x7) (a := 180) (b := 73) (ls' := [(0, .ref 97), (1, .int x1), (2, .int x2), (3, .int x3), (4, .int x4), (5, .int x5), (6, .int x6), (7, .int x7)]) (st' := []) (σ' := σ) hM 3 rfl (fun c => ?_) (fun c => ?_)
  · replace h := h.1 c
    refine Rn.seg (pc' := 216) (ls' := [(0, .ref 97), (1, .int x1), (2, .int x2), (3, .int x3), (4, .int x4), (5, .int x5), (6, .int x6), (7, .int x7)]) (st' := []) (σ' := (s1 (s1 (s1 (s1 (s1 σ 97 69 x6) 139 0 x2) 139 1 x3) 139 2 x4) 139 3 x5)) hM 23 rfl ?_
    exact Rn.ret hM rfl rfl h
  · replace h := h.2 c
    refine Rn.seg (pc' := 80) (ls' := [(0, .ref 97), (1, .int x1), (2, .int x2), (3, .int x3), (4, .int x4), (5, .int x5), (6, .int x6), (7, .int x7)]) (st' := []) (σ' := (s1 σ 139 0 (0 : Int32))) hM 5 rfl ?_
    exact Rn.sub h (subL_cons rfl (subL_cons rfl (subL_cons rfl (subL_cons rfl (subL_cons rfl (subL_cons rfl (subL_cons rfl (subL_cons rfl subL_nil)))))))) (show ndL _ from (by decide : List.Nodup ([0, 1, 2, 3, 4, 5, 6, 7] : List Nat)))
set_option maxRecDepth 100000 in
theorem w_280_80 {d : Nat} {Q : Option Value → Sg → Prop} (σ : Sg) (x1 x2 x3 x4 x5 x6 x7 : Int32) (h : ((x2 < (σ.1 139 0) → Rn PRG (d + 1) 280 67 [(0, .ref 97), (1, .int x1), (2, .int x2), (3, .int x3), (4, .int x4), (5, .int x5), (6, .int x6), (7, .int (x7 + (1 : Int32)))] [] σ Q) ∧ (¬ x2 < (σ.1 139 0) → (∃ Qc : Int32 → Sg → Prop, OkI PRG d 209 [.int (σ.1 139 0)] σ Qc ∧ ∀ w2 σ1, Qc w2 σ1 → ((w2 = x7 → Rn PRG (d + 1) 280 114 [(0, .ref 97), (1, .int x1), (2, .int x2), (3, .int x3), (4, .int x4), (5, .int x5), (6, .int x6), (7, .int x7)] [] (s1 σ1 139 1 (0 : Int32)) Q) ∧ (¬ w2 = x7 → Rn PRG (d + 1) 280 80 [(0, .ref 97), (1, .int x1), (2, .int x2), (3, .int x3), (4, .int x4), (5, .int x5), (6, .int x6), (7, .int x7)] [] (s1 σ1 139 0 ((σ1.1 139 0) + (1 : Int32))) Q)))))) : Rn PRG (d + 1) 280 80 [(0, .ref 97), (1, .int x1), (2, .int x2), (3, .int x3), (4, .int x4), (5, .int x5), (6, .int x6), (7, .int x7)] [] σ Q := by
  have hM : PRG[280]? = some M_280 := rfl
  refine Rn.br (c := x2 < (σ.1 139 0)) (a := 174) (b := 90) (ls' := [(0, .ref 97), (1, .int x1), (2, .int x2), (3, .int x3), (4, .int x4), (5, .int x5), (6, .int x6), (7, .int x7)]) (st' := []) (σ' := σ) hM 6 rfl (fun c => ?_) (fun c => ?_)
  · replace h := h.1 c
    refine Rn.seg (pc' := 67) (ls' := [(7, .int (x7 + (1 : Int32))), (0, .ref 97), (1, .int x1), (2, .int x2), (3, .int x3), (4, .int x4), (5, .int x5), (6, .int x6)]) (st' := []) (σ' := σ) hM 2 rfl ?_
    exact Rn.sub h (subL_cons rfl (subL_cons rfl (subL_cons rfl (subL_cons rfl (subL_cons rfl (subL_cons rfl (subL_cons rfl (subL_cons rfl subL_nil)))))))) (show ndL _ from (by decide : List.Nodup ([0, 1, 2, 3, 4, 5, 6, 7] : List Nat)))
  · replace h := h.2 c
    refine Rn.seg (pc' := 96) (ls' := [(0, .ref 97), (1, .int x1), (2, .int x2), (3, .int x3), (4, .int x4), (5, .int x5), (6, .int x6), (7, .int x7)]) (st' := [.int (σ.1 139 0)]) (σ' := σ) hM 4 rfl ?_
    obtain ⟨Qc, hq, h⟩ := h
    refine Rn.cI hM rfl rfl (by decide) hq (fun w2 σ1 hw => ?_)
    replace h := h w2 σ1 hw
    refine Rn.br (c := w2 = x7) (a := 107) (b := 104) (ls' := [(0, .ref 97), (1, .int x1), (2, .int x2), (3, .int x3), (4, .int x4), (5, .int x5), (6, .int x6), (7, .int x7)]) (st' := []) (σ' := σ1) hM 2 rfl (fun c => ?_) (fun c => ?_)
    · replace h := h.1 c
      refine Rn.seg (pc' := 114) (ls' := [(0, .ref 97), (1, .int x1), (2, .int x2), (3, .int x3), (4, .int x4), (5, .int x5), (6, .int x6), (7, .int x7)]) (st' := []) (σ' := (s1 σ1 139 1 (0 : Int32))) hM 5 rfl ?_
      exact Rn.sub h (subL_cons rfl (subL_cons rfl (subL_cons rfl (subL_cons rfl (subL_cons rfl (subL_cons rfl (subL_cons rfl (subL_cons rfl subL_nil)))))))) (show ndL _ from (by decide : List.Nodup ([0, 1, 2, 3, 4, 5, 6, 7] : List Nat)))
    · replace h := h.2 c
      refine Rn.seg (pc' := 80) (ls' := [(0, .ref 97), (1, .int x1), (2, .int x2), (3, .int x3), (4, .int x4), (5, .int x5), (6, .int x6), (7, .int x7)]) (st' := []) (σ' := (s1 σ1 139 0 ((σ1.1 139 0) + (1 : Int32)))) hM 10 rfl ?_
      exact Rn.sub h (subL_cons rfl (subL_cons rfl (subL_cons rfl (subL_cons rfl (subL_cons rfl (subL_cons rfl (subL_cons rfl (subL_cons rfl subL_nil)))))))) (show ndL _ from (by decide : List.Nodup ([0, 1, 2, 3, 4, 5, 6, 7] : List Nat)))
set_option maxRecDepth 100000 in
theorem w_280_114 {d : Nat} {Q : Option Value → Sg → Prop} (σ : Sg) (x1 x2 x3 x4 x5 x6 x7 : Int32) (h : ((x3 < (σ.1 139 1) → Rn PRG (d + 1) 280 80 [(0, .ref 97), (1, .int x1), (2, .int x2), (3, .int x3), (4, .int x4), (5, .int x5), (6, .int x6), (7, .int x7)] [] (s1 σ 139 0 ((σ.1 139 0) + (1 : Int32))) Q) ∧ (¬ x3 < (σ.1 139 1) → (∃ Qc : Int32 → Sg → Prop, OkI PRG d 209 [.int (σ.1 139 1)] σ Qc ∧ ∀ w2 σ1, Qc w2 σ1 → ((w2 = x7 → (∃ Qc : Sg → Prop, OkV PRG d 279 [.ref 97, .int x4, .int x5, .int x7] σ1 Qc ∧ ∀ σ3, Qc σ3 → Rn PRG (d + 1) 280 114 [(0, .ref 97), (1, .int x1), (2, .int x2), (3, .int x3), (4, .int x4), (5, .int x5), (6, .int x6), (7, .int x7)] [] (s1 σ3 139 1 ((σ3.1 139 1) + (1 : Int32))) Q)) ∧ (¬ w2 = x7 → Rn PRG (d + 1) 280 114 [(0, .ref 97), (1, .int x1), (2, .int x2), (3, .int x3), (4, .int x4), (5, .int x5), (6, .int x6), (7, .int x7)] [] (s1 σ1 139 1 ((σ1.1 139 1) + (1 : Int32))) Q)))))) : Rn PRG (d + 1) 280 114 [(0, .ref 97), (1, .int x1), (2, .int x2), (3, .int x3), (4, .int x4), (5, .int x5), (6, .int x6), (7, .int x7)] [] σ Q := by
  have hM : PRG[280]? = some M_280 := rfl
  refine Rn.br (c := x3 < (σ.1 139 1)) (a := 161) (b := 124) (ls' := [(0, .ref 97), (1, .int x1), (2, .int x2), (3, .int x3), (4, .int x4), (5, .int x5), (6, .int x6), (7, .int x7)]) (st' := []) (σ' := σ) hM 6 rfl (fun c => ?_) (fun c => ?_)
  · replace h := h.1 c
    refine Rn.seg (pc' := 80) (ls' := [(0, .ref 97), (1, .int x1), (2, .int x2), (3, .int x3), (4, .int x4), (5, .int x5), (6, .int x6), (7, .int x7)]) (st' := []) (σ' := (s1 σ 139 0 ((σ.1 139 0) + (1 : Int32)))) hM 9 rfl ?_
    exact Rn.sub h (subL_cons rfl (subL_cons rfl (subL_cons rfl (subL_cons rfl (subL_cons rfl (subL_cons rfl (subL_cons rfl (subL_cons rfl subL_nil)))))))) (show ndL _ from (by decide : List.Nodup ([0, 1, 2, 3, 4, 5, 6, 7] : List Nat)))
  · replace h := h.2 c
    refine Rn.seg (pc' := 130) (ls' := [(0, .ref 97), (1, .int x1), (2, .int x2), (3, .int x3), (4, .int x4), (5, .int x5), (6, .int x6), (7, .int x7)]) (st' := [.int (σ.1 139 1)]) (σ' := σ) hM 4 rfl ?_
    obtain ⟨Qc, hq, h⟩ := h
    refine Rn.cI hM rfl rfl (by decide) hq (fun w2 σ1 hw => ?_)
    replace h := h w2 σ1 hw
    refine Rn.brN (c := w2 = x7) (a := 148) (b := 138) (ls' := [(0, .ref 97), (1, .int x1), (2, .int x2), (3, .int x3), (4, .int x4), (5, .int x5), (6, .int x6), (7, .int x7)]) (st' := []) (σ' := σ1) hM 2 rfl (fun c => ?_) (fun c => ?_)
    · replace h := h.2 c
      refine Rn.seg (pc' := 114) (ls' := [(0, .ref 97), (1, .int x1), (2, .int x2), (3, .int x3), (4, .int x4), (5, .int x5), (6, .int x6), (7, .int x7)]) (st' := []) (σ' := (s1 σ1 139 1 ((σ1.1 139 1) + (1 : Int32)))) hM 9 rfl ?_
      exact Rn.sub h (subL_cons rfl (subL_cons rfl (subL_cons rfl (subL_cons rfl (subL_cons rfl (subL_cons rfl (subL_cons rfl (subL_cons rfl subL_nil)))))))) (show ndL _ from (by decide : List.Nodup ([0, 1, 2, 3, 4, 5, 6, 7] : List Nat)))
    · replace h := h.1 c
      refine Rn.seg (pc' := 145) (ls' := [(0, .ref 97), (1, .int x1), (2, .int x2), (3, .int x3), (4, .int x4), (5, .int x5), (6, .int x6), (7, .int x7)]) (st' := [.int x7, .int x5, .int x4, .ref 97]) (σ' := σ1) hM 4 rfl ?_
      obtain ⟨Qc, hq, h⟩ := h
      refine Rn.cV hM rfl rfl (by decide) hq (fun σ3 hw => ?_)
      replace h := h σ3 hw
      refine Rn.seg (pc' := 114) (ls' := [(0, .ref 97), (1, .int x1), (2, .int x2), (3, .int x3), (4, .int x4), (5, .int x5), (6, .int x6), (7, .int x7)]) (st' := []) (σ' := (s1 σ3 139 1 ((σ3.1 139 1) + (1 : Int32)))) hM 9 rfl ?_
      exact Rn.sub h (subL_cons rfl (subL_cons rfl (subL_cons rfl (subL_cons rfl (subL_cons rfl (subL_cons rfl (subL_cons rfl (subL_cons rfl subL_nil)))))))) (show ndL _ from (by decide : List.Nodup ([0, 1, 2, 3, 4, 5, 6, 7] : List Nat)))
/-! fillRest, fillTable -/
theorem nar_id {w : Int32} (h1 : -128 ≤ w.toInt) (h2 : w.toInt ≤ 127) : (vp_nar .byte w.toInt8.toInt32).toInt = w.toInt := by
  have e : ∀ x : Int32, vp_nar .byte x = x.toInt8.toInt32 := fun x => rfl
  rw [e, Int8.toInt_toInt32, Int32.toInt_toInt8, Int8.toInt_toInt32, Int32.toInt_toInt8]
  have : ∀ z : Int, -128 ≤ z → z ≤ 127 → z.bmod (2 ^ 8) = z := by
    intro z a b
    rw [Int.bmod_eq_of_le (by omega) (by omega)]
  rw [this _ h1 h2, this _ h1 h2]
/-- all four hold n cards of those that they have -/
def full (n : Nat) (σ : Sg) : Prop := ∀ p : Nat, p ≤ 3 → pop (σ.1 139 p) = n ∧ 0 ≤ (σ.1 139 p).toInt ∧ (σ.1 139 p).toInt < 2 ^ (σ.1 137 p).toInt.toNat
theorem pop_ex {x : Int32} (h : 1 ≤ pop x) : ∃ k, k < 16 ∧ bt x k = true := by
  unfold pop at h
  obtain ⟨k, hk, hb⟩ := List.countP_pos_iff.mp (by omega : 0 < (List.range 16).countP (bt x))
  exact ⟨k, List.mem_range.mp hk, hb⟩
theorem full_HC {n m : Nat} {σ : Sg} (ht : typed TYP σ) (hf : full n σ) (hn : 1 ≤ n) (hm : m ≤ 3) : HC m σ := by
  intro j hj _
  have hp : plr m j ≤ 3 := by unfold plr; omega
  obtain ⟨f1, f2, f3⟩ := hf _ hp
  have hh := tyA ht (q := 137) (κ := 93) (k := plr m j) (a := 0) (b := 3) (lo := 0) (hi := 4) rfl rfl (by omega) (by omega)
  obtain ⟨k, hk, hb⟩ := pop_ex (x := σ.1 139 (plr m j)) (by omega)
  refine ⟨k, ?_, hb⟩
  apply Int.lt_of_not_ge
  intro hge
  have := bt_lt (x := σ.1 139 (plr m j)) (k := (σ.1 137 (plr m j)).toInt.toNat) (by omega) f2 f3 (i := k) (by omega)
  rw [this] at hb
  cases hb
def mdR1 : List (Nat × Nat × Nat) := [(97, 0, 3), (98, 0, 3), (99, 0, 3), (92, 0, 262143)]
def mdRest : List (Nat × Nat × Nat) := [(97, 0, 3), (98, 0, 3), (99, 0, 3), (92, 0, 262143), (95, 2, 3)]
theorem TB_s1 {σ : Sg} {i : Nat} {x : Int32} (hT : TB σ) (h1 : 0 ≤ x.toInt) (h2 : x.toInt ≤ ((pn (i / 4 % 16) : Nat) : Int)) : TB (s1 σ 136 i x) := by
  intro j hj
  by_cases h : j = i
  · subst h; rw [s1_on]; exact ⟨h1, h2⟩
  · rw [s1_off (fun e => h e.2)]; exact hT j hj
theorem full_15 {n : Nat} {σ : Sg} (ht : typed TYP σ) (hf : full n σ) : mk15 σ := by
  intro p hp
  obtain ⟨f1, f2, f3⟩ := hf _ hp
  have hh := tyA ht (q := 137) (κ := 93) (k := p) (a := 0) (b := 3) (lo := 0) (hi := 4) rfl rfl (by omega) (by omega)
  have : (2 : Int) ^ (σ.1 137 p).toInt.toNat ≤ 2 ^ 4 := by
    have := Nat.pow_le_pow_right (n := 2) (by omega) (show (σ.1 137 p).toInt.toNat ≤ 4 by omega)
    exact_mod_cast this
  omega
/-- the loop over who leads -/
theorem lead_go {d n : Nat} {x1 x2 x3 : Int32} {σ0 : Sg} {Q : Option Value → Sg → Prop} (hp : pkOK σ0) (hn : 1 ≤ n) (hf : full n σ0) (hy : (σ0.1 97 69).toInt = 0) (K : ∀ σ', Gl mdR1 σ0 σ' → TB σ' → Rn PRG (d + 1 + 1 + 1 + 1) 279 40 [(0, .ref 97), (1, .int x1), (2, .int x2), (3, .int x3)] [] (s1 σ' 139 3 ((σ'.1 139 3) + (1 : Int32))) Q) : ∀ (m k : Nat) (x4 : Int32) (σ : Sg), k + m = 4 → x4.toInt = (k : Int) → Gl mdR1 σ0 σ → TB σ → Rn PRG (d + 1 + 1 + 1 + 1) 279 69 [(0, .ref 97), (1, .int x1), (2, .int x2), (3, .int x3), (4, .int x4)] [] σ Q := by
  have four : (4 : Int32).toInt = 4 := by decide
  intro m
  induction m with
  | zero =>
    intro k x4 σ hk h4 hG hT
    exact w_279_69 σ x1 x2 x3 x4 ⟨fun _ => K σ hG hT, fun c => absurd (by rw [Int32.le_iff_toInt_le, h4]; omega) c⟩
  | succ m ih =>
    intro k x4 σ hk h4 hG hT
    refine w_279_69 σ x1 x2 x3 x4 ⟨fun _ => K σ hG hT, fun c => ?_⟩
    clear c
    have hx4 : (x4 + (1 : Int32)).toInt = ((k + 1 : Nat) : Int) := by
      rw [add_lit (k := 1) h4 (by decide) (by unfold FL; omega) (by unfold FH; omega)]; push_cast; rfl
    have e97 : ∀ k, σ.1 97 k = σ0.1 97 k := fun k => hG.get (q := 97) (κ := 12) rfl rfl
    have e139 : ∀ k, σ.1 139 k = σ0.1 139 k := fun k => hG.get (q := 139) (κ := 95) rfl rfl
    have e137 : ∀ k, σ.1 137 k = σ0.1 137 k := fun k => hG.get (q := 137) (κ := 93) rfl rfl
    have e107 : ∀ k, σ.1 107 k = σ0.1 107 k := fun k => hG.get (q := 107) (κ := 63) rfl rfl
    have hf1 : full n σ := fun p hp => by rw [e139, e137]; exact hf p hp
    have hp1 : pkOK σ := by unfold pkOK; rw [e97, e107]; exact hp
    have hm := full_15 hG.1 hf1
    have m0 := hm 0 (by omega)
    have m1 := hm 1 (by omega)
    have m2 := hm 2 (by omega)
    have m3 := hm 3 (by omega)
    have f0 := hf1 0 (by omega)
    have f1 := hf1 1 (by omega)
    have f2 := hf1 2 (by omega)
    have f3 := hf1 3 (by omega)
    refine ⟨_, spot_OK (by omega) ⟨f0.2.1, m0⟩ ⟨f1.2.1, m1⟩ ⟨f2.2.1, m2⟩ ⟨f3.2.1, m3⟩, fun w2 σ1 hq => ?_⟩
    obtain ⟨rfl, hw⟩ := hq
    refine ⟨_, trick_OK hG.1 h4 (by omega) hp1 hT hm, fun w4 σ3 hq => ?_⟩
    obtain ⟨q1, -, q3, q4⟩ := hq
    have q4 := q4 (full_HC hG.1 hf1 hn (by omega))
    have hb : bnd0 k σ1 = ((pop (σ1.1 139 0) : Nat) : Int) := by
      unfold bnd0
      rw [if_pos (by rw [e97, hy]; omega)]
    rw [hb] at q3
    have hle := pop_le (σ1.1 139 0)
    have hT3 : TB σ3 := fun i hi => by
      have : σ3.1 136 i = σ1.1 136 i := q1.get (q := 136) (κ := 92) rfl rfl
      rw [this]; exact hT i hi
    have hc : w2.toNatClampNeg = w2.toInt.toNat := rfl
    have hlt : w2.toInt.toNat < 262144 := by omega
    have hidx : w2.toInt.toNat / 4 % 16 = (σ1.1 139 0).toInt.toNat := by omega
    have hpn : pop (σ1.1 139 0) = pn (w2.toInt.toNat / 4 % 16) := by
      rw [hidx]; exact pop_pn (by omega)
    have hid := nar_id (w := w4) (by omega) (by omega)
    have hin : inR w2 262144 = true := inR_ok (by omega) (by omega)
    clear hw hidx
    refine ⟨hin, ih (k + 1) _ _ (by omega) hx4 ?_ ?_⟩
    · exact wrG (κ := 92) (a := 0) (b := 262143) (vl := -128) (vh := 127) rfl rfl (hG.trans q1 rfl) rfl (Nat.zero_le _) (by rw [hc]; omega) (by rw [hid]; omega) (by rw [hid]; omega)
    · rw [hc]
      exact TB_s1 hT3 (by rw [hid]; exact q4) (by rw [hid, ← hpn]; exact q3)
/-- what stands while masks 2 and 3 run -/
abbrev FR (n : Nat) (x1 x2 x3 : Int32) (σ : Sg) : Prop := (typed TYP σ) ∧ (pkOK σ) ∧ (1 ≤ n) ∧ (x3.toInt = (n : Int)) ∧ ((σ.1 97 69).toInt = 0) ∧ (pop (σ.1 139 0) = n ∧ 0 ≤ (σ.1 139 0).toInt ∧ (σ.1 139 0).toInt < 2 ^ (σ.1 137 0).toInt.toNat) ∧ (pop (σ.1 139 1) = n ∧ 0 ≤ (σ.1 139 1).toInt ∧ (σ.1 139 1).toInt < 2 ^ (σ.1 137 1).toInt.toNat) ∧ (0 ≤ x1.toInt ∧ x1.toInt ≤ 15 ∧ x1.toInt < 2 ^ (σ.1 137 2).toInt.toNat) ∧ (0 ≤ x2.toInt ∧ x2.toInt ≤ 15 ∧ x2.toInt < 2 ^ (σ.1 137 3).toInt.toNat)
theorem FR.ty {n : Nat} {x1 x2 x3 : Int32} {σ : Sg} (h : FR n x1 x2 x3 σ) : typed TYP σ := h.1
theorem FR.pk {n : Nat} {x1 x2 x3 : Int32} {σ : Sg} (h : FR n x1 x2 x3 σ) : pkOK σ := h.2.1
theorem FR.n1 {n : Nat} {x1 x2 x3 : Int32} {σ : Sg} (h : FR n x1 x2 x3 σ) : 1 ≤ n := h.2.2.1
theorem FR.nx {n : Nat} {x1 x2 x3 : Int32} {σ : Sg} (h : FR n x1 x2 x3 σ) : x3.toInt = (n : Int) := h.2.2.2.1
theorem FR.ly {n : Nat} {x1 x2 x3 : Int32} {σ : Sg} (h : FR n x1 x2 x3 σ) : (σ.1 97 69).toInt = 0 := h.2.2.2.2.1
theorem FR.m0 {n : Nat} {x1 x2 x3 : Int32} {σ : Sg} (h : FR n x1 x2 x3 σ) : pop (σ.1 139 0) = n ∧ 0 ≤ (σ.1 139 0).toInt ∧ (σ.1 139 0).toInt < 2 ^ (σ.1 137 0).toInt.toNat := h.2.2.2.2.2.1
theorem FR.m1 {n : Nat} {x1 x2 x3 : Int32} {σ : Sg} (h : FR n x1 x2 x3 σ) : pop (σ.1 139 1) = n ∧ 0 ≤ (σ.1 139 1).toInt ∧ (σ.1 139 1).toInt < 2 ^ (σ.1 137 1).toInt.toNat := h.2.2.2.2.2.2.1
theorem FR.c {n : Nat} {x1 x2 x3 : Int32} {σ : Sg} (h : FR n x1 x2 x3 σ) : 0 ≤ x1.toInt ∧ x1.toInt ≤ 15 ∧ x1.toInt < 2 ^ (σ.1 137 2).toInt.toNat := h.2.2.2.2.2.2.2.1
theorem FR.d {n : Nat} {x1 x2 x3 : Int32} {σ : Sg} (h : FR n x1 x2 x3 σ) : 0 ≤ x2.toInt ∧ x2.toInt ≤ 15 ∧ x2.toInt < 2 ^ (σ.1 137 3).toInt.toNat := h.2.2.2.2.2.2.2.2
theorem FR.keep {n : Nat} {x1 x2 x3 : Int32} {σ σ' : Sg} (h : FR n x1 x2 x3 σ) (hG : Gl mdRest σ σ') : FR n x1 x2 x3 σ' := by
  have e97 : ∀ k, σ'.1 97 k = σ.1 97 k := fun k => hG.get (q := 97) (κ := 12) rfl rfl
  have e0 : σ'.1 139 0 = σ.1 139 0 := hG.get (q := 139) (κ := 95) rfl rfl
  have e1 : σ'.1 139 1 = σ.1 139 1 := hG.get (q := 139) (κ := 95) rfl rfl
  have e137 : ∀ k, σ'.1 137 k = σ.1 137 k := fun k => hG.get (q := 137) (κ := 93) rfl rfl
  have e107 : ∀ k, σ'.1 107 k = σ.1 107 k := fun k => hG.get (q := 107) (κ := 63) rfl rfl
  exact ⟨hG.1, by unfold pkOK; rw [e97, e107]; exact h.pk, h.n1, h.nx, by rw [e97]; exact h.ly, by rw [e0, e137]; exact h.m0, by rw [e1, e137]; exact h.m1, by rw [e137]; exact h.c, by rw [e137]; exact h.d⟩
theorem mask3_go {d n : Nat} {x1 x2 x3 : Int32} {σ0 : Sg} {Q : Option Value → Sg → Prop} (h0 : FR n x1 x2 x3 σ0) (hm2 : pop (σ0.1 139 2) = n ∧ 0 ≤ (σ0.1 139 2).toInt ∧ (σ0.1 139 2).toInt ≤ x1.toInt) (K : ∀ σ', Gl mdRest σ0 σ' → TB σ' → σ'.1 139 2 = σ0.1 139 2 → Rn PRG (d + 1 + 1 + 1 + 1) 279 7 [(0, .ref 97), (1, .int x1), (2, .int x2), (3, .int x3)] [] (s1 σ' 139 2 ((σ'.1 139 2) + (1 : Int32))) Q) : ∀ (m : Nat) (σ : Sg), Gl mdRest σ0 σ → TB σ → σ.1 139 2 = σ0.1 139 2 → (16 - (σ.1 139 3).toInt).toNat ≤ m → Rn PRG (d + 1 + 1 + 1 + 1) 279 40 [(0, .ref 97), (1, .int x1), (2, .int x2), (3, .int x3)] [] σ Q := by
  intro m
  induction m with
  | zero =>
    intro σ hG hT h2 hm
    refine w_279_40 σ x1 x2 x3 ⟨fun _ => K σ hG hT h2, fun c => absurd (by rw [Int32.lt_iff_toInt_lt]; have := h0.d; omega) c⟩
  | succ m ih =>
    intro σ hG hT h2 hm
    refine w_279_40 σ x1 x2 x3 ⟨fun _ => K σ hG hT h2, fun c => ⟨_, bits_ok, fun w2 σ1 hq => ?_⟩⟩
    obtain ⟨rfl, hw⟩ := hq
    rw [Int32.lt_iff_toInt_lt] at c
    have h1 := h0.keep hG
    have hd := h1.d
    have ht3 := tyA hG.1 (q := 139) (κ := 95) (k := 3) (a := 0) (b := 3) (lo := 0) (hi := 16) rfl rfl (by omega) (by omega)
    have hadd : ∀ σ' : Sg, σ'.1 139 3 = σ1.1 139 3 → ((σ'.1 139 3) + (1 : Int32)).toInt = (σ1.1 139 3).toInt + 1 := by
      intro σ' he
      rw [he]
      exact add_lit rfl (by decide) (by unfold FL; omega) (by unfold FH; omega)
    have next : ∀ σ', Gl mdRest σ0 σ' → TB σ' → σ'.1 139 2 = σ0.1 139 2 → σ'.1 139 3 = σ1.1 139 3 → Rn PRG (d + 1 + 1 + 1 + 1) 279 40 [(0, .ref 97), (1, .int x1), (2, .int x2), (3, .int x3)] [] (s1 σ' 139 3 ((σ'.1 139 3) + (1 : Int32))) Q := by
      intro σ' a1 a2 a3 a4
      have e := hadd σ' a4
      refine ih _ (wrG (κ := 95) (a := 3) (b := 3) (vl := 0) (vh := 16) rfl rfl a1 rfl (Nat.le_refl _) (Nat.le_refl _) (by rw [e]; omega) (by rw [e]; omega)) ?_ (by rw [s1_off (by omega)]; exact a3) (by rw [s1_on, e]; omega)
      intro i hi
      rw [s1_off (by omega)]
      exact a2 i hi
    refine ⟨fun hc => ?_, fun _ => next σ1 hG hT h2 rfl⟩
    have hpop : pop (σ1.1 139 3) = n := by
      have := h0.nx
      rw [hc] at hw
      omega
    have hf : full n σ1 := by
      intro p hp
      have : p = 0 ∨ p = 1 ∨ p = 2 ∨ p = 3 := by omega
      rcases this with rfl | rfl | rfl | rfl
      · exact h1.m0
      · exact h1.m1
      · have := h1.c
        rw [h2]
        exact ⟨hm2.1, hm2.2.1, by omega⟩
      · exact ⟨hpop, ht3.1, by omega⟩
    refine lead_go h1.pk h1.n1 hf h1.ly (fun σ' a1 a2 => ?_) 4 0 0 σ1 rfl rfl (Gl.refl hG.1) hT
    have e139 : ∀ k, σ'.1 139 k = σ1.1 139 k := fun k => a1.get (q := 139) (κ := 95) rfl rfl
    exact next σ' (hG.trans a1 rfl) a2 (by rw [e139]; exact h2) (e139 3)
theorem mask2_go {d n : Nat} {x1 x2 x3 : Int32} {σ0 : Sg} (h0 : FR n x1 x2 x3 σ0) : ∀ (m : Nat) (σ : Sg), Gl mdRest σ0 σ → TB σ → (16 - (σ.1 139 2).toInt).toNat ≤ m → Rn PRG (d + 1 + 1 + 1 + 1) 279 7 [(0, .ref 97), (1, .int x1), (2, .int x2), (3, .int x3)] [] σ (fun v σ' => v = none ∧ Gl mdRest σ0 σ' ∧ TB σ') := by
  intro m
  induction m with
  | zero =>
    intro σ hG hT hm
    exact w_279_7 σ x1 x2 x3 ⟨fun _ => ⟨rfl, hG, hT⟩, fun c => absurd (by rw [Int32.lt_iff_toInt_lt]; have := h0.c; omega) c⟩
  | succ m ih =>
    intro σ hG hT hm
    refine w_279_7 σ x1 x2 x3 ⟨fun _ => ⟨rfl, hG, hT⟩, fun c => ⟨_, bits_ok, fun w2 σ1 hq => ?_⟩⟩
    obtain ⟨rfl, hw⟩ := hq
    rw [Int32.lt_iff_toInt_lt] at c
    have h1 := h0.keep hG
    have hc := h1.c
    have ht2 := tyA hG.1 (q := 139) (κ := 95) (k := 2) (a := 0) (b := 3) (lo := 0) (hi := 16) rfl rfl (by omega) (by omega)
    have next : ∀ σ', Gl mdRest σ0 σ' → TB σ' → σ'.1 139 2 = σ1.1 139 2 → Rn PRG (d + 1 + 1 + 1 + 1) 279 7 [(0, .ref 97), (1, .int x1), (2, .int x2), (3, .int x3)] [] (s1 σ' 139 2 ((σ'.1 139 2) + (1 : Int32))) (fun v σ' => v = none ∧ Gl mdRest σ0 σ' ∧ TB σ') := by
      intro σ' a1 a2 a3
      have e : ((σ'.1 139 2) + (1 : Int32)).toInt = (σ1.1 139 2).toInt + 1 := by
        rw [a3]
        exact add_lit rfl (by decide) (by unfold FL; omega) (by unfold FH; omega)
      refine ih _ (wrG (κ := 95) (a := 2) (b := 2) (vl := 0) (vh := 16) rfl rfl a1 rfl (Nat.le_refl _) (Nat.le_refl _) (by rw [e]; omega) (by rw [e]; omega)) ?_ (by rw [s1_on, e]; omega)
      intro i hi
      rw [s1_off (by omega)]
      exact a2 i hi
    refine ⟨fun he => ?_, fun _ => next σ1 hG hT rfl⟩
    have hpop : pop (σ1.1 139 2) = n := by
      have := h0.nx
      rw [he] at hw
      omega
    have g3 : Gl mdRest σ1 (s1 σ1 139 3 0) := wrG (κ := 95) (a := 3) (b := 3) (vl := 0) (vh := 0) rfl rfl (Gl.refl hG.1) rfl (Nat.le_refl _) (Nat.le_refl _) (by decide) (by decide)
    have e2 : (s1 σ1 139 3 0).1 139 2 = σ1.1 139 2 := s1_off (by omega)
    refine mask3_go (σ0 := s1 σ1 139 3 0) (h1.keep g3) (by rw [e2]; exact ⟨hpop, ht2.1, by omega⟩) (fun σ' a1 a2 a3 => next σ' ((hG.trans g3 rfl).trans a1 rfl) a2 (by rw [a3, e2])) _ (s1 σ1 139 3 0) (Gl.refl g3.1) ?_ rfl (Nat.le_refl _)
    intro i hi
    rw [s1_off (by omega)]
    exact hT i hi
theorem fillRest_OK {d n : Nat} {x1 x2 x3 : Int32} {σ : Sg} (h0 : FR n x1 x2 x3 σ) (hT : TB σ) : OkV PRG (d + 1 + 1 + 1 + 1) 279 [.ref 97, .int x1, .int x2, .int x3] σ (fun σ' => Gl mdRest σ σ' ∧ TB σ') := by
  have g : Gl mdRest σ (s1 σ 139 2 0) := wrG (κ := 95) (a := 2) (b := 2) (vl := 0) (vh := 0) rfl rfl (Gl.refl h0.ty) rfl (Nat.le_refl _) (Nat.le_refl _) (by decide) (by decide)
  refine ⟨M_279, rfl, Nat.le_of_ble_eq_true rfl, w_279_0 σ x1 x2 x3 (mask2_go h0 _ _ g (fun i hi => ?_) (Nat.le_refl _))⟩
  rw [s1_off (by omega)]
  exact hT i hi
/-! fillTable -/
def mdTab : List (Nat × Nat × Nat) := [(97, 0, 3), (98, 0, 3), (99, 0, 3), (92, 0, 262143), (95, 0, 3), (12, 69, 69)]
/-- what stands while the table is filled; the four ends of the masks -/
abbrev FT (x2 x3 x4 x5 : Int32) (σ : Sg) : Prop := (typed TYP σ) ∧ (pkOK σ) ∧ ((σ.1 97 69).toInt = 0) ∧ (0 ≤ x2.toInt ∧ x2.toInt ≤ 15 ∧ x2.toInt < 2 ^ (σ.1 137 0).toInt.toNat) ∧ (0 ≤ x3.toInt ∧ x3.toInt ≤ 15 ∧ x3.toInt < 2 ^ (σ.1 137 1).toInt.toNat) ∧ (0 ≤ x4.toInt ∧ x4.toInt ≤ 15 ∧ x4.toInt < 2 ^ (σ.1 137 2).toInt.toNat) ∧ (0 ≤ x5.toInt ∧ x5.toInt ≤ 15 ∧ x5.toInt < 2 ^ (σ.1 137 3).toInt.toNat)
theorem FT.ty {x2 x3 x4 x5 : Int32} {σ : Sg} (h : FT x2 x3 x4 x5 σ) : typed TYP σ := h.1
theorem FT.pk {x2 x3 x4 x5 : Int32} {σ : Sg} (h : FT x2 x3 x4 x5 σ) : pkOK σ := h.2.1
theorem FT.ly {x2 x3 x4 x5 : Int32} {σ : Sg} (h : FT x2 x3 x4 x5 σ) : (σ.1 97 69).toInt = 0 := h.2.2.1
theorem FT.a {x2 x3 x4 x5 : Int32} {σ : Sg} (h : FT x2 x3 x4 x5 σ) : 0 ≤ x2.toInt ∧ x2.toInt ≤ 15 ∧ x2.toInt < 2 ^ (σ.1 137 0).toInt.toNat := h.2.2.2.1
theorem FT.b {x2 x3 x4 x5 : Int32} {σ : Sg} (h : FT x2 x3 x4 x5 σ) : 0 ≤ x3.toInt ∧ x3.toInt ≤ 15 ∧ x3.toInt < 2 ^ (σ.1 137 1).toInt.toNat := h.2.2.2.2.1
theorem FT.c {x2 x3 x4 x5 : Int32} {σ : Sg} (h : FT x2 x3 x4 x5 σ) : 0 ≤ x4.toInt ∧ x4.toInt ≤ 15 ∧ x4.toInt < 2 ^ (σ.1 137 2).toInt.toNat := h.2.2.2.2.2.1
theorem FT.d {x2 x3 x4 x5 : Int32} {σ : Sg} (h : FT x2 x3 x4 x5 σ) : 0 ≤ x5.toInt ∧ x5.toInt ≤ 15 ∧ x5.toInt < 2 ^ (σ.1 137 3).toInt.toNat := h.2.2.2.2.2.2
def mdT4 : List (Nat × Nat × Nat) := [(97, 0, 3), (98, 0, 3), (99, 0, 3), (92, 0, 262143), (95, 0, 3)]
theorem FT.keep {x2 x3 x4 x5 : Int32} {σ σ' : Sg} (h : FT x2 x3 x4 x5 σ) (hG : Gl mdT4 σ σ') : FT x2 x3 x4 x5 σ' := by
  have e97 : ∀ k, σ'.1 97 k = σ.1 97 k := fun k => hG.get (q := 97) (κ := 12) rfl rfl
  have e137 : ∀ k, σ'.1 137 k = σ.1 137 k := fun k => hG.get (q := 137) (κ := 93) rfl rfl
  have e107 : ∀ k, σ'.1 107 k = σ.1 107 k := fun k => hG.get (q := 107) (κ := 63) rfl rfl
  exact ⟨hG.1, by unfold pkOK; rw [e97, e107]; exact h.pk, by rw [e97]; exact h.ly, by rw [e137]; exact h.a, by rw [e137]; exact h.b, by rw [e137]; exact h.c, by rw [e137]; exact h.d⟩
theorem TB_off {σ : Sg} {q k : Nat} {x : Int32} (h : TB σ) (hq : ¬ q = 136) : TB (s1 σ q k x) := by
  intro i hi
  rw [s1_off (fun e => hq e.1.symm)]
  exact h i hi
theorem mask1_go {d n : Nat} {x1 x2 x3 x4 x5 x6 x7 : Int32} {σ0 : Sg} {Q : Option Value → Sg → Prop} (h0 : FT x2 x3 x4 x5 σ0) (hn : 1 ≤ n) (h7 : x7.toInt = (n : Int)) (hm0 : pop (σ0.1 139 0) = n ∧ 0 ≤ (σ0.1 139 0).toInt ∧ (σ0.1 139 0).toInt ≤ x2.toInt) (K : ∀ σ' : Sg, Gl mdT4 σ0 σ' → TB σ' → σ'.1 139 0 = σ0.1 139 0 → Rn PRG (d + 1 + 1 + 1 + 1 + 1) 280 80 [(0, .ref 97), (1, .int x1), (2, .int x2), (3, .int x3), (4, .int x4), (5, .int x5), (6, .int x6), (7, .int x7)] [] (s1 σ' 139 0 ((σ'.1 139 0) + (1 : Int32))) Q) : ∀ (m : Nat) (σ : Sg), Gl mdT4 σ0 σ → TB σ → σ.1 139 0 = σ0.1 139 0 → (16 - (σ.1 139 1).toInt).toNat ≤ m → Rn PRG (d + 1 + 1 + 1 + 1 + 1) 280 114 [(0, .ref 97), (1, .int x1), (2, .int x2), (3, .int x3), (4, .int x4), (5, .int x5), (6, .int x6), (7, .int x7)] [] σ Q := by
  intro m
  induction m with
  | zero =>
    intro σ hG hT h2 hm
    exact w_280_114 σ x1 x2 x3 x4 x5 x6 x7 ⟨fun _ => K σ hG hT h2, fun c => absurd (by rw [Int32.lt_iff_toInt_lt]; have := h0.b; omega) c⟩
  | succ m ih =>
    intro σ hG hT h2 hm
    refine w_280_114 σ x1 x2 x3 x4 x5 x6 x7 ⟨fun _ => K σ hG hT h2, fun c => ⟨_, bits_ok, fun w2 σ1 hq => ?_⟩⟩
    obtain ⟨rfl, hw⟩ := hq
    rw [Int32.lt_iff_toInt_lt] at c
    have h1 := h0.keep hG
    have hb := h1.b
    have ht1 := tyA hG.1 (q := 139) (κ := 95) (k := 1) (a := 0) (b := 3) (lo := 0) (hi := 16) rfl rfl (by omega) (by omega)
    have next : ∀ σ' : Sg, Gl mdT4 σ0 σ' → TB σ' → σ'.1 139 0 = σ0.1 139 0 → σ'.1 139 1 = σ1.1 139 1 → Rn PRG (d + 1 + 1 + 1 + 1 + 1) 280 114 [(0, .ref 97), (1, .int x1), (2, .int x2), (3, .int x3), (4, .int x4), (5, .int x5), (6, .int x6), (7, .int x7)] [] (s1 σ' 139 1 ((σ'.1 139 1) + (1 : Int32))) Q := by
      intro σ' a1 a2 a3 a4
      have e : ((σ'.1 139 1) + (1 : Int32)).toInt = (σ1.1 139 1).toInt + 1 := by
        rw [a4]
        exact add_lit rfl (by decide) (by unfold FL; omega) (by unfold FH; omega)
      exact ih _ (wrG (κ := 95) (a := 1) (b := 1) (vl := 0) (vh := 16) rfl rfl a1 rfl (Nat.le_refl _) (Nat.le_refl _) (by rw [e]; omega) (by rw [e]; omega)) (TB_off a2 (by decide)) (by rw [s1_off (by omega)]; exact a3) (by rw [s1_on, e]; omega)
    refine ⟨fun he => ?_, fun _ => next σ1 hG hT h2 rfl⟩
    have hpop : pop (σ1.1 139 1) = n := by
      rw [he] at hw
      omega
    have ha := h1.a
    have hFR : FR n x4 x5 x7 σ1 := ⟨hG.1, h1.pk, hn, h7, h1.ly, by rw [h2]; exact ⟨hm0.1, hm0.2.1, by omega⟩, ⟨hpop, ht1.1, by omega⟩, h1.c, h1.d⟩
    refine ⟨_, fillRest_OK hFR hT, fun σ3 hq => ?_⟩
    obtain ⟨q1, q2⟩ := hq
    have f0 : σ3.1 139 0 = σ1.1 139 0 := q1.get (q := 139) (κ := 95) rfl rfl
    have f1 : σ3.1 139 1 = σ1.1 139 1 := q1.get (q := 139) (κ := 95) rfl rfl
    exact next σ3 (hG.trans q1 rfl) q2 (by rw [f0]; exact h2) f1
theorem mask0_go {d n : Nat} {x1 x2 x3 x4 x5 x6 x7 : Int32} {σ0 : Sg} {Q : Option Value → Sg → Prop} (h0 : FT x2 x3 x4 x5 σ0) (hn : 1 ≤ n) (h7 : x7.toInt = (n : Int)) (K : ∀ σ' : Sg, Gl mdT4 σ0 σ' → TB σ' → Rn PRG (d + 1 + 1 + 1 + 1 + 1) 280 67 [(0, .ref 97), (1, .int x1), (2, .int x2), (3, .int x3), (4, .int x4), (5, .int x5), (6, .int x6), (7, .int (x7 + (1 : Int32)))] [] σ' Q) : ∀ (m : Nat) (σ : Sg), Gl mdT4 σ0 σ → TB σ → (16 - (σ.1 139 0).toInt).toNat ≤ m → Rn PRG (d + 1 + 1 + 1 + 1 + 1) 280 80 [(0, .ref 97), (1, .int x1), (2, .int x2), (3, .int x3), (4, .int x4), (5, .int x5), (6, .int x6), (7, .int x7)] [] σ Q := by
  intro m
  induction m with
  | zero =>
    intro σ hG hT hm
    exact w_280_80 σ x1 x2 x3 x4 x5 x6 x7 ⟨fun _ => K σ hG hT, fun c => absurd (by rw [Int32.lt_iff_toInt_lt]; have := h0.a; omega) c⟩
  | succ m ih =>
    intro σ hG hT hm
    refine w_280_80 σ x1 x2 x3 x4 x5 x6 x7 ⟨fun _ => K σ hG hT, fun c => ⟨_, bits_ok, fun w2 σ1 hq => ?_⟩⟩
    obtain ⟨rfl, hw⟩ := hq
    rw [Int32.lt_iff_toInt_lt] at c
    have h1 := h0.keep hG
    have ha := h1.a
    have ht0 := tyA hG.1 (q := 139) (κ := 95) (k := 0) (a := 0) (b := 3) (lo := 0) (hi := 16) rfl rfl (by omega) (by omega)
    have next : ∀ σ' : Sg, Gl mdT4 σ0 σ' → TB σ' → σ'.1 139 0 = σ1.1 139 0 → Rn PRG (d + 1 + 1 + 1 + 1 + 1) 280 80 [(0, .ref 97), (1, .int x1), (2, .int x2), (3, .int x3), (4, .int x4), (5, .int x5), (6, .int x6), (7, .int x7)] [] (s1 σ' 139 0 ((σ'.1 139 0) + (1 : Int32))) Q := by
      intro σ' a1 a2 a3
      have e : ((σ'.1 139 0) + (1 : Int32)).toInt = (σ1.1 139 0).toInt + 1 := by
        rw [a3]
        exact add_lit rfl (by decide) (by unfold FL; omega) (by unfold FH; omega)
      exact ih _ (wrG (κ := 95) (a := 0) (b := 0) (vl := 0) (vh := 16) rfl rfl a1 rfl (Nat.le_refl _) (Nat.le_refl _) (by rw [e]; omega) (by rw [e]; omega)) (TB_off a2 (by decide)) (by rw [s1_on, e]; omega)
    refine ⟨fun he => ?_, fun _ => next σ1 hG hT rfl⟩
    have hpop : pop (σ1.1 139 0) = n := by
      rw [he] at hw
      omega
    have g1 : Gl mdT4 σ1 (s1 σ1 139 1 0) := wrG (κ := 95) (a := 1) (b := 1) (vl := 0) (vh := 0) rfl rfl (Gl.refl hG.1) rfl (Nat.le_refl _) (Nat.le_refl _) (by decide) (by decide)
    have e0 : (s1 σ1 139 1 0).1 139 0 = σ1.1 139 0 := s1_off (by omega)
    exact mask1_go (σ0 := s1 σ1 139 1 0) (h1.keep g1) hn h7 (by rw [e0]; exact ⟨hpop, ht0.1, by omega⟩) (fun σ' a1 a2 a3 => next σ' ((hG.trans g1 rfl).trans a1 rfl) a2 (by rw [a3, e0])) _ (s1 σ1 139 1 0) (Gl.refl g1.1) (TB_off hT (by decide)) rfl (Nat.le_refl _)
theorem fill_n {d : Nat} {x1 x2 x3 x4 x5 x6 : Int32} {σ0 : Sg} (h0 : FT x2 x3 x4 x5 σ0) (h1 : x1.toInt ≤ 15) (h6 : 0 ≤ x6.toInt ∧ x6.toInt ≤ 4) : ∀ (m n : Nat) (x7 : Int32) (σ : Sg), n + m = 17 → 1 ≤ n → x7.toInt = (n : Int) → Gl mdT4 σ0 σ → TB σ → Rn PRG (d + 1 + 1 + 1 + 1 + 1) 280 67 [(0, .ref 97), (1, .int x1), (2, .int x2), (3, .int x3), (4, .int x4), (5, .int x5), (6, .int x6), (7, .int x7)] [] σ (fun v σ' => v = none ∧ Gl mdTab σ0 σ' ∧ TB σ' ∧ σ'.1 97 69 = x6 ∧ σ'.1 139 0 = x2 ∧ σ'.1 139 1 = x3 ∧ σ'.1 139 2 = x4 ∧ σ'.1 139 3 = x5) := by
  have fin : ∀ σ : Sg, Gl mdT4 σ0 σ → TB σ → (fun (v : Option Value) (σ' : Sg) => v = none ∧ Gl mdTab σ0 σ' ∧ TB σ' ∧ σ'.1 97 69 = x6 ∧ σ'.1 139 0 = x2 ∧ σ'.1 139 1 = x3 ∧ σ'.1 139 2 = x4 ∧ σ'.1 139 3 = x5) none (s1 (s1 (s1 (s1 (s1 σ 97 69 x6) 139 0 x2) 139 1 x3) 139 2 x4) 139 3 x5) := by
    intro σ hG hT
    have ha := h0.a
    have hb := h0.b
    have hc := h0.c
    have hd := h0.d
    have g0 : Gl mdTab σ0 (s1 σ 97 69 x6) := wrG (κ := 12) (a := 69) (b := 69) (vl := 0) (vh := 4) rfl rfl (hG.mono rfl) rfl (Nat.le_refl _) (Nat.le_refl _) h6.1 h6.2
    have g1 := wrG (x := x2) (q := 139) (k := 0) (κ := 95) (a := 0) (b := 3) (vl := 0) (vh := 15) rfl rfl g0 rfl (by omega) (by omega) ha.1 ha.2.1
    have g2 := wrG (x := x3) (q := 139) (k := 1) (κ := 95) (a := 0) (b := 3) (vl := 0) (vh := 15) rfl rfl g1 rfl (by omega) (by omega) hb.1 hb.2.1
    have g3 := wrG (x := x4) (q := 139) (k := 2) (κ := 95) (a := 0) (b := 3) (vl := 0) (vh := 15) rfl rfl g2 rfl (by omega) (by omega) hc.1 hc.2.1
    have g4 := wrG (x := x5) (q := 139) (k := 3) (κ := 95) (a := 0) (b := 3) (vl := 0) (vh := 15) rfl rfl g3 rfl (by omega) (by omega) hd.1 hd.2.1
    exact ⟨rfl, g4, TB_off (TB_off (TB_off (TB_off (TB_off hT (by decide)) (by decide)) (by decide)) (by decide)) (by decide), rfl, rfl, rfl, rfl, rfl⟩
  intro m
  induction m with
  | zero =>
    intro n x7 σ hn hn1 h7 hG hT
    exact w_280_67 σ x1 x2 x3 x4 x5 x6 x7 ⟨fun _ => fin σ hG hT, fun c => absurd (by rw [Int32.lt_iff_toInt_lt]; omega) c⟩
  | succ m ih =>
    intro n x7 σ hn hn1 h7 hG hT
    refine w_280_67 σ x1 x2 x3 x4 x5 x6 x7 ⟨fun _ => fin σ hG hT, fun c => ?_⟩
    have hx7 : (x7 + (1 : Int32)).toInt = ((n + 1 : Nat) : Int) := by
      rw [add_lit (k := 1) h7 (by decide) (by unfold FL; omega) (by unfold FH; omega)]; push_cast; rfl
    have g1 : Gl mdT4 σ (s1 σ 139 0 0) := wrG (κ := 95) (a := 0) (b := 0) (vl := 0) (vh := 0) rfl rfl (Gl.refl hG.1) rfl (Nat.le_refl _) (Nat.le_refl _) (by decide) (by decide)
    exact mask0_go (σ0 := s1 σ 139 0 0) ((h0.keep hG).keep g1) hn1 h7 (fun σ' a1 a2 => ih (n + 1) _ σ' (by omega) (by omega) hx7 ((hG.trans g1 rfl).trans a1 rfl) a2) _ (s1 σ 139 0 0) (Gl.refl g1.1) (TB_off hT (by decide)) (Nat.le_refl _)
theorem fill_0 {d : Nat} {x1 x2 x3 x4 x5 x6 : Int32} {σ0 : Sg} (h0 : FT x2 x3 x4 x5 σ0) (h1 : x1.toInt ≤ 15) (h6 : 0 ≤ x6.toInt ∧ x6.toInt ≤ 4) : ∀ (m k : Nat) (x7 : Int32) (σ : Sg), k + m = 4 → x7.toInt = (k : Int) → Gl mdT4 σ0 σ → TB σ → Rn PRG (d + 1 + 1 + 1 + 1 + 1) 280 44 [(0, .ref 97), (1, .int x1), (2, .int x2), (3, .int x3), (4, .int x4), (5, .int x5), (6, .int x6), (7, .int x7)] [] σ (fun v σ' => v = none ∧ Gl mdTab σ0 σ' ∧ TB σ' ∧ σ'.1 97 69 = x6 ∧ σ'.1 139 0 = x2 ∧ σ'.1 139 1 = x3 ∧ σ'.1 139 2 = x4 ∧ σ'.1 139 3 = x5) := by
  have four : (4 : Int32).toInt = 4 := by decide
  intro m
  induction m with
  | zero =>
    intro k x7 σ hk h7 hG hT
    exact w_280_44 σ x1 x2 x3 x4 x5 x6 x7 ⟨fun _ => fill_n h0 h1 h6 16 1 1 σ rfl (by omega) (by decide) hG hT, fun c => absurd (by rw [Int32.le_iff_toInt_le]; omega) c⟩
  | succ m ih =>
    intro k x7 σ hk h7 hG hT
    refine w_280_44 σ x1 x2 x3 x4 x5 x6 x7 ⟨fun _ => fill_n h0 h1 h6 16 1 1 σ rfl (by omega) (by decide) hG hT, fun c => ⟨inR_ok (by omega) (by omega), ?_⟩⟩
    clear c
    have hx7 : (x7 + (1 : Int32)).toInt = ((k + 1 : Nat) : Int) := by
      rw [add_lit (k := 1) h7 (by decide) (by unfold FL; omega) (by unfold FH; omega)]; push_cast; rfl
    have z : (vp_nar .byte (0 : Int32)).toInt = 0 := by decide
    rw [cn_of h7]
    refine ih (k + 1) _ _ (by omega) hx7 (wrG (κ := 92) (a := 0) (b := 262143) (vl := 0) (vh := 0) rfl rfl hG rfl (Nat.zero_le _) (by omega) (by rw [z]; omega) (by rw [z]; omega)) (TB_s1 hT (by rw [z]; omega) (by rw [z]; omega))
/-- the masks are full: as many low bits as cards -/
def mskF (σ : Sg) : Prop := ∀ p : Nat, p ≤ 3 → 0 ≤ (σ.1 139 p).toInt ∧ (σ.1 139 p).toInt ≤ 15 ∧ (σ.1 139 p).toInt < 2 ^ (σ.1 137 p).toInt.toNat
theorem fillTable_OK {d : Nat} {x1 : Int32} {σ : Sg} (ht : typed TYP σ) (hp : pkOK σ) (hT : TB σ) (hm : mskF σ) (h1 : x1.toInt ≤ 15) : OkV PRG (d + 1 + 1 + 1 + 1 + 1) 280 [.ref 97, .int x1] σ (fun σ' => Gl mdTab σ σ' ∧ TB σ' ∧ σ'.1 97 69 = σ.1 97 69 ∧ ∀ p, p ≤ 3 → σ'.1 139 p = σ.1 139 p) := by
  have hy := tyF ht (q := 97) (κ := 12) (k := 69) (lo := 0) (hi := 4) rfl rfl
  have g : Gl mdTab σ (s1 σ 97 69 0) := wrG (κ := 12) (a := 69) (b := 69) (vl := 0) (vh := 0) rfl rfl (Gl.refl ht) rfl (Nat.le_refl _) (Nat.le_refl _) (by decide) (by decide)
  have hF : FT (σ.1 139 0) (σ.1 139 1) (σ.1 139 2) (σ.1 139 3) (s1 σ 97 69 0) := ⟨g.1, hp, rfl, hm 0 (by omega), hm 1 (by omega), hm 2 (by omega), hm 3 (by omega)⟩
  refine ⟨M_280, rfl, Nat.le_of_ble_eq_true rfl, w_280_0 σ x1 ((fill_0 hF h1 hy 4 0 0 _ rfl rfl (Gl.refl g.1) (TB_off hT (by decide))).mono (fun v σ' h => ?_))⟩
  obtain ⟨e0, a1, a2, a3, a4, a5, a6, a7⟩ := h
  refine ⟨e0, g.trans a1 rfl, a2, a3, fun p hp => ?_⟩
  have : p = 0 ∨ p = 1 ∨ p = 2 ∨ p = 3 := by omega
  rcases this with rfl | rfl | rfl | rfl
  · exact a4
  · exact a5
  · exact a6
  · exact a7
