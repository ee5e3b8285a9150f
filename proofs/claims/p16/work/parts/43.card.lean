/-! the search of a trick: what must hold -/
set_option maxRecDepth 100000 in
theorem w_212_0 {d : Nat} {Q : Option Value → Sg → Prop} (σ : Sg) (x1 : Int32) (h : (inR (σ.1 97 18) 2 = true ∧ (¬ (σ.1 107 (σ.1 97 18).toNatClampNeg) = 0 ∧ Q (some (.int (x1 / (σ.1 107 (σ.1 97 18).toNatClampNeg)))) σ))) : Rn PRG d 212 0 [(0, .ref 97), (1, .int x1)] [] σ Q := by
  have hM : PRG[212]? = some M_212 := rfl
  refine Rn.seg (pc' := 9) (ls' := [(0, .ref 97), (1, .int x1)]) (st' := [.int (σ.1 97 18), .ref 107, .int x1]) (σ' := σ) hM 5 rfl ?_
  refine Rn.iald hM rfl rfl h.1 ?_
  refine Rn.seg (pc' := 10) (ls' := [(0, .ref 97), (1, .int x1)]) (st' := [.int (σ.1 107 (σ.1 97 18).toNatClampNeg), .int x1]) (σ' := σ) hM 0 rfl ?_
  refine Rn.dv hM rfl h.2.1 ?_
  refine Rn.seg (pc' := 11) (ls' := [(0, .ref 97), (1, .int x1)]) (st' := [.int (x1 / (σ.1 107 (σ.1 97 18).toNatClampNeg))]) (σ' := σ) hM 0 rfl ?_
  exact Rn.ret hM rfl rfl h.2.2
set_option maxRecDepth 100000 in
theorem w_214_0 {d : Nat} {Q : Option Value → Sg → Prop} (σ : Sg) (h : (inR (σ.1 97 18) 2 = true ∧ (inR (σ.1 97 18) 2 = true ∧ (((σ.1 106 (σ.1 97 18).toNatClampNeg) ≤ (σ.1 108 (σ.1 97 18).toNatClampNeg) → Q (some (.int (-1 : Int32))) σ) ∧ (¬ (σ.1 106 (σ.1 97 18).toNatClampNeg) ≤ (σ.1 108 (σ.1 97 18).toNatClampNeg) → (inR (σ.1 97 18) 2 = true ∧ Q (some (.int (σ.1 108 (σ.1 97 18).toNatClampNeg))) σ)))))) : Rn PRG d 214 0 [(0, .ref 97)] [] σ Q := by
  have hM : PRG[214]? = some M_214 := rfl
  refine Rn.seg (pc' := 8) (ls' := [(0, .ref 97)]) (st' := [.int (σ.1 97 18), .ref 108]) (σ' := σ) hM 4 rfl ?_
  refine Rn.iald hM rfl rfl h.1 ?_
  refine Rn.seg (pc' := 17) (ls' := [(0, .ref 97)]) (st' := [.int (σ.1 97 18), .ref 106, .int (σ.1 108 (σ.1 97 18).toNatClampNeg)]) (σ' := σ) hM 4 rfl ?_
  refine Rn.iald hM rfl rfl h.2.1 ?_
  refine Rn.br (c := (σ.1 106 (σ.1 97 18).toNatClampNeg) ≤ (σ.1 108 (σ.1 97 18).toNatClampNeg)) (a := 33) (b := 21) (ls' := [(0, .ref 97)]) (st' := []) (σ' := σ) hM 1 rfl (fun c => ?_) (fun c => ?_)
  · replace h := h.2.2.1 c
    refine Rn.seg (pc' := 34) (ls' := [(0, .ref 97)]) (st' := [.int (-1 : Int32)]) (σ' := σ) hM 1 rfl ?_
    exact Rn.ret hM rfl rfl h
  · replace h := h.2.2.2 c
    refine Rn.seg (pc' := 29) (ls' := [(0, .ref 97)]) (st' := [.int (σ.1 97 18), .ref 108]) (σ' := σ) hM 4 rfl ?_
    refine Rn.iald hM rfl rfl h.1 ?_
    refine Rn.seg (pc' := 34) (ls' := [(0, .ref 97)]) (st' := [.int (σ.1 108 (σ.1 97 18).toNatClampNeg)]) (σ' := σ) hM 1 rfl ?_
    exact Rn.ret hM rfl rfl h.2
set_option maxRecDepth 100000 in
theorem w_228_0 {d : Nat} {Q : Option Value → Sg → Prop} (σ : Sg) (x1 x2 : Int32) (h : (∃ Qc : Int32 → Sg → Prop, OkI PRG d 212 [.ref 97, .int x1] σ Qc ∧ ∀ w2 σ1, Qc w2 σ1 → (∃ Qc : Int32 → Sg → Prop, OkI PRG d 212 [.ref 97, .int x2] σ1 Qc ∧ ∀ w4 σ3, Qc w4 σ3 → ((w2 = w4 → ((x1 ≤ x2 → Q (some (.int (0 : Int32))) σ3) ∧ (¬ x1 ≤ x2 → Q (some (.int (1 : Int32))) σ3))) ∧ (¬ w2 = w4 → (∃ Qc : Int32 → Sg → Prop, OkI PRG d 212 [.ref 97, .int x1] σ3 Qc ∧ ∀ w6 σ5, Qc w6 σ5 → (∃ Qc : Int32 → Sg → Prop, OkI PRG d 214 [.ref 97] σ5 Qc ∧ ∀ w8 σ7, Qc w8 σ7 → ((w6 = w8 → Q (some (.int (1 : Int32))) σ7) ∧ (¬ w6 = w8 → Q (some (.int (0 : Int32))) σ7))))))))) : Rn PRG (d + 1) 228 0 [(0, .ref 97), (1, .int x1), (2, .int x2)] [] σ Q := by
  have hM : PRG[228]? = some M_228 := rfl
  refine Rn.seg (pc' := 2) (ls' := [(0, .ref 97), (1, .int x1), (2, .int x2)]) (st' := [.int x1, .ref 97]) (σ' := σ) hM 2 rfl ?_
  obtain ⟨Qc, hq, h⟩ := h
  refine Rn.cI hM rfl rfl (by decide) hq (fun w2 σ1 hw => ?_)
  replace h := h w2 σ1 hw
  refine Rn.seg (pc' := 7) (ls' := [(0, .ref 97), (1, .int x1), (2, .int x2)]) (st' := [.int x2, .ref 97, .int w2]) (σ' := σ1) hM 2 rfl ?_
  obtain ⟨Qc, hq, h⟩ := h
  refine Rn.cI hM rfl rfl (by decide) hq (fun w4 σ3 hw => ?_)
  replace h := h w4 σ3 hw
  refine Rn.brN (c := w2 = w4) (a := 24) (b := 13) (ls' := [(0, .ref 97), (1, .int x1), (2, .int x2)]) (st' := []) (σ' := σ3) hM 1 rfl (fun c => ?_) (fun c => ?_)
  · replace h := h.2 c
    refine Rn.seg (pc' := 26) (ls' := [(0, .ref 97), (1, .int x1), (2, .int x2)]) (st' := [.int x1, .ref 97]) (σ' := σ3) hM 2 rfl ?_
    obtain ⟨Qc, hq, h⟩ := h
    refine Rn.cI hM rfl rfl (by decide) hq (fun w6 σ5 hw => ?_)
    replace h := h w6 σ5 hw
    refine Rn.seg (pc' := 30) (ls' := [(0, .ref 97), (1, .int x1), (2, .int x2)]) (st' := [.ref 97, .int w6]) (σ' := σ5) hM 1 rfl ?_
    obtain ⟨Qc, hq, h⟩ := h
    refine Rn.cI hM rfl rfl (by decide) hq (fun w8 σ7 hw => ?_)
    replace h := h w8 σ7 hw
    refine Rn.brN (c := w6 = w8) (a := 40) (b := 36) (ls' := [(0, .ref 97), (1, .int x1), (2, .int x2)]) (st' := []) (σ' := σ7) hM 1 rfl (fun c => ?_) (fun c => ?_)
    · replace h := h.2 c
      refine Rn.seg (pc' := 41) (ls' := [(0, .ref 97), (1, .int x1), (2, .int x2)]) (st' := [.int (0 : Int32)]) (σ' := σ7) hM 1 rfl ?_
      exact Rn.ret hM rfl rfl h
    · replace h := h.1 c
      refine Rn.seg (pc' := 41) (ls' := [(0, .ref 97), (1, .int x1), (2, .int x2)]) (st' := [.int (1 : Int32)]) (σ' := σ7) hM 2 rfl ?_
      exact Rn.ret hM rfl rfl h
  · replace h := h.1 c
    refine Rn.br (c := x1 ≤ x2) (a := 22) (b := 18) (ls' := [(0, .ref 97), (1, .int x1), (2, .int x2)]) (st' := []) (σ' := σ3) hM 3 rfl (fun c => ?_) (fun c => ?_)
    · replace h := h.1 c
      refine Rn.seg (pc' := 23) (ls' := [(0, .ref 97), (1, .int x1), (2, .int x2)]) (st' := [.int (0 : Int32)]) (σ' := σ3) hM 1 rfl ?_
      exact Rn.ret hM rfl rfl h
    · replace h := h.2 c
      refine Rn.seg (pc' := 23) (ls' := [(0, .ref 97), (1, .int x1), (2, .int x2)]) (st' := [.int (1 : Int32)]) (σ' := σ3) hM 2 rfl ?_
      exact Rn.ret hM rfl rfl h
set_option maxRecDepth 100000 in
theorem w_273_0 {d : Nat} {Q : Option Value → Sg → Prop} (σ : Sg) (x0 x1 x2 x3 x4 : Int32) (h : Q (some (.int (x0 + ((4 : Int32) * (((x1 + ((16 : Int32) * x2)) + ((256 : Int32) * x3)) + ((4096 : Int32) * x4)))))) σ) : Rn PRG d 273 0 [(0, .int x0), (1, .int x1), (2, .int x2), (3, .int x3), (4, .int x4)] [] σ Q := by
  have hM : PRG[273]? = some M_273 := rfl
  refine Rn.seg (pc' := 23) (ls' := [(0, .int x0), (1, .int x1), (2, .int x2), (3, .int x3), (4, .int x4)]) (st' := [.int (x0 + ((4 : Int32) * (((x1 + ((16 : Int32) * x2)) + ((256 : Int32) * x3)) + ((4096 : Int32) * x4))))]) (σ' := σ) hM 17 rfl ?_
  exact Rn.ret hM rfl rfl h
set_option maxRecDepth 100000 in
theorem w_274_0 {d : Nat} {Q : Option Value → Sg → Prop} (σ : Sg) (x1 x2 : Int32) (h : (((σ.1 97 69) ≤ x1 → ((x1 ≤ 0 → Rn PRG (d + 1) 274 72 [(0, .ref 97), (1, .int x1), (3, .int ((x2 + x1) - (x2 + x1) / (4 : Int32) * (4 : Int32))), (4, .int (-1 : Int32)), (5, .int (0 : Int32)), (6, .int (0 : Int32))] [] σ Q) ∧ (¬ x1 ≤ 0 → (∃ Qc : Int32 → Sg → Prop, OkI PRG d 212 [.ref 97, .int (σ.1 141 0)] σ Qc ∧ ∀ w2 σ1, Qc w2 σ1 → Rn PRG (d + 1) 274 72 [(0, .ref 97), (1, .int x1), (3, .int ((x2 + x1) - (x2 + x1) / (4 : Int32) * (4 : Int32))), (4, .int w2), (5, .int (0 : Int32)), (6, .int (0 : Int32))] [] σ1 Q)))) ∧ (¬ (σ.1 97 69) ≤ x1 → (inR x1 4 = true ∧ (((σ.1 142 x1.toNatClampNeg) = 0 → Q (some (.int (0 : Int32))) σ) ∧ (¬ (σ.1 142 x1.toNatClampNeg) = 0 → (inR x1 4 = true ∧ (inR x1 4 = true ∧ (inR x1 4 = true ∧ Q (some (.int (1 : Int32))) (s1 (s1 σ 142 x1.toNatClampNeg (0 : Int32)) 141 x1.toNatClampNeg (σ.1 140 x1.toNatClampNeg))))))))))) : Rn PRG (d + 1) 274 0 [(0, .ref 97), (1, .int x1), (2, .int x2)] [] σ Q := by
  have hM : PRG[274]? = some M_274 := rfl
  refine Rn.br (c := (σ.1 97 69) ≤ x1) (a := 40) (b := 8) (ls' := [(0, .ref 97), (1, .int x1), (2, .int x2)]) (st' := []) (σ' := σ) hM 4 rfl (fun c => ?_) (fun c => ?_)
  · replace h := h.1 c
    refine Rn.br (c := x1 ≤ 0) (a := 63) (b := 50) (ls' := [(3, .int ((x2 + x1) - (x2 + x1) / (4 : Int32) * (4 : Int32))), (0, .ref 97), (1, .int x1), (2, .int x2)]) (st' := []) (σ' := σ) hM 8 rfl (fun c => ?_) (fun c => ?_)
    · replace h := h.1 c
      refine Rn.seg (pc' := 72) (ls' := [(6, .int (0 : Int32)), (5, .int (0 : Int32)), (4, .int (-1 : Int32)), (3, .int ((x2 + x1) - (x2 + x1) / (4 : Int32) * (4 : Int32))), (0, .ref 97), (1, .int x1), (2, .int x2)]) (st' := []) (σ' := σ) hM 6 rfl ?_
      exact Rn.sub h (subL_cons rfl (subL_cons rfl (subL_cons rfl (subL_cons rfl (subL_cons rfl (subL_cons rfl subL_nil)))))) (show ndL _ from (by decide : List.Nodup ([0, 1, 3, 4, 5, 6] : List Nat)))
    · replace h := h.2 c
      refine Rn.seg (pc' := 57) (ls' := [(3, .int ((x2 + x1) - (x2 + x1) / (4 : Int32) * (4 : Int32))), (0, .ref 97), (1, .int x1), (2, .int x2)]) (st' := [.int (σ.1 141 0), .ref 97]) (σ' := σ) hM 5 rfl ?_
      obtain ⟨Qc, hq, h⟩ := h
      refine Rn.cI hM rfl rfl (by decide) hq (fun w2 σ1 hw => ?_)
      replace h := h w2 σ1 hw
      refine Rn.seg (pc' := 72) (ls' := [(6, .int (0 : Int32)), (5, .int (0 : Int32)), (4, .int w2), (3, .int ((x2 + x1) - (x2 + x1) / (4 : Int32) * (4 : Int32))), (0, .ref 97), (1, .int x1), (2, .int x2)]) (st' := []) (σ' := σ1) hM 6 rfl ?_
      exact Rn.sub h (subL_cons rfl (subL_cons rfl (subL_cons rfl (subL_cons rfl (subL_cons rfl (subL_cons rfl subL_nil)))))) (show ndL _ from (by decide : List.Nodup ([0, 1, 3, 4, 5, 6] : List Nat)))
  · replace h := h.2 c
    refine Rn.seg (pc' := 13) (ls' := [(0, .ref 97), (1, .int x1), (2, .int x2)]) (st' := [.int x1, .ref 142]) (σ' := σ) hM 3 rfl ?_
    refine Rn.iald hM rfl rfl h.1 ?_
    refine Rn.brN (c := (σ.1 142 x1.toNatClampNeg) = 0) (a := 19) (b := 17) (ls' := [(0, .ref 97), (1, .int x1), (2, .int x2)]) (st' := []) (σ' := σ) hM 1 rfl (fun c => ?_) (fun c => ?_)
    · replace h := h.2.2 c
      refine Rn.seg (pc' := 25) (ls' := [(0, .ref 97), (1, .int x1), (2, .int x2)]) (st' := [.int (0 : Int32), .int x1, .ref 142]) (σ' := σ) hM 4 rfl ?_
      refine Rn.iast hM rfl rfl h.1 ?_
      refine Rn.seg (pc' := 36) (ls' := [(0, .ref 97), (1, .int x1), (2, .int x2)]) (st' := [.int x1, .ref 140, .int x1, .ref 141]) (σ' := (s1 σ 142 x1.toNatClampNeg (0 : Int32))) hM 6 rfl ?_
      refine Rn.iald hM rfl rfl h.2.1 ?_
      refine Rn.seg (pc' := 37) (ls' := [(0, .ref 97), (1, .int x1), (2, .int x2)]) (st' := [.int (σ.1 140 x1.toNatClampNeg), .int x1, .ref 141]) (σ' := (s1 σ 142 x1.toNatClampNeg (0 : Int32))) hM 0 rfl ?_
      refine Rn.iast hM rfl rfl h.2.2.1 ?_
      refine Rn.seg (pc' := 39) (ls' := [(0, .ref 97), (1, .int x1), (2, .int x2)]) (st' := [.int (1 : Int32)]) (σ' := (s1 (s1 σ 142 x1.toNatClampNeg (0 : Int32)) 141 x1.toNatClampNeg (σ.1 140 x1.toNatClampNeg))) hM 1 rfl ?_
      exact Rn.ret hM rfl rfl h.2.2.2
    · replace h := h.2.1 c
      refine Rn.seg (pc' := 18) (ls' := [(0, .ref 97), (1, .int x1), (2, .int x2)]) (st' := [.int (0 : Int32)]) (σ' := σ) hM 1 rfl ?_
      exact Rn.ret hM rfl rfl h
set_option maxRecDepth 100000 in
theorem w_274_72 {d : Nat} {Q : Option Value → Sg → Prop} (σ : Sg) (x1 x3 x4 x5 x6 : Int32) (h : (inR x3 4 = true ∧ (((σ.1 137 x3.toNatClampNeg) ≤ x6 → (inR x1 4 = true ∧ Rn PRG (d + 1) 274 137 [(0, .ref 97), (1, .int x1), (3, .int x3), (4, .int x4), (5, .int x5), (6, .int ((σ.1 142 x1.toNatClampNeg) + (1 : Int32)))] [] σ Q)) ∧ (¬ (σ.1 137 x3.toNatClampNeg) ≤ x6 → (inR x3 4 = true ∧ (((((σ.1 139 x3.toNatClampNeg) >>> (x6 &&& 31)) &&& (1 : Int32)) = (1 : Int32) → (inR (((4 : Int32) * x3) + x6) 16 = true ∧ (∃ Qc : Int32 → Sg → Prop, OkI PRG d 212 [.ref 97, .int (σ.1 138 (((4 : Int32) * x3) + x6).toNatClampNeg)] σ Qc ∧ ∀ w2 σ1, Qc w2 σ1 → ((w2 = x4 → Rn PRG (d + 1) 274 72 [(0, .ref 97), (1, .int x1), (3, .int x3), (4, .int x4), (5, .int (1 : Int32)), (6, .int (x6 + (1 : Int32)))] [] σ1 Q) ∧ (¬ w2 = x4 → Rn PRG (d + 1) 274 72 [(0, .ref 97), (1, .int x1), (3, .int x3), (4, .int x4), (5, .int x5), (6, .int (x6 + (1 : Int32)))] [] σ1 Q))))) ∧ (¬ (((σ.1 139 x3.toNatClampNeg) >>> (x6 &&& 31)) &&& (1 : Int32)) = (1 : Int32) → Rn PRG (d + 1) 274 72 [(0, .ref 97), (1, .int x1), (3, .int x3), (4, .int x4), (5, .int x5), (6, .int (x6 + (1 : Int32)))] [] σ Q))))))) : Rn PRG (d + 1) 274 72 [(0, .ref 97), (1, .int x1), (3, .int x3), (4, .int x4), (5, .int x5), (6, .int x6)] [] σ Q := by
  have hM : PRG[274]? = some M_274 := rfl
  refine Rn.seg (pc' := 79) (ls' := [(0, .ref 97), (1, .int x1), (3, .int x3), (4, .int x4), (5, .int x5), (6, .int x6)]) (st' := [.int x3, .ref 137, .int x6]) (σ' := σ) hM 4 rfl ?_
  refine Rn.iald hM rfl rfl h.1 ?_
  refine Rn.br (c := (σ.1 137 x3.toNatClampNeg) ≤ x6) (a := 127) (b := 83) (ls' := [(0, .ref 97), (1, .int x1), (3, .int x3), (4, .int x4), (5, .int x5), (6, .int x6)]) (st' := []) (σ' := σ) hM 1 rfl (fun c => ?_) (fun c => ?_)
  · replace h := h.2.1 c
    refine Rn.seg (pc' := 132) (ls' := [(0, .ref 97), (1, .int x1), (3, .int x3), (4, .int x4), (5, .int x5), (6, .int x6)]) (st' := [.int x1, .ref 142]) (σ' := σ) hM 3 rfl ?_
    refine Rn.iald hM rfl rfl h.1 ?_
    refine Rn.seg (pc' := 137) (ls' := [(6, .int ((σ.1 142 x1.toNatClampNeg) + (1 : Int32))), (0, .ref 97), (1, .int x1), (3, .int x3), (4, .int x4), (5, .int x5)]) (st' := []) (σ' := σ) hM 3 rfl ?_
    exact Rn.sub h.2 (subL_cons rfl (subL_cons rfl (subL_cons rfl (subL_cons rfl (subL_cons rfl (subL_cons rfl subL_nil)))))) (show ndL _ from (by decide : List.Nodup ([0, 1, 3, 4, 5, 6] : List Nat)))
  · replace h := h.2.2 c
    refine Rn.seg (pc' := 88) (ls' := [(0, .ref 97), (1, .int x1), (3, .int x3), (4, .int x4), (5, .int x5), (6, .int x6)]) (st' := [.int x3, .ref 139]) (σ' := σ) hM 3 rfl ?_
    refine Rn.iald hM rfl rfl h.1 ?_
    refine Rn.brN (c := (((σ.1 139 x3.toNatClampNeg) >>> (x6 &&& 31)) &&& (1 : Int32)) = (1 : Int32)) (a := 121) (b := 98) (ls' := [(0, .ref 97), (1, .int x1), (3, .int x3), (4, .int x4), (5, .int x5), (6, .int x6)]) (st' := []) (σ' := σ) hM 6 rfl (fun c => ?_) (fun c => ?_)
    · replace h := h.2.2 c
      refine Rn.seg (pc' := 72) (ls' := [(6, .int (x6 + (1 : Int32))), (0, .ref 97), (1, .int x1), (3, .int x3), (4, .int x4), (5, .int x5)]) (st' := []) (σ' := σ) hM 2 rfl ?_
      exact Rn.sub h (subL_cons rfl (subL_cons rfl (subL_cons rfl (subL_cons rfl (subL_cons rfl (subL_cons rfl subL_nil)))))) (show ndL _ from (by decide : List.Nodup ([0, 1, 3, 4, 5, 6] : List Nat)))
    · replace h := h.2.1 c
      refine Rn.seg (pc' := 109) (ls' := [(0, .ref 97), (1, .int x1), (3, .int x3), (4, .int x4), (5, .int x5), (6, .int x6)]) (st' := [.int (((4 : Int32) * x3) + x6), .ref 138, .ref 97]) (σ' := σ) hM 8 rfl ?_
      refine Rn.iald hM rfl rfl h.1 ?_
      refine Rn.seg (pc' := 110) (ls' := [(0, .ref 97), (1, .int x1), (3, .int x3), (4, .int x4), (5, .int x5), (6, .int x6)]) (st' := [.int (σ.1 138 (((4 : Int32) * x3) + x6).toNatClampNeg), .ref 97]) (σ' := σ) hM 0 rfl ?_
      obtain ⟨Qc, hq, h⟩ := h.2
      refine Rn.cI hM rfl rfl (by decide) hq (fun w2 σ1 hw => ?_)
      replace h := h w2 σ1 hw
      refine Rn.brN (c := w2 = x4) (a := 121) (b := 118) (ls' := [(0, .ref 97), (1, .int x1), (3, .int x3), (4, .int x4), (5, .int x5), (6, .int x6)]) (st' := []) (σ' := σ1) hM 2 rfl (fun c => ?_) (fun c => ?_)
      · replace h := h.2 c
        refine Rn.seg (pc' := 72) (ls' := [(6, .int (x6 + (1 : Int32))), (0, .ref 97), (1, .int x1), (3, .int x3), (4, .int x4), (5, .int x5)]) (st' := []) (σ' := σ1) hM 2 rfl ?_
        exact Rn.sub h (subL_cons rfl (subL_cons rfl (subL_cons rfl (subL_cons rfl (subL_cons rfl (subL_cons rfl subL_nil)))))) (show ndL _ from (by decide : List.Nodup ([0, 1, 3, 4, 5, 6] : List Nat)))
      · replace h := h.1 c
        refine Rn.seg (pc' := 72) (ls' := [(6, .int (x6 + (1 : Int32))), (5, .int (1 : Int32)), (0, .ref 97), (1, .int x1), (3, .int x3), (4, .int x4)]) (st' := []) (σ' := σ1) hM 4 rfl ?_
        exact Rn.sub h (subL_cons rfl (subL_cons rfl (subL_cons rfl (subL_cons rfl (subL_cons rfl (subL_cons rfl subL_nil)))))) (show ndL _ from (by decide : List.Nodup ([0, 1, 3, 4, 5, 6] : List Nat)))
set_option maxRecDepth 100000 in
theorem w_274_137 {d : Nat} {Q : Option Value → Sg → Prop} (σ : Sg) (x1 x3 x4 x5 x6 : Int32) (h : (inR x3 4 = true ∧ (((σ.1 137 x3.toNatClampNeg) ≤ x6 → Q (some (.int (0 : Int32))) σ) ∧ (¬ (σ.1 137 x3.toNatClampNeg) ≤ x6 → (inR x3 4 = true ∧ (((((σ.1 139 x3.toNatClampNeg) >>> (x6 &&& 31)) &&& (1 : Int32)) = 0 → Rn PRG (d + 1) 274 137 [(0, .ref 97), (1, .int x1), (3, .int x3), (4, .int x4), (5, .int x5), (6, .int (x6 + (1 : Int32)))] [] σ Q) ∧ (¬ (((σ.1 139 x3.toNatClampNeg) >>> (x6 &&& 31)) &&& (1 : Int32)) = 0 → ((x5 = 0 → (inR x1 4 = true ∧ (inR (((4 : Int32) * x3) + x6) 16 = true ∧ (inR x1 4 = true ∧ Q (some (.int (1 : Int32))) (s1 (s1 σ 142 x1.toNatClampNeg x6) 141 x1.toNatClampNeg (σ.1 138 (((4 : Int32) * x3) + x6).toNatClampNeg)))))) ∧ (¬ x5 = 0 → (inR (((4 : Int32) * x3) + x6) 16 = true ∧ (∃ Qc : Int32 → Sg → Prop, OkI PRG d 212 [.ref 97, .int (σ.1 138 (((4 : Int32) * x3) + x6).toNatClampNeg)] σ Qc ∧ ∀ w2 σ1, Qc w2 σ1 → ((w2 = x4 → (inR x1 4 = true ∧ (inR (((4 : Int32) * x3) + x6) 16 = true ∧ (inR x1 4 = true ∧ Q (some (.int (1 : Int32))) (s1 (s1 σ1 142 x1.toNatClampNeg x6) 141 x1.toNatClampNeg (σ1.1 138 (((4 : Int32) * x3) + x6).toNatClampNeg)))))) ∧ (¬ w2 = x4 → Rn PRG (d + 1) 274 137 [(0, .ref 97), (1, .int x1), (3, .int x3), (4, .int x4), (5, .int x5), (6, .int (x6 + (1 : Int32)))] [] σ1 Q))))))))))))) : Rn PRG (d + 1) 274 137 [(0, .ref 97), (1, .int x1), (3, .int x3), (4, .int x4), (5, .int x5), (6, .int x6)] [] σ Q := by
  have hM : PRG[274]? = some M_274 := rfl
  refine Rn.seg (pc' := 144) (ls' := [(0, .ref 97), (1, .int x1), (3, .int x3), (4, .int x4), (5, .int x5), (6, .int x6)]) (st' := [.int x3, .ref 137, .int x6]) (σ' := σ) hM 4 rfl ?_
  refine Rn.iald hM rfl rfl h.1 ?_
  refine Rn.br (c := (σ.1 137 x3.toNatClampNeg) ≤ x6) (a := 223) (b := 148) (ls' := [(0, .ref 97), (1, .int x1), (3, .int x3), (4, .int x4), (5, .int x5), (6, .int x6)]) (st' := []) (σ' := σ) hM 1 rfl (fun c => ?_) (fun c => ?_)
  · replace h := h.2.1 c
    refine Rn.seg (pc' := 224) (ls' := [(0, .ref 97), (1, .int x1), (3, .int x3), (4, .int x4), (5, .int x5), (6, .int x6)]) (st' := [.int (0 : Int32)]) (σ' := σ) hM 1 rfl ?_
    exact Rn.ret hM rfl rfl h
  · replace h := h.2.2 c
    refine Rn.seg (pc' := 153) (ls' := [(0, .ref 97), (1, .int x1), (3, .int x3), (4, .int x4), (5, .int x5), (6, .int x6)]) (st' := [.int x3, .ref 139]) (σ' := σ) hM 3 rfl ?_
    refine Rn.iald hM rfl rfl h.1 ?_
    refine Rn.br (c := (((σ.1 139 x3.toNatClampNeg) >>> (x6 &&& 31)) &&& (1 : Int32)) = 0) (a := 217) (b := 162) (ls' := [(0, .ref 97), (1, .int x1), (3, .int x3), (4, .int x4), (5, .int x5), (6, .int x6)]) (st' := []) (σ' := σ) hM 5 rfl (fun c => ?_) (fun c => ?_)
    · replace h := h.2.1 c
      refine Rn.seg (pc' := 137) (ls' := [(6, .int (x6 + (1 : Int32))), (0, .ref 97), (1, .int x1), (3, .int x3), (4, .int x4), (5, .int x5)]) (st' := []) (σ' := σ) hM 2 rfl ?_
      exact Rn.sub h (subL_cons rfl (subL_cons rfl (subL_cons rfl (subL_cons rfl (subL_cons rfl (subL_cons rfl subL_nil)))))) (show ndL _ from (by decide : List.Nodup ([0, 1, 3, 4, 5, 6] : List Nat)))
    · replace h := h.2.2 c
      refine Rn.br (c := x5 = 0) (a := 190) (b := 167) (ls' := [(0, .ref 97), (1, .int x1), (3, .int x3), (4, .int x4), (5, .int x5), (6, .int x6)]) (st' := []) (σ' := σ) hM 2 rfl (fun c => ?_) (fun c => ?_)
      · replace h := h.1 c
        refine Rn.seg (pc' := 197) (ls' := [(0, .ref 97), (1, .int x1), (3, .int x3), (4, .int x4), (5, .int x5), (6, .int x6)]) (st' := [.int x6, .int x1, .ref 142]) (σ' := σ) hM 4 rfl ?_
        refine Rn.iast hM rfl rfl h.1 ?_
        refine Rn.seg (pc' := 213) (ls' := [(0, .ref 97), (1, .int x1), (3, .int x3), (4, .int x4), (5, .int x5), (6, .int x6)]) (st' := [.int (((4 : Int32) * x3) + x6), .ref 138, .int x1, .ref 141]) (σ' := (s1 σ 142 x1.toNatClampNeg x6)) hM 10 rfl ?_
        refine Rn.iald hM rfl rfl h.2.1 ?_
        refine Rn.seg (pc' := 214) (ls' := [(0, .ref 97), (1, .int x1), (3, .int x3), (4, .int x4), (5, .int x5), (6, .int x6)]) (st' := [.int (σ.1 138 (((4 : Int32) * x3) + x6).toNatClampNeg), .int x1, .ref 141]) (σ' := (s1 σ 142 x1.toNatClampNeg x6)) hM 0 rfl ?_
        refine Rn.iast hM rfl rfl h.2.2.1 ?_
        refine Rn.seg (pc' := 216) (ls' := [(0, .ref 97), (1, .int x1), (3, .int x3), (4, .int x4), (5, .int x5), (6, .int x6)]) (st' := [.int (1 : Int32)]) (σ' := (s1 (s1 σ 142 x1.toNatClampNeg x6) 141 x1.toNatClampNeg (σ.1 138 (((4 : Int32) * x3) + x6).toNatClampNeg))) hM 1 rfl ?_
        exact Rn.ret hM rfl rfl h.2.2.2
      · replace h := h.2 c
        refine Rn.seg (pc' := 178) (ls' := [(0, .ref 97), (1, .int x1), (3, .int x3), (4, .int x4), (5, .int x5), (6, .int x6)]) (st' := [.int (((4 : Int32) * x3) + x6), .ref 138, .ref 97]) (σ' := σ) hM 8 rfl ?_
        refine Rn.iald hM rfl rfl h.1 ?_
        refine Rn.seg (pc' := 179) (ls' := [(0, .ref 97), (1, .int x1), (3, .int x3), (4, .int x4), (5, .int x5), (6, .int x6)]) (st' := [.int (σ.1 138 (((4 : Int32) * x3) + x6).toNatClampNeg), .ref 97]) (σ' := σ) hM 0 rfl ?_
        obtain ⟨Qc, hq, h⟩ := h.2
        refine Rn.cI hM rfl rfl (by decide) hq (fun w2 σ1 hw => ?_)
        replace h := h w2 σ1 hw
        refine Rn.br (c := w2 = x4) (a := 190) (b := 187) (ls' := [(0, .ref 97), (1, .int x1), (3, .int x3), (4, .int x4), (5, .int x5), (6, .int x6)]) (st' := []) (σ' := σ1) hM 2 rfl (fun c => ?_) (fun c => ?_)
        · replace h := h.1 c
          refine Rn.seg (pc' := 197) (ls' := [(0, .ref 97), (1, .int x1), (3, .int x3), (4, .int x4), (5, .int x5), (6, .int x6)]) (st' := [.int x6, .int x1, .ref 142]) (σ' := σ1) hM 4 rfl ?_
          refine Rn.iast hM rfl rfl h.1 ?_
          refine Rn.seg (pc' := 213) (ls' := [(0, .ref 97), (1, .int x1), (3, .int x3), (4, .int x4), (5, .int x5), (6, .int x6)]) (st' := [.int (((4 : Int32) * x3) + x6), .ref 138, .int x1, .ref 141]) (σ' := (s1 σ1 142 x1.toNatClampNeg x6)) hM 10 rfl ?_
          refine Rn.iald hM rfl rfl h.2.1 ?_
          refine Rn.seg (pc' := 214) (ls' := [(0, .ref 97), (1, .int x1), (3, .int x3), (4, .int x4), (5, .int x5), (6, .int x6)]) (st' := [.int (σ1.1 138 (((4 : Int32) * x3) + x6).toNatClampNeg), .int x1, .ref 141]) (σ' := (s1 σ1 142 x1.toNatClampNeg x6)) hM 0 rfl ?_
          refine Rn.iast hM rfl rfl h.2.2.1 ?_
          refine Rn.seg (pc' := 216) (ls' := [(0, .ref 97), (1, .int x1), (3, .int x3), (4, .int x4), (5, .int x5), (6, .int x6)]) (st' := [.int (1 : Int32)]) (σ' := (s1 (s1 σ1 142 x1.toNatClampNeg x6) 141 x1.toNatClampNeg (σ1.1 138 (((4 : Int32) * x3) + x6).toNatClampNeg))) hM 1 rfl ?_
          exact Rn.ret hM rfl rfl h.2.2.2
        · replace h := h.2 c
          refine Rn.seg (pc' := 137) (ls' := [(6, .int (x6 + (1 : Int32))), (0, .ref 97), (1, .int x1), (3, .int x3), (4, .int x4), (5, .int x5)]) (st' := []) (σ' := σ1) hM 3 rfl ?_
          exact Rn.sub h (subL_cons rfl (subL_cons rfl (subL_cons rfl (subL_cons rfl (subL_cons rfl (subL_cons rfl subL_nil)))))) (show ndL _ from (by decide : List.Nodup ([0, 1, 3, 4, 5, 6] : List Nat)))
set_option maxRecDepth 100000 in
theorem w_275_0 {d : Nat} {Q : Option Value → Sg → Prop} (σ : Sg) (x1 x2 : Int32) (h : (((σ.1 97 69) ≤ (((x1 + (4 : Int32)) - x2) - ((x1 + (4 : Int32)) - x2) / (4 : Int32) * (4 : Int32)) → (inR x1 4 = true ∧ (inR (((x1 + (4 : Int32)) - x2) - ((x1 + (4 : Int32)) - x2) / (4 : Int32) * (4 : Int32)) 4 = true ∧ Q (some (.int ((σ.1 139 x1.toNatClampNeg) &&& (((1 : Int32) <<< ((σ.1 142 (((x1 + (4 : Int32)) - x2) - ((x1 + (4 : Int32)) - x2) / (4 : Int32) * (4 : Int32)).toNatClampNeg) &&& 31)) ^^^ (-1 : Int32))))) σ))) ∧ (¬ (σ.1 97 69) ≤ (((x1 + (4 : Int32)) - x2) - ((x1 + (4 : Int32)) - x2) / (4 : Int32) * (4 : Int32)) → (inR x1 4 = true ∧ Q (some (.int (σ.1 139 x1.toNatClampNeg))) σ)))) : Rn PRG d 275 0 [(0, .ref 97), (1, .int x1), (2, .int x2)] [] σ Q := by
  have hM : PRG[275]? = some M_275 := rfl
  refine Rn.br (c := (σ.1 97 69) ≤ (((x1 + (4 : Int32)) - x2) - ((x1 + (4 : Int32)) - x2) / (4 : Int32) * (4 : Int32))) (a := 25) (b := 16) (ls' := [(3, .int (((x1 + (4 : Int32)) - x2) - ((x1 + (4 : Int32)) - x2) / (4 : Int32) * (4 : Int32))), (0, .ref 97), (1, .int x1), (2, .int x2)]) (st' := []) (σ' := σ) hM 12 rfl (fun c => ?_) (fun c => ?_)
  · replace h := h.1 c
    refine Rn.seg (pc' := 30) (ls' := [(3, .int (((x1 + (4 : Int32)) - x2) - ((x1 + (4 : Int32)) - x2) / (4 : Int32) * (4 : Int32))), (0, .ref 97), (1, .int x1), (2, .int x2)]) (st' := [.int x1, .ref 139]) (σ' := σ) hM 3 rfl ?_
    refine Rn.iald hM rfl rfl h.1 ?_
    refine Rn.seg (pc' := 37) (ls' := [(3, .int (((x1 + (4 : Int32)) - x2) - ((x1 + (4 : Int32)) - x2) / (4 : Int32) * (4 : Int32))), (0, .ref 97), (1, .int x1), (2, .int x2)]) (st' := [.int (((x1 + (4 : Int32)) - x2) - ((x1 + (4 : Int32)) - x2) / (4 : Int32) * (4 : Int32)), .ref 142, .int (1 : Int32), .int (σ.1 139 x1.toNatClampNeg)]) (σ' := σ) hM 4 rfl ?_
    refine Rn.iald hM rfl rfl h.2.1 ?_
    refine Rn.seg (pc' := 42) (ls' := [(3, .int (((x1 + (4 : Int32)) - x2) - ((x1 + (4 : Int32)) - x2) / (4 : Int32) * (4 : Int32))), (0, .ref 97), (1, .int x1), (2, .int x2)]) (st' := [.int ((σ.1 139 x1.toNatClampNeg) &&& (((1 : Int32) <<< ((σ.1 142 (((x1 + (4 : Int32)) - x2) - ((x1 + (4 : Int32)) - x2) / (4 : Int32) * (4 : Int32)).toNatClampNeg) &&& 31)) ^^^ (-1 : Int32)))]) (σ' := σ) hM 4 rfl ?_
    exact Rn.ret hM rfl rfl h.2.2
  · replace h := h.2 c
    refine Rn.seg (pc' := 21) (ls' := [(3, .int (((x1 + (4 : Int32)) - x2) - ((x1 + (4 : Int32)) - x2) / (4 : Int32) * (4 : Int32))), (0, .ref 97), (1, .int x1), (2, .int x2)]) (st' := [.int x1, .ref 139]) (σ' := σ) hM 3 rfl ?_
    refine Rn.iald hM rfl rfl h.1 ?_
    refine Rn.seg (pc' := 42) (ls' := [(3, .int (((x1 + (4 : Int32)) - x2) - ((x1 + (4 : Int32)) - x2) / (4 : Int32) * (4 : Int32))), (0, .ref 97), (1, .int x1), (2, .int x2)]) (st' := [.int (σ.1 139 x1.toNatClampNeg)]) (σ' := σ) hM 1 rfl ?_
    exact Rn.ret hM rfl rfl h.2
set_option maxRecDepth 100000 in
theorem w_276_0 {d : Nat} {Q : Option Value → Sg → Prop} (σ : Sg) (x1 : Int32) (h : Rn PRG (d + 1) 276 4 [(0, .ref 97), (1, .int x1), (2, .int (0 : Int32)), (3, .int (1 : Int32))] [] σ Q) : Rn PRG (d + 1) 276 0 [(0, .ref 97), (1, .int x1)] [] σ Q := by
  have hM : PRG[276]? = some M_276 := rfl
  refine Rn.seg (pc' := 4) (ls' := [(3, .int (1 : Int32)), (2, .int (0 : Int32)), (0, .ref 97), (1, .int x1)]) (st' := []) (σ' := σ) hM 4 rfl ?_
  exact Rn.sub h (subL_cons rfl (subL_cons rfl (subL_cons rfl (subL_cons rfl subL_nil)))) (show ndL _ from (by decide : List.Nodup ([0, 1, 2, 3] : List Nat)))
set_option maxRecDepth 100000 in
theorem w_276_4 {d : Nat} {Q : Option Value → Sg → Prop} (σ : Sg) (x1 x2 x3 : Int32) (h : (((4 : Int32) ≤ x3 → (((((x1 + x2) - (x1 + x2) / (4 : Int32) * (4 : Int32)) - ((x1 + x2) - (x1 + x2) / (4 : Int32) * (4 : Int32)) / (2 : Int32) * (2 : Int32)) = 0 → (∃ Qc : Int32 → Sg → Prop, OkI PRG d 275 [.ref 97, .int (0 : Int32), .int x1] σ Qc ∧ ∀ w12 σ11, Qc w12 σ11 → (∃ Qc : Int32 → Sg → Prop, OkI PRG d 275 [.ref 97, .int (1 : Int32), .int x1] σ11 Qc ∧ ∀ w14 σ13, Qc w14 σ13 → (∃ Qc : Int32 → Sg → Prop, OkI PRG d 275 [.ref 97, .int (2 : Int32), .int x1] σ13 Qc ∧ ∀ w16 σ15, Qc w16 σ15 → (∃ Qc : Int32 → Sg → Prop, OkI PRG d 275 [.ref 97, .int (3 : Int32), .int x1] σ15 Qc ∧ ∀ w18 σ17, Qc w18 σ17 → (∃ Qc : Int32 → Sg → Prop, OkI PRG d 273 [.int ((x1 + x2) - (x1 + x2) / (4 : Int32) * (4 : Int32)), .int w12, .int w14, .int w16, .int w18] σ17 Qc ∧ ∀ w20 σ19, Qc w20 σ19 → (inR w20 262144 = true ∧ Q (some (.int ((1 : Int32) + (σ19.1 136 w20.toNatClampNeg)))) σ19))))))) ∧ (¬ (((x1 + x2) - (x1 + x2) / (4 : Int32) * (4 : Int32)) - ((x1 + x2) - (x1 + x2) / (4 : Int32) * (4 : Int32)) / (2 : Int32) * (2 : Int32)) = 0 → (∃ Qc : Int32 → Sg → Prop, OkI PRG d 275 [.ref 97, .int (0 : Int32), .int x1] σ Qc ∧ ∀ w2 σ1, Qc w2 σ1 → (∃ Qc : Int32 → Sg → Prop, OkI PRG d 275 [.ref 97, .int (1 : Int32), .int x1] σ1 Qc ∧ ∀ w4 σ3, Qc w4 σ3 → (∃ Qc : Int32 → Sg → Prop, OkI PRG d 275 [.ref 97, .int (2 : Int32), .int x1] σ3 Qc ∧ ∀ w6 σ5, Qc w6 σ5 → (∃ Qc : Int32 → Sg → Prop, OkI PRG d 275 [.ref 97, .int (3 : Int32), .int x1] σ5 Qc ∧ ∀ w8 σ7, Qc w8 σ7 → (∃ Qc : Int32 → Sg → Prop, OkI PRG d 273 [.int ((x1 + x2) - (x1 + x2) / (4 : Int32) * (4 : Int32)), .int w2, .int w4, .int w6, .int w8] σ7 Qc ∧ ∀ w10 σ9, Qc w10 σ9 → (inR w10 262144 = true ∧ Q (some (.int ((0 : Int32) + (σ9.1 136 w10.toNatClampNeg)))) σ9))))))))) ∧ (¬ (4 : Int32) ≤ x3 → (inR x3 4 = true ∧ (inR x2 4 = true ∧ (∃ Qc : Int32 → Sg → Prop, OkI PRG d 228 [.ref 97, .int (σ.1 141 x3.toNatClampNeg), .int (σ.1 141 x2.toNatClampNeg)] σ Qc ∧ ∀ w22 σ21, Qc w22 σ21 → ((w22 = 0 → Rn PRG (d + 1) 276 4 [(0, .ref 97), (1, .int x1), (2, .int x2), (3, .int (x3 + (1 : Int32)))] [] σ21 Q) ∧ (¬ w22 = 0 → Rn PRG (d + 1) 276 4 [(0, .ref 97), (1, .int x1), (2, .int x3), (3, .int (x3 + (1 : Int32)))] [] σ21 Q)))))))) : Rn PRG (d + 1) 276 4 [(0, .ref 97), (1, .int x1), (2, .int x2), (3, .int x3)] [] σ Q := by
  have hM : PRG[276]? = some M_276 := rfl
  refine Rn.br (c := (4 : Int32) ≤ x3) (a := 36) (b := 9) (ls' := [(0, .ref 97), (1, .int x1), (2, .int x2), (3, .int x3)]) (st' := []) (σ' := σ) hM 3 rfl (fun c => ?_) (fun c => ?_)
  · replace h := h.1 c
    refine Rn.brN (c := (((x1 + x2) - (x1 + x2) / (4 : Int32) * (4 : Int32)) - ((x1 + x2) - (x1 + x2) / (4 : Int32) * (4 : Int32)) / (2 : Int32) * (2 : Int32)) = 0) (a := 52) (b := 48) (ls' := [(3, .int ((x1 + x2) - (x1 + x2) / (4 : Int32) * (4 : Int32))), (0, .ref 97), (1, .int x1), (2, .int x2)]) (st' := []) (σ' := σ) hM 10 rfl (fun c => ?_) (fun c => ?_)
    · replace h := h.2 c
      refine Rn.seg (pc' := 61) (ls' := [(3, .int ((x1 + x2) - (x1 + x2) / (4 : Int32) * (4 : Int32))), (0, .ref 97), (1, .int x1), (2, .int x2)]) (st' := [.int x1, .int (0 : Int32), .ref 97, .int ((x1 + x2) - (x1 + x2) / (4 : Int32) * (4 : Int32)), .ref 136, .int (0 : Int32)]) (σ' := σ) hM 7 rfl ?_
      obtain ⟨Qc, hq, h⟩ := h
      refine Rn.cI hM rfl rfl (by decide) hq (fun w2 σ1 hw => ?_)
      replace h := h w2 σ1 hw
      refine Rn.seg (pc' := 67) (ls' := [(3, .int ((x1 + x2) - (x1 + x2) / (4 : Int32) * (4 : Int32))), (0, .ref 97), (1, .int x1), (2, .int x2)]) (st' := [.int x1, .int (1 : Int32), .ref 97, .int w2, .int ((x1 + x2) - (x1 + x2) / (4 : Int32) * (4 : Int32)), .ref 136, .int (0 : Int32)]) (σ' := σ1) hM 3 rfl ?_
      obtain ⟨Qc, hq, h⟩ := h
      refine Rn.cI hM rfl rfl (by decide) hq (fun w4 σ3 hw => ?_)
      replace h := h w4 σ3 hw
      refine Rn.seg (pc' := 73) (ls' := [(3, .int ((x1 + x2) - (x1 + x2) / (4 : Int32) * (4 : Int32))), (0, .ref 97), (1, .int x1), (2, .int x2)]) (st' := [.int x1, .int (2 : Int32), .ref 97, .int w4, .int w2, .int ((x1 + x2) - (x1 + x2) / (4 : Int32) * (4 : Int32)), .ref 136, .int (0 : Int32)]) (σ' := σ3) hM 3 rfl ?_
      obtain ⟨Qc, hq, h⟩ := h
      refine Rn.cI hM rfl rfl (by decide) hq (fun w6 σ5 hw => ?_)
      replace h := h w6 σ5 hw
      refine Rn.seg (pc' := 79) (ls' := [(3, .int ((x1 + x2) - (x1 + x2) / (4 : Int32) * (4 : Int32))), (0, .ref 97), (1, .int x1), (2, .int x2)]) (st' := [.int x1, .int (3 : Int32), .ref 97, .int w6, .int w4, .int w2, .int ((x1 + x2) - (x1 + x2) / (4 : Int32) * (4 : Int32)), .ref 136, .int (0 : Int32)]) (σ' := σ5) hM 3 rfl ?_
      obtain ⟨Qc, hq, h⟩ := h
      refine Rn.cI hM rfl rfl (by decide) hq (fun w8 σ7 hw => ?_)
      replace h := h w8 σ7 hw
      refine Rn.seg (pc' := 82) (ls' := [(3, .int ((x1 + x2) - (x1 + x2) / (4 : Int32) * (4 : Int32))), (0, .ref 97), (1, .int x1), (2, .int x2)]) (st' := [.int w8, .int w6, .int w4, .int w2, .int ((x1 + x2) - (x1 + x2) / (4 : Int32) * (4 : Int32)), .ref 136, .int (0 : Int32)]) (σ' := σ7) hM 0 rfl ?_
      obtain ⟨Qc, hq, h⟩ := h
      refine Rn.cI hM rfl rfl (by decide) hq (fun w10 σ9 hw => ?_)
      replace h := h w10 σ9 hw
      refine Rn.seg (pc' := 85) (ls' := [(3, .int ((x1 + x2) - (x1 + x2) / (4 : Int32) * (4 : Int32))), (0, .ref 97), (1, .int x1), (2, .int x2)]) (st' := [.int w10, .ref 136, .int (0 : Int32)]) (σ' := σ9) hM 0 rfl ?_
      refine Rn.bald2 hM rfl rfl h.1 ?_
      refine Rn.seg (pc' := 87) (ls' := [(3, .int ((x1 + x2) - (x1 + x2) / (4 : Int32) * (4 : Int32))), (0, .ref 97), (1, .int x1), (2, .int x2)]) (st' := [.int ((0 : Int32) + (σ9.1 136 w10.toNatClampNeg))]) (σ' := σ9) hM 1 rfl ?_
      exact Rn.ret hM rfl rfl h.2
    · replace h := h.1 c
      refine Rn.seg (pc' := 61) (ls' := [(3, .int ((x1 + x2) - (x1 + x2) / (4 : Int32) * (4 : Int32))), (0, .ref 97), (1, .int x1), (2, .int x2)]) (st' := [.int x1, .int (0 : Int32), .ref 97, .int ((x1 + x2) - (x1 + x2) / (4 : Int32) * (4 : Int32)), .ref 136, .int (1 : Int32)]) (σ' := σ) hM 8 rfl ?_
      obtain ⟨Qc, hq, h⟩ := h
      refine Rn.cI hM rfl rfl (by decide) hq (fun w12 σ11 hw => ?_)
      replace h := h w12 σ11 hw
      refine Rn.seg (pc' := 67) (ls' := [(3, .int ((x1 + x2) - (x1 + x2) / (4 : Int32) * (4 : Int32))), (0, .ref 97), (1, .int x1), (2, .int x2)]) (st' := [.int x1, .int (1 : Int32), .ref 97, .int w12, .int ((x1 + x2) - (x1 + x2) / (4 : Int32) * (4 : Int32)), .ref 136, .int (1 : Int32)]) (σ' := σ11) hM 3 rfl ?_
      obtain ⟨Qc, hq, h⟩ := h
      refine Rn.cI hM rfl rfl (by decide) hq (fun w14 σ13 hw => ?_)
      replace h := h w14 σ13 hw
      refine Rn.seg (pc' := 73) (ls' := [(3, .int ((x1 + x2) - (x1 + x2) / (4 : Int32) * (4 : Int32))), (0, .ref 97), (1, .int x1), (2, .int x2)]) (st' := [.int x1, .int (2 : Int32), .ref 97, .int w14, .int w12, .int ((x1 + x2) - (x1 + x2) / (4 : Int32) * (4 : Int32)), .ref 136, .int (1 : Int32)]) (σ' := σ13) hM 3 rfl ?_
      obtain ⟨Qc, hq, h⟩ := h
      refine Rn.cI hM rfl rfl (by decide) hq (fun w16 σ15 hw => ?_)
      replace h := h w16 σ15 hw
      refine Rn.seg (pc' := 79) (ls' := [(3, .int ((x1 + x2) - (x1 + x2) / (4 : Int32) * (4 : Int32))), (0, .ref 97), (1, .int x1), (2, .int x2)]) (st' := [.int x1, .int (3 : Int32), .ref 97, .int w16, .int w14, .int w12, .int ((x1 + x2) - (x1 + x2) / (4 : Int32) * (4 : Int32)), .ref 136, .int (1 : Int32)]) (σ' := σ15) hM 3 rfl ?_
      obtain ⟨Qc, hq, h⟩ := h
      refine Rn.cI hM rfl rfl (by decide) hq (fun w18 σ17 hw => ?_)
      replace h := h w18 σ17 hw
      refine Rn.seg (pc' := 82) (ls' := [(3, .int ((x1 + x2) - (x1 + x2) / (4 : Int32) * (4 : Int32))), (0, .ref 97), (1, .int x1), (2, .int x2)]) (st' := [.int w18, .int w16, .int w14, .int w12, .int ((x1 + x2) - (x1 + x2) / (4 : Int32) * (4 : Int32)), .ref 136, .int (1 : Int32)]) (σ' := σ17) hM 0 rfl ?_
      obtain ⟨Qc, hq, h⟩ := h
      refine Rn.cI hM rfl rfl (by decide) hq (fun w20 σ19 hw => ?_)
      replace h := h w20 σ19 hw
      refine Rn.seg (pc' := 85) (ls' := [(3, .int ((x1 + x2) - (x1 + x2) / (4 : Int32) * (4 : Int32))), (0, .ref 97), (1, .int x1), (2, .int x2)]) (st' := [.int w20, .ref 136, .int (1 : Int32)]) (σ' := σ19) hM 0 rfl ?_
      refine Rn.bald2 hM rfl rfl h.1 ?_
      refine Rn.seg (pc' := 87) (ls' := [(3, .int ((x1 + x2) - (x1 + x2) / (4 : Int32) * (4 : Int32))), (0, .ref 97), (1, .int x1), (2, .int x2)]) (st' := [.int ((1 : Int32) + (σ19.1 136 w20.toNatClampNeg))]) (σ' := σ19) hM 1 rfl ?_
      exact Rn.ret hM rfl rfl h.2
  · replace h := h.2 c
    refine Rn.seg (pc' := 15) (ls' := [(0, .ref 97), (1, .int x1), (2, .int x2), (3, .int x3)]) (st' := [.int x3, .ref 141, .ref 97]) (σ' := σ) hM 4 rfl ?_
    refine Rn.iald hM rfl rfl h.1 ?_
    refine Rn.seg (pc' := 21) (ls' := [(0, .ref 97), (1, .int x1), (2, .int x2), (3, .int x3)]) (st' := [.int x2, .ref 141, .int (σ.1 141 x3.toNatClampNeg), .ref 97]) (σ' := σ) hM 3 rfl ?_
    refine Rn.iald hM rfl rfl h.2.1 ?_
    refine Rn.seg (pc' := 22) (ls' := [(0, .ref 97), (1, .int x1), (2, .int x2), (3, .int x3)]) (st' := [.int (σ.1 141 x2.toNatClampNeg), .int (σ.1 141 x3.toNatClampNeg), .ref 97]) (σ' := σ) hM 0 rfl ?_
    obtain ⟨Qc, hq, h⟩ := h.2.2
    refine Rn.cI hM rfl rfl (by decide) hq (fun w22 σ21 hw => ?_)
    replace h := h w22 σ21 hw
    refine Rn.br (c := w22 = 0) (a := 30) (b := 28) (ls' := [(0, .ref 97), (1, .int x1), (2, .int x2), (3, .int x3)]) (st' := []) (σ' := σ21) hM 1 rfl (fun c => ?_) (fun c => ?_)
    · replace h := h.1 c
      refine Rn.seg (pc' := 4) (ls' := [(3, .int (x3 + (1 : Int32))), (0, .ref 97), (1, .int x1), (2, .int x2)]) (st' := []) (σ' := σ21) hM 2 rfl ?_
      exact Rn.sub h (subL_cons rfl (subL_cons rfl (subL_cons rfl (subL_cons rfl subL_nil)))) (show ndL _ from (by decide : List.Nodup ([0, 1, 2, 3] : List Nat)))
    · replace h := h.2 c
      refine Rn.seg (pc' := 4) (ls' := [(3, .int (x3 + (1 : Int32))), (2, .int x3), (0, .ref 97), (1, .int x1)]) (st' := []) (σ' := σ21) hM 4 rfl ?_
      exact Rn.sub h (subL_cons rfl (subL_cons rfl (subL_cons rfl (subL_cons rfl subL_nil)))) (show ndL _ from (by decide : List.Nodup ([0, 1, 2, 3] : List Nat)))
set_option maxRecDepth 100000 in
theorem w_277_0 {d : Nat} {Q : Option Value → Sg → Prop} (σ : Sg) (x1 x2 x3 : Int32) (h : ((((x2 + x1) - (x2 + x1) / (2 : Int32) * (2 : Int32)) = 0 → (inR x1 4 = true ∧ (((σ.1 143 x1.toNatClampNeg) = (-1 : Int32) → (inR x1 4 = true ∧ Q none (s1 σ 143 x1.toNatClampNeg x3))) ∧ (¬ (σ.1 143 x1.toNatClampNeg) = (-1 : Int32) → (((1 : Int32) = 0 → (inR x1 4 = true ∧ (((σ.1 143 x1.toNatClampNeg) ≤ x3 → Q none σ) ∧ (¬ (σ.1 143 x1.toNatClampNeg) ≤ x3 → (inR x1 4 = true ∧ Q none (s1 σ 143 x1.toNatClampNeg x3)))))) ∧ (¬ (1 : Int32) = 0 → (inR x1 4 = true ∧ ((x3 ≤ (σ.1 143 x1.toNatClampNeg) → Q none σ) ∧ (¬ x3 ≤ (σ.1 143 x1.toNatClampNeg) → (inR x1 4 = true ∧ Q none (s1 σ 143 x1.toNatClampNeg x3))))))))))) ∧ (¬ ((x2 + x1) - (x2 + x1) / (2 : Int32) * (2 : Int32)) = 0 → (inR x1 4 = true ∧ (((σ.1 143 x1.toNatClampNeg) = (-1 : Int32) → (inR x1 4 = true ∧ Q none (s1 σ 143 x1.toNatClampNeg x3))) ∧ (¬ (σ.1 143 x1.toNatClampNeg) = (-1 : Int32) → (((0 : Int32) = 0 → (inR x1 4 = true ∧ (((σ.1 143 x1.toNatClampNeg) ≤ x3 → Q none σ) ∧ (¬ (σ.1 143 x1.toNatClampNeg) ≤ x3 → (inR x1 4 = true ∧ Q none (s1 σ 143 x1.toNatClampNeg x3)))))) ∧ (¬ (0 : Int32) = 0 → (inR x1 4 = true ∧ ((x3 ≤ (σ.1 143 x1.toNatClampNeg) → Q none σ) ∧ (¬ x3 ≤ (σ.1 143 x1.toNatClampNeg) → (inR x1 4 = true ∧ Q none (s1 σ 143 x1.toNatClampNeg x3))))))))))))) : Rn PRG d 277 0 [(0, .ref 97), (1, .int x1), (2, .int x2), (3, .int x3)] [] σ Q := by
  have hM : PRG[277]? = some M_277 := rfl
  refine Rn.brN (c := ((x2 + x1) - (x2 + x1) / (2 : Int32) * (2 : Int32)) = 0) (a := 12) (b := 8) (ls' := [(0, .ref 97), (1, .int x1), (2, .int x2), (3, .int x3)]) (st' := []) (σ' := σ) hM 6 rfl (fun c => ?_) (fun c => ?_)
  · replace h := h.2 c
    refine Rn.seg (pc' := 20) (ls' := [(4, .int (0 : Int32)), (0, .ref 97), (1, .int x1), (2, .int x2), (3, .int x3)]) (st' := [.int x1, .ref 143]) (σ' := σ) hM 5 rfl ?_
    refine Rn.iald hM rfl rfl h.1 ?_
    refine Rn.br (c := (σ.1 143 x1.toNatClampNeg) = (-1 : Int32)) (a := 53) (b := 25) (ls' := [(4, .int (0 : Int32)), (0, .ref 97), (1, .int x1), (2, .int x2), (3, .int x3)]) (st' := []) (σ' := σ) hM 2 rfl (fun c => ?_) (fun c => ?_)
    · replace h := h.2.1 c
      refine Rn.seg (pc' := 59) (ls' := [(4, .int (0 : Int32)), (0, .ref 97), (1, .int x1), (2, .int x2), (3, .int x3)]) (st' := [.int x3, .int x1, .ref 143]) (σ' := σ) hM 4 rfl ?_
      refine Rn.iast hM rfl rfl h.1 ?_
      refine Rn.seg (pc' := 60) (ls' := [(4, .int (0 : Int32)), (0, .ref 97), (1, .int x1), (2, .int x2), (3, .int x3)]) (st' := []) (σ' := (s1 σ 143 x1.toNatClampNeg x3)) hM 0 rfl ?_
      exact Rn.ret hM rfl rfl h.2
    · replace h := h.2.2 c
      refine Rn.br (c := (0 : Int32) = 0) (a := 43) (b := 30) (ls' := [(4, .int (0 : Int32)), (0, .ref 97), (1, .int x1), (2, .int x2), (3, .int x3)]) (st' := []) (σ' := σ) hM 2 rfl (fun c => ?_) (fun c => ?_)
      · replace h := h.1 c
        refine Rn.seg (pc' := 49) (ls' := [(4, .int (0 : Int32)), (0, .ref 97), (1, .int x1), (2, .int x2), (3, .int x3)]) (st' := [.int x1, .ref 143, .int x3]) (σ' := σ) hM 4 rfl ?_
        refine Rn.iald hM rfl rfl h.1 ?_
        refine Rn.br (c := (σ.1 143 x1.toNatClampNeg) ≤ x3) (a := 60) (b := 53) (ls' := [(4, .int (0 : Int32)), (0, .ref 97), (1, .int x1), (2, .int x2), (3, .int x3)]) (st' := []) (σ' := σ) hM 1 rfl (fun c => ?_) (fun c => ?_)
        · replace h := h.2.1 c
          refine Rn.seg (pc' := 60) (ls' := [(4, .int (0 : Int32)), (0, .ref 97), (1, .int x1), (2, .int x2), (3, .int x3)]) (st' := []) (σ' := σ) hM 0 rfl ?_
          exact Rn.ret hM rfl rfl h
        · replace h := h.2.2 c
          refine Rn.seg (pc' := 59) (ls' := [(4, .int (0 : Int32)), (0, .ref 97), (1, .int x1), (2, .int x2), (3, .int x3)]) (st' := [.int x3, .int x1, .ref 143]) (σ' := σ) hM 4 rfl ?_
          refine Rn.iast hM rfl rfl h.1 ?_
          refine Rn.seg (pc' := 60) (ls' := [(4, .int (0 : Int32)), (0, .ref 97), (1, .int x1), (2, .int x2), (3, .int x3)]) (st' := []) (σ' := (s1 σ 143 x1.toNatClampNeg x3)) hM 0 rfl ?_
          exact Rn.ret hM rfl rfl h.2
      · replace h := h.2 c
        refine Rn.seg (pc' := 36) (ls' := [(4, .int (0 : Int32)), (0, .ref 97), (1, .int x1), (2, .int x2), (3, .int x3)]) (st' := [.int x1, .ref 143, .int x3]) (σ' := σ) hM 4 rfl ?_
        refine Rn.iald hM rfl rfl h.1 ?_
        refine Rn.br (c := x3 ≤ (σ.1 143 x1.toNatClampNeg)) (a := 60) (b := 40) (ls' := [(4, .int (0 : Int32)), (0, .ref 97), (1, .int x1), (2, .int x2), (3, .int x3)]) (st' := []) (σ' := σ) hM 1 rfl (fun c => ?_) (fun c => ?_)
        · replace h := h.2.1 c
          refine Rn.seg (pc' := 60) (ls' := [(4, .int (0 : Int32)), (0, .ref 97), (1, .int x1), (2, .int x2), (3, .int x3)]) (st' := []) (σ' := σ) hM 0 rfl ?_
          exact Rn.ret hM rfl rfl h
        · replace h := h.2.2 c
          refine Rn.seg (pc' := 59) (ls' := [(4, .int (0 : Int32)), (0, .ref 97), (1, .int x1), (2, .int x2), (3, .int x3)]) (st' := [.int x3, .int x1, .ref 143]) (σ' := σ) hM 5 rfl ?_
          refine Rn.iast hM rfl rfl h.1 ?_
          refine Rn.seg (pc' := 60) (ls' := [(4, .int (0 : Int32)), (0, .ref 97), (1, .int x1), (2, .int x2), (3, .int x3)]) (st' := []) (σ' := (s1 σ 143 x1.toNatClampNeg x3)) hM 0 rfl ?_
          exact Rn.ret hM rfl rfl h.2
  · replace h := h.1 c
    refine Rn.seg (pc' := 20) (ls' := [(4, .int (1 : Int32)), (0, .ref 97), (1, .int x1), (2, .int x2), (3, .int x3)]) (st' := [.int x1, .ref 143]) (σ' := σ) hM 6 rfl ?_
    refine Rn.iald hM rfl rfl h.1 ?_
    refine Rn.br (c := (σ.1 143 x1.toNatClampNeg) = (-1 : Int32)) (a := 53) (b := 25) (ls' := [(4, .int (1 : Int32)), (0, .ref 97), (1, .int x1), (2, .int x2), (3, .int x3)]) (st' := []) (σ' := σ) hM 2 rfl (fun c => ?_) (fun c => ?_)
    · replace h := h.2.1 c
      refine Rn.seg (pc' := 59) (ls' := [(4, .int (1 : Int32)), (0, .ref 97), (1, .int x1), (2, .int x2), (3, .int x3)]) (st' := [.int x3, .int x1, .ref 143]) (σ' := σ) hM 4 rfl ?_
      refine Rn.iast hM rfl rfl h.1 ?_
      refine Rn.seg (pc' := 60) (ls' := [(4, .int (1 : Int32)), (0, .ref 97), (1, .int x1), (2, .int x2), (3, .int x3)]) (st' := []) (σ' := (s1 σ 143 x1.toNatClampNeg x3)) hM 0 rfl ?_
      exact Rn.ret hM rfl rfl h.2
    · replace h := h.2.2 c
      refine Rn.br (c := (1 : Int32) = 0) (a := 43) (b := 30) (ls' := [(4, .int (1 : Int32)), (0, .ref 97), (1, .int x1), (2, .int x2), (3, .int x3)]) (st' := []) (σ' := σ) hM 2 rfl (fun c => ?_) (fun c => ?_)
      · replace h := h.1 c
        refine Rn.seg (pc' := 49) (ls' := [(4, .int (1 : Int32)), (0, .ref 97), (1, .int x1), (2, .int x2), (3, .int x3)]) (st' := [.int x1, .ref 143, .int x3]) (σ' := σ) hM 4 rfl ?_
        refine Rn.iald hM rfl rfl h.1 ?_
        refine Rn.br (c := (σ.1 143 x1.toNatClampNeg) ≤ x3) (a := 60) (b := 53) (ls' := [(4, .int (1 : Int32)), (0, .ref 97), (1, .int x1), (2, .int x2), (3, .int x3)]) (st' := []) (σ' := σ) hM 1 rfl (fun c => ?_) (fun c => ?_)
        · replace h := h.2.1 c
          refine Rn.seg (pc' := 60) (ls' := [(4, .int (1 : Int32)), (0, .ref 97), (1, .int x1), (2, .int x2), (3, .int x3)]) (st' := []) (σ' := σ) hM 0 rfl ?_
          exact Rn.ret hM rfl rfl h
        · replace h := h.2.2 c
          refine Rn.seg (pc' := 59) (ls' := [(4, .int (1 : Int32)), (0, .ref 97), (1, .int x1), (2, .int x2), (3, .int x3)]) (st' := [.int x3, .int x1, .ref 143]) (σ' := σ) hM 4 rfl ?_
          refine Rn.iast hM rfl rfl h.1 ?_
          refine Rn.seg (pc' := 60) (ls' := [(4, .int (1 : Int32)), (0, .ref 97), (1, .int x1), (2, .int x2), (3, .int x3)]) (st' := []) (σ' := (s1 σ 143 x1.toNatClampNeg x3)) hM 0 rfl ?_
          exact Rn.ret hM rfl rfl h.2
      · replace h := h.2 c
        refine Rn.seg (pc' := 36) (ls' := [(4, .int (1 : Int32)), (0, .ref 97), (1, .int x1), (2, .int x2), (3, .int x3)]) (st' := [.int x1, .ref 143, .int x3]) (σ' := σ) hM 4 rfl ?_
        refine Rn.iald hM rfl rfl h.1 ?_
        refine Rn.br (c := x3 ≤ (σ.1 143 x1.toNatClampNeg)) (a := 60) (b := 40) (ls' := [(4, .int (1 : Int32)), (0, .ref 97), (1, .int x1), (2, .int x2), (3, .int x3)]) (st' := []) (σ' := σ) hM 1 rfl (fun c => ?_) (fun c => ?_)
        · replace h := h.2.1 c
          refine Rn.seg (pc' := 60) (ls' := [(4, .int (1 : Int32)), (0, .ref 97), (1, .int x1), (2, .int x2), (3, .int x3)]) (st' := []) (σ' := σ) hM 0 rfl ?_
          exact Rn.ret hM rfl rfl h
        · replace h := h.2.2 c
          refine Rn.seg (pc' := 59) (ls' := [(4, .int (1 : Int32)), (0, .ref 97), (1, .int x1), (2, .int x2), (3, .int x3)]) (st' := [.int x3, .int x1, .ref 143]) (σ' := σ) hM 5 rfl ?_
          refine Rn.iast hM rfl rfl h.1 ?_
          refine Rn.seg (pc' := 60) (ls' := [(4, .int (1 : Int32)), (0, .ref 97), (1, .int x1), (2, .int x2), (3, .int x3)]) (st' := []) (σ' := (s1 σ 143 x1.toNatClampNeg x3)) hM 0 rfl ?_
          exact Rn.ret hM rfl rfl h.2
set_option maxRecDepth 100000 in
theorem w_278_0 {d : Nat} {Q : Option Value → Sg → Prop} (σ : Sg) (x1 : Int32) (h : Rn PRG (d + 1) 278 16 [(0, .ref 97), (1, .int x1), (2, .int (0 : Int32))] [] (s1 (s1 σ 142 0 (-1 : Int32)) 143 0 (-1 : Int32)) Q) : Rn PRG (d + 1) 278 0 [(0, .ref 97), (1, .int x1)] [] σ Q := by
  have hM : PRG[278]? = some M_278 := rfl
  refine Rn.seg (pc' := 16) (ls' := [(2, .int (0 : Int32)), (0, .ref 97), (1, .int x1)]) (st' := []) (σ' := (s1 (s1 σ 142 0 (-1 : Int32)) 143 0 (-1 : Int32))) hM 12 rfl ?_
  exact Rn.sub h (subL_cons rfl (subL_cons rfl (subL_cons rfl subL_nil))) (show ndL _ from (by decide : List.Nodup ([0, 1, 2] : List Nat)))
set_option maxRecDepth 100000 in
theorem w_278_16 {d : Nat} {Q : Option Value → Sg → Prop} (σ : Sg) (x1 x2 : Int32) (h : (∃ Qc : Int32 → Sg → Prop, OkI PRG d 274 [.ref 97, .int x2, .int x1] σ Qc ∧ ∀ w2 σ1, Qc w2 σ1 → ((w2 = 0 → ((x2 = 0 → Q (some (.int (σ1.1 143 0))) σ1) ∧ (¬ x2 = 0 → (inR ((x2 + (-1 : Int32)) + (1 : Int32)) 4 = true ∧ (∃ Qc : Sg → Prop, OkV PRG d 277 [.ref 97, .int (x2 + (-1 : Int32)), .int x1, .int (σ1.1 143 ((x2 + (-1 : Int32)) + (1 : Int32)).toNatClampNeg)] σ1 Qc ∧ ∀ σ3, Qc σ3 → Rn PRG (d + 1) 278 16 [(0, .ref 97), (1, .int x1), (2, .int (x2 + (-1 : Int32)))] [] σ3 Q))))) ∧ (¬ w2 = 0 → (((3 : Int32) ≤ x2 → (∃ Qc : Int32 → Sg → Prop, OkI PRG d 276 [.ref 97, .int x1] σ1 Qc ∧ ∀ w5 σ4, Qc w5 σ4 → (∃ Qc : Sg → Prop, OkV PRG d 277 [.ref 97, .int (3 : Int32), .int x1, .int w5] σ4 Qc ∧ ∀ σ6, Qc σ6 → Rn PRG (d + 1) 278 16 [(0, .ref 97), (1, .int x1), (2, .int x2)] [] σ6 Q))) ∧ (¬ (3 : Int32) ≤ x2 → (inR (x2 + (1 : Int32)) 4 = true ∧ (inR (x2 + (1 : Int32)) 4 = true ∧ Rn PRG (d + 1) 278 16 [(0, .ref 97), (1, .int x1), (2, .int (x2 + (1 : Int32)))] [] (s1 (s1 σ1 142 (x2 + (1 : Int32)).toNatClampNeg (-1 : Int32)) 143 (x2 + (1 : Int32)).toNatClampNeg (-1 : Int32)) Q)))))))) : Rn PRG (d + 1) 278 16 [(0, .ref 97), (1, .int x1), (2, .int x2)] [] σ Q := by
  have hM : PRG[278]? = some M_278 := rfl
  refine Rn.seg (pc' := 19) (ls' := [(0, .ref 97), (1, .int x1), (2, .int x2)]) (st' := [.int x1, .int x2, .ref 97]) (σ' := σ) hM 3 rfl ?_
  obtain ⟨Qc, hq, h⟩ := h
  refine Rn.cI hM rfl rfl (by decide) hq (fun w2 σ1 hw => ?_)
  replace h := h w2 σ1 hw
  refine Rn.br (c := w2 = 0) (a := 64) (b := 25) (ls' := [(0, .ref 97), (1, .int x1), (2, .int x2)]) (st' := []) (σ' := σ1) hM 1 rfl (fun c => ?_) (fun c => ?_)
  · replace h := h.1 c
    refine Rn.brN (c := x2 = 0) (a := 75) (b := 68) (ls' := [(0, .ref 97), (1, .int x1), (2, .int x2)]) (st' := []) (σ' := σ1) hM 2 rfl (fun c => ?_) (fun c => ?_)
    · replace h := h.2 c
      refine Rn.seg (pc' := 88) (ls' := [(2, .int (x2 + (-1 : Int32))), (0, .ref 97), (1, .int x1)]) (st' := [.int ((x2 + (-1 : Int32)) + (1 : Int32)), .ref 143, .int x1, .int (x2 + (-1 : Int32)), .ref 97]) (σ' := σ1) hM 9 rfl ?_
      refine Rn.iald hM rfl rfl h.1 ?_
      refine Rn.seg (pc' := 89) (ls' := [(2, .int (x2 + (-1 : Int32))), (0, .ref 97), (1, .int x1)]) (st' := [.int (σ1.1 143 ((x2 + (-1 : Int32)) + (1 : Int32)).toNatClampNeg), .int x1, .int (x2 + (-1 : Int32)), .ref 97]) (σ' := σ1) hM 0 rfl ?_
      obtain ⟨Qc, hq, h⟩ := h.2
      refine Rn.cV hM rfl rfl (by decide) hq (fun σ3 hw => ?_)
      replace h := h σ3 hw
      refine Rn.seg (pc' := 16) (ls' := [(2, .int (x2 + (-1 : Int32))), (0, .ref 97), (1, .int x1)]) (st' := []) (σ' := σ3) hM 1 rfl ?_
      exact Rn.sub h (subL_cons rfl (subL_cons rfl (subL_cons rfl subL_nil))) (show ndL _ from (by decide : List.Nodup ([0, 1, 2] : List Nat)))
    · replace h := h.1 c
      refine Rn.seg (pc' := 74) (ls' := [(0, .ref 97), (1, .int x1), (2, .int x2)]) (st' := [.int (σ1.1 143 0)]) (σ' := σ1) hM 4 rfl ?_
      exact Rn.ret hM rfl rfl h
  · replace h := h.2 c
    refine Rn.br (c := (3 : Int32) ≤ x2) (a := 50) (b := 30) (ls' := [(0, .ref 97), (1, .int x1), (2, .int x2)]) (st' := []) (σ' := σ1) hM 3 rfl (fun c => ?_) (fun c => ?_)
    · replace h := h.1 c
      refine Rn.seg (pc' := 55) (ls' := [(0, .ref 97), (1, .int x1), (2, .int x2)]) (st' := [.int x1, .ref 97, .int x1, .int (3 : Int32), .ref 97]) (σ' := σ1) hM 5 rfl ?_
      obtain ⟨Qc, hq, h⟩ := h
      refine Rn.cI hM rfl rfl (by decide) hq (fun w5 σ4 hw => ?_)
      replace h := h w5 σ4 hw
      refine Rn.seg (pc' := 58) (ls' := [(0, .ref 97), (1, .int x1), (2, .int x2)]) (st' := [.int w5, .int x1, .int (3 : Int32), .ref 97]) (σ' := σ4) hM 0 rfl ?_
      obtain ⟨Qc, hq, h⟩ := h
      refine Rn.cV hM rfl rfl (by decide) hq (fun σ6 hw => ?_)
      replace h := h σ6 hw
      refine Rn.seg (pc' := 16) (ls' := [(0, .ref 97), (1, .int x1), (2, .int x2)]) (st' := []) (σ' := σ6) hM 1 rfl ?_
      exact Rn.sub h (subL_cons rfl (subL_cons rfl (subL_cons rfl subL_nil))) (show ndL _ from (by decide : List.Nodup ([0, 1, 2] : List Nat)))
    · replace h := h.2 c
      refine Rn.seg (pc' := 39) (ls' := [(2, .int (x2 + (1 : Int32))), (0, .ref 97), (1, .int x1)]) (st' := [.int (-1 : Int32), .int (x2 + (1 : Int32)), .ref 142]) (σ' := σ1) hM 5 rfl ?_
      refine Rn.iast hM rfl rfl h.1 ?_
      refine Rn.seg (pc' := 46) (ls' := [(2, .int (x2 + (1 : Int32))), (0, .ref 97), (1, .int x1)]) (st' := [.int (-1 : Int32), .int (x2 + (1 : Int32)), .ref 143]) (σ' := (s1 σ1 142 (x2 + (1 : Int32)).toNatClampNeg (-1 : Int32))) hM 4 rfl ?_
      refine Rn.iast hM rfl rfl h.2.1 ?_
      refine Rn.seg (pc' := 16) (ls' := [(2, .int (x2 + (1 : Int32))), (0, .ref 97), (1, .int x1)]) (st' := []) (σ' := (s1 (s1 σ1 142 (x2 + (1 : Int32)).toNatClampNeg (-1 : Int32)) 143 (x2 + (1 : Int32)).toNatClampNeg (-1 : Int32))) hM 1 rfl ?_
      exact Rn.sub h.2.2 (subL_cons rfl (subL_cons rfl (subL_cons rfl subL_nil))) (show ndL _ from (by decide : List.Nodup ([0, 1, 2] : List Nat)))
/-! the search of a trick: small things -/
/-- the pack's ranks are not 0 -/
def pkOK (σ : Sg) : Prop := ¬ (σ.1 107 (σ.1 97 18).toNatClampNeg) = 0
theorem live_in {σ : Sg} (ht : typed TYP σ) : inR (σ.1 97 18) 2 = true := by
  have h := tyF ht (q := 97) (κ := 12) (k := 18) (lo := 0) (hi := 1) rfl rfl
  exact inR_ok h.1 (by omega)
theorem suitOf_OK {d : Nat} {σ : Sg} {x : Int32} (ht : typed TYP σ) (hp : pkOK σ) : OkI PRG d 212 [.ref 97, .int x] σ (fun w σ' => σ' = σ ∧ w = x / (σ.1 107 (σ.1 97 18).toNatClampNeg)) :=
  ⟨M_212, rfl, Nat.le_of_ble_eq_true rfl, w_212_0 σ x ⟨live_in ht, hp, _, rfl, rfl, rfl⟩⟩
theorem trumpSuit_OK {d : Nat} {σ : Sg} (ht : typed TYP σ) : OkI PRG d 214 [.ref 97] σ (fun _ σ' => σ' = σ) :=
  ⟨M_214, rfl, Nat.le_of_ble_eq_true rfl, w_214_0 σ ⟨live_in ht, live_in ht, fun _ => ⟨_, rfl, rfl⟩, fun _ => ⟨live_in ht, _, rfl, rfl⟩⟩⟩
theorem beats_OK {d : Nat} {σ : Sg} {x y : Int32} (ht : typed TYP σ) (hp : pkOK σ) : OkI PRG (d + 1) 228 [.ref 97, .int x, .int y] σ (fun w σ' => σ' = σ ∧ (w = 0 ∨ w = 1)) := by
  refine ⟨M_228, rfl, Nat.le_of_ble_eq_true rfl, w_228_0 σ x y ⟨_, suitOf_OK ht hp, fun w2 σ1 h1 => ?_⟩⟩
  obtain ⟨rfl, -⟩ := h1
  refine ⟨_, suitOf_OK ht hp, fun w4 σ3 h3 => ?_⟩
  obtain ⟨rfl, -⟩ := h3
  refine ⟨fun _ => ⟨fun _ => ⟨_, rfl, rfl, Or.inl rfl⟩, fun _ => ⟨_, rfl, rfl, Or.inr rfl⟩⟩, fun _ => ⟨_, suitOf_OK ht hp, fun w6 σ5 h5 => ?_⟩⟩
  obtain ⟨rfl, -⟩ := h5
  refine ⟨_, trumpSuit_OK ht, fun w8 σ7 h7 => ?_⟩
  subst h7
  exact ⟨fun _ => ⟨_, rfl, rfl, Or.inr rfl⟩, fun _ => ⟨_, rfl, rfl, Or.inl rfl⟩⟩
theorem mul_lit {x c : Int32} {k : Int} (hc : c.toInt = k) (h1 : FL ≤ k * x.toInt) (h2 : k * x.toInt ≤ FH) : (c * x).toInt = k * x.toInt := by
  subst hc; exact mul_ex h1 h2
theorem spot_OK {d : Nat} {σ : Sg} {a b c e f : Int32} (ha : 0 ≤ a.toInt ∧ a.toInt ≤ 3) (hb : 0 ≤ b.toInt ∧ b.toInt ≤ 15) (hc : 0 ≤ c.toInt ∧ c.toInt ≤ 15) (he : 0 ≤ e.toInt ∧ e.toInt ≤ 15) (hf : 0 ≤ f.toInt ∧ f.toInt ≤ 15) : OkI PRG d 273 [.int a, .int b, .int c, .int e, .int f] σ (fun w σ' => σ' = σ ∧ w.toInt = a.toInt + 4 * (b.toInt + 16 * c.toInt + 256 * e.toInt + 4096 * f.toInt)) := by
  refine ⟨M_273, rfl, Nat.le_of_ble_eq_true rfl, w_273_0 σ a b c e f ⟨_, rfl, rfl, ?_⟩⟩
  have e1 : ((16 : Int32) * c).toInt = 16 * c.toInt := mul_lit (by decide) (by unfold FL; omega) (by unfold FH; omega)
  have e2 : ((256 : Int32) * e).toInt = 256 * e.toInt := mul_lit (by decide) (by unfold FL; omega) (by unfold FH; omega)
  have e3 : ((4096 : Int32) * f).toInt = 4096 * f.toInt := mul_lit (by decide) (by unfold FL; omega) (by unfold FH; omega)
  have e4 := add_ex (x := b) (y := (16 : Int32) * c) (by rw [e1]; unfold FL; omega) (by rw [e1]; unfold FH; omega)
  have e5 := add_ex (x := b + (16 : Int32) * c) (y := (256 : Int32) * e) (by rw [e4, e1, e2]; unfold FL; omega) (by rw [e4, e1, e2]; unfold FH; omega)
  have e6 := add_ex (x := b + (16 : Int32) * c + (256 : Int32) * e) (y := (4096 : Int32) * f) (by rw [e5, e4, e1, e2, e3]; unfold FL; omega) (by rw [e5, e4, e1, e2, e3]; unfold FH; omega)
  have e7 : ((4 : Int32) * (b + (16 : Int32) * c + (256 : Int32) * e + (4096 : Int32) * f)).toInt = 4 * (b + (16 : Int32) * c + (256 : Int32) * e + (4096 : Int32) * f).toInt := mul_lit (by decide) (by rw [e6, e5, e4, e1, e2, e3]; unfold FL; omega) (by rw [e6, e5, e4, e1, e2, e3]; unfold FH; omega)
  rw [add_ex (by rw [e7, e6, e5, e4, e1, e2, e3]; unfold FL; omega) (by rw [e7, e6, e5, e4, e1, e2, e3]; unfold FH; omega), e7, e6, e5, e4, e1, e2, e3]
theorem cn_of {x : Int32} {n : Nat} (h : x.toInt = (n : Int)) : x.toNatClampNeg = n := by
  show x.toInt.toNat = n
  omega
/-- who lays at a level -/
def plr (lead level : Nat) : Nat := (lead + level) % 4
theorem plr_ex {x y : Int32} {l n : Nat} (hx : x.toInt = (l : Int)) (hy : y.toInt = (n : Int)) (hl : l ≤ 3) (hn : n ≤ 3) : ((x + y) - (x + y) / (4 : Int32) * (4 : Int32)).toInt = ((plr l n : Nat) : Int) := by
  rw [rem_ex (by decide), add_ex (by unfold FL; omega) (by unfold FH; omega), hx, hy]
  have : (4 : Int32).toInt = 4 := by decide
  rw [this, Int.tmod_eq_emod_of_nonneg (by omega)]
  unfold plr
  omega
def mdTrick : List (Nat × Nat × Nat) := [(97, 0, 3), (98, 0, 3), (99, 0, 3)]
/-- what nextCard leaves and answers -/
def ncP (l p : Nat) (σ : Sg) (w : Int32) (σ' : Sg) : Prop :=
  Gl mdTrick σ σ' ∧ (∀ j, ¬ j = l → σ'.1 142 j = σ.1 142 j) ∧ (∀ j, σ'.1 143 j = σ.1 143 j) ∧
  ((w = 0 ∧ σ'.1 142 l = σ.1 142 l ∧ ((σ.1 142 l).toInt = -1 → (σ.1 97 69).toInt ≤ l ∧ ∀ k : Nat, (k : Int) < (σ.1 137 p).toInt → bt (σ.1 139 p) k = false)) ∨
   (w = 1 ∧ (σ.1 142 l).toInt < (σ'.1 142 l).toInt ∧ 0 ≤ (σ'.1 142 l).toInt ∧ ((l : Int) < (σ.1 97 69).toInt → (σ'.1 142 l).toInt = 0) ∧ ((σ.1 97 69).toInt ≤ l → bt (σ.1 139 p) (σ'.1 142 l).toNatClampNeg = true)))
theorem idx_4 {x3 x6 : Int32} {p k : Nat} (h3 : x3.toInt = (p : Int)) (h6 : x6.toInt = (k : Int)) (hp : p ≤ 3) (hk : k ≤ 3) : (((4 : Int32) * x3) + x6).toInt = ((4 * p + k : Nat) : Int) := by
  have e1 : ((4 : Int32) * x3).toInt = 4 * x3.toInt := mul_lit (by decide) (by unfold FL; omega) (by unfold FH; omega)
  rw [add_ex (by rw [e1]; unfold FL; omega) (by rw [e1]; unfold FH; omega), e1]
  omega
theorem bit_ne0 {x c : Int32} {k : Nat} (hc : c.toInt = (k : Int)) (hk : k < 32) : ((x >>> (c &&& 31)) &&& 1) = 0 ↔ bt x k = false := by
  rw [shr_bt hc hk]
  cases bt x k <;> decide
theorem bit_1 {x c : Int32} {k : Nat} (hc : c.toInt = (k : Int)) (hk : k < 32) : ((x >>> (c &&& 31)) &&& 1) = 1 ↔ bt x k = true := by
  rw [shr_bt hc hk]
  cases bt x k <;> decide
theorem nextCard_B {d : Nat} {x1 x3 x4 x5 : Int32} {σ : Sg} {l p : Nat} (ht : typed TYP σ) (hp : pkOK σ) (h1 : x1.toInt = (l : Int)) (h3 : x3.toInt = (p : Int)) (hl : l ≤ 3) (hp3 : p ≤ 3) (hly : (σ.1 97 69).toInt ≤ l) (hm : ¬ x5 = 0 → ∃ k : Nat, (k : Int) < (σ.1 137 p).toInt ∧ bt (σ.1 139 p) k = true ∧ (σ.1 138 (4 * p + k)) / (σ.1 107 (σ.1 97 18).toNatClampNeg) = x4) : ∀ (m k : Nat) (x6 : Int32), k + m = 5 → x6.toInt = (k : Int) → (σ.1 142 l).toInt < k → (∀ j : Nat, j < k → (σ.1 142 l).toInt = -1 → (j : Int) < (σ.1 137 p).toInt → bt (σ.1 139 p) j = true → ¬ x5 = 0 ∧ ¬ (σ.1 138 (4 * p + j)) / (σ.1 107 (σ.1 97 18).toNatClampNeg) = x4) → Rn PRG (d + 1) 274 137 [(0, .ref 97), (1, .int x1), (3, .int x3), (4, .int x4), (5, .int x5), (6, .int x6)] [] σ (fun v σ' => ∃ w : Int32, v = some (.int w) ∧ ncP l p σ w σ') := by
  have c1 := cn_of h1
  have c3 := cn_of h3
  have hh := tyA ht (q := 137) (κ := 93) (k := p) (a := 0) (b := 3) (lo := 0) (hi := 4) rfl rfl (by omega) (by omega)
  have hin1 : inR x1 4 = true := inR_ok (by omega) (by omega)
  have hin3 : inR x3 4 = true := inR_ok (by omega) (by omega)
  have hend : ∀ (k : Nat) (x6 : Int32), x6.toInt = (k : Int) → (σ.1 137 x3.toNatClampNeg) ≤ x6 → (∀ j : Nat, j < k → (σ.1 142 l).toInt = -1 → (j : Int) < (σ.1 137 p).toInt → bt (σ.1 139 p) j = true → ¬ x5 = 0 ∧ ¬ (σ.1 138 (4 * p + j)) / (σ.1 107 (σ.1 97 18).toNatClampNeg) = x4) → ncP l p σ 0 σ := by
    intro k x6 h6 c hs
    rw [c3, Int32.le_iff_toInt_le, h6] at c
    refine ⟨Gl.refl ht, fun _ _ => rfl, fun _ => rfl, Or.inl ⟨rfl, rfl, fun hm1 => ⟨hly, fun j hj => ?_⟩⟩⟩
    cases hb : bt (σ.1 139 p) j with
    | false => rfl
    | true =>
      obtain ⟨g1, -⟩ := hs j (by omega) hm1 hj hb
      obtain ⟨k0, g3, g4, g5⟩ := hm g1
      exact absurd g5 (hs k0 (by omega) hm1 g3 g4).2
  intro m
  induction m with
  | zero =>
    intro k x6 hk h6 ha hs
    have c : (σ.1 137 x3.toNatClampNeg) ≤ x6 := by rw [c3, Int32.le_iff_toInt_le, h6]; omega
    exact w_274_137 σ x1 x3 x4 x5 x6 ⟨hin3, fun c => ⟨_, rfl, hend k x6 h6 c hs⟩, fun c2 => absurd c c2⟩
  | succ m ih =>
    intro k x6 hk h6 ha hs
    refine w_274_137 σ x1 x3 x4 x5 x6 ⟨hin3, fun c => ⟨_, rfl, hend k x6 h6 c hs⟩, fun c => ⟨hin3, ?_⟩⟩
    rw [c3, Int32.le_iff_toInt_le, h6] at c
    have hk3 : k ≤ 3 := by omega
    have i4 := idx_4 h3 h6 hp3 hk3
    have hin4 : inR (((4 : Int32) * x3) + x6) 16 = true := inR_ok (by omega) (by omega)
    have c4 := cn_of i4
    have hx6 : (x6 + (1 : Int32)).toInt = ((k + 1 : Nat) : Int) := by
      rw [add_lit (k := 1) h6 (by decide) (by unfold FL; omega) (by unfold FH; omega)]; push_cast; rfl
    have skip : (bt (σ.1 139 p) k = true → ¬ x5 = 0 ∧ ¬ (σ.1 138 (4 * p + k)) / (σ.1 107 (σ.1 97 18).toNatClampNeg) = x4) → Rn PRG (d + 1) 274 137 [(0, .ref 97), (1, .int x1), (3, .int x3), (4, .int x4), (5, .int x5), (6, .int (x6 + (1 : Int32)))] [] σ (fun v σ' => ∃ w : Int32, v = some (.int w) ∧ ncP l p σ w σ') := by
      intro hsk
      refine ih (k + 1) _ (by omega) hx6 (by omega) (fun j hj a1 a2 a3 => ?_)
      by_cases hjk : j = k
      · subst hjk; exact hsk a3
      · exact hs j (by omega) a1 a2 a3
    have take : bt (σ.1 139 p) k = true → ncP l p σ 1 (s1 (s1 σ 142 x1.toNatClampNeg x6) 141 x1.toNatClampNeg (σ.1 138 (((4 : Int32) * x3) + x6).toNatClampNeg)) := by
      intro hb
      rw [c1, c4]
      have hc := tyA ht (q := 138) (κ := 94) (k := 4 * p + k) (a := 0) (b := 15) (lo := 0) (hi := 15) rfl rfl (by omega) (by omega)
      have g1 : Gl mdTrick σ (s1 σ 142 l x6) := wrG (κ := 98) (a := 0) (b := 3) (vl := 0) (vh := 3) rfl rfl (Gl.refl ht) rfl (Nat.zero_le _) hl (by omega) (by omega)
      have g2 := wrG (x := σ.1 138 (4 * p + k)) (q := 141) (κ := 97) (a := 0) (b := 3) (vl := 0) (vh := 15) rfl rfl g1 rfl (Nat.zero_le _) hl hc.1 hc.2
      have e1 : (s1 (s1 σ 142 l x6) 141 l (σ.1 138 (4 * p + k))).1 142 l = x6 := by
        rw [s1_off (by omega)]; exact s1_on
      refine ⟨g2, fun j hj => ?_, fun j => ?_, Or.inr ⟨rfl, by rw [e1, h6]; exact ha, by rw [e1]; omega, fun h => absurd hly (by omega), fun _ => by rw [e1, cn_of h6]; exact hb⟩⟩
      · rw [s1_off (by omega), s1_off (by omega)]
      · rw [s1_off (by omega), s1_off (by omega)]
    rw [c3, bit_ne0 h6 (by omega)]
    refine ⟨fun hb => skip (fun h => by rw [hb] at h; cases h), fun hb => ?_⟩
    have hb : bt (σ.1 139 p) k = true := by cases h : bt (σ.1 139 p) k with
      | true => rfl
      | false => exact absurd h hb
    refine ⟨fun _ => ⟨hin1, hin4, hin1, _, rfl, take hb⟩, fun h5 => ⟨hin4, _, suitOf_OK ht hp, fun w2 σ1 hq => ?_⟩⟩
    obtain ⟨rfl, rfl⟩ := hq
    refine ⟨fun _ => ⟨hin1, hin4, hin1, _, rfl, take hb⟩, fun hne => skip (fun _ => ⟨h5, ?_⟩)⟩
    rw [c4] at hne
    exact hne
theorem nextCard_A {d : Nat} {x1 x3 x4 : Int32} {σ : Sg} {l p : Nat} (ht : typed TYP σ) (hp : pkOK σ) (h1 : x1.toInt = (l : Int)) (h3 : x3.toInt = (p : Int)) (hl : l ≤ 3) (hp3 : p ≤ 3) (hly : (σ.1 97 69).toInt ≤ l) : ∀ (m k : Nat) (x5 x6 : Int32), k + m = 4 → x6.toInt = (k : Int) → (¬ x5 = 0 → ∃ k : Nat, (k : Int) < (σ.1 137 p).toInt ∧ bt (σ.1 139 p) k = true ∧ (σ.1 138 (4 * p + k)) / (σ.1 107 (σ.1 97 18).toNatClampNeg) = x4) → Rn PRG (d + 1) 274 72 [(0, .ref 97), (1, .int x1), (3, .int x3), (4, .int x4), (5, .int x5), (6, .int x6)] [] σ (fun v σ' => ∃ w : Int32, v = some (.int w) ∧ ncP l p σ w σ') := by
  have c1 := cn_of h1
  have c3 := cn_of h3
  have hh := tyA ht (q := 137) (κ := 93) (k := p) (a := 0) (b := 3) (lo := 0) (hi := 4) rfl rfl (by omega) (by omega)
  have ha := tyA ht (q := 142) (κ := 98) (k := l) (a := 0) (b := 3) (lo := -1) (hi := 3) rfl rfl (by omega) (by omega)
  have hin1 : inR x1 4 = true := inR_ok (by omega) (by omega)
  have hin3 : inR x3 4 = true := inR_ok (by omega) (by omega)
  have go : ∀ x5 : Int32, (¬ x5 = 0 → ∃ k : Nat, (k : Int) < (σ.1 137 p).toInt ∧ bt (σ.1 139 p) k = true ∧ (σ.1 138 (4 * p + k)) / (σ.1 107 (σ.1 97 18).toNatClampNeg) = x4) → Rn PRG (d + 1) 274 137 [(0, .ref 97), (1, .int x1), (3, .int x3), (4, .int x4), (5, .int x5), (6, .int ((σ.1 142 x1.toNatClampNeg) + (1 : Int32)))] [] σ (fun v σ' => ∃ w : Int32, v = some (.int w) ∧ ncP l p σ w σ') := by
    intro x5 hm
    have e : ((σ.1 142 x1.toNatClampNeg) + (1 : Int32)).toInt = (((σ.1 142 l).toInt + 1).toNat : Int) := by
      rw [c1, add_lit (k := 1) (t := (σ.1 142 l).toInt) rfl (by decide) (by unfold FL; omega) (by unfold FH; omega)]
      omega
    refine nextCard_B ht hp h1 h3 hl hp3 hly hm (5 - ((σ.1 142 l).toInt + 1).toNat) ((σ.1 142 l).toInt + 1).toNat _ (by omega) e (by omega) (fun j hj hm1 => ?_)
    omega
  intro m
  induction m with
  | zero =>
    intro k x5 x6 hk h6 hm
    have c : (σ.1 137 x3.toNatClampNeg) ≤ x6 := by rw [c3, Int32.le_iff_toInt_le, h6]; omega
    exact w_274_72 σ x1 x3 x4 x5 x6 ⟨hin3, fun _ => ⟨hin1, go x5 hm⟩, fun c2 => absurd c c2⟩
  | succ m ih =>
    intro k x5 x6 hk h6 hm
    refine w_274_72 σ x1 x3 x4 x5 x6 ⟨hin3, fun _ => ⟨hin1, go x5 hm⟩, fun c => ⟨hin3, ?_⟩⟩
    rw [c3, Int32.le_iff_toInt_le, h6] at c
    have i4 := idx_4 h3 h6 hp3 (by omega)
    have hin4 : inR (((4 : Int32) * x3) + x6) 16 = true := inR_ok (by omega) (by omega)
    have c4 := cn_of i4
    have hx6 : (x6 + (1 : Int32)).toInt = ((k + 1 : Nat) : Int) := by
      rw [add_lit (k := 1) h6 (by decide) (by unfold FL; omega) (by unfold FH; omega)]; push_cast; rfl
    rw [c3, bit_1 h6 (by omega)]
    refine ⟨fun hb => ⟨hin4, _, suitOf_OK ht hp, fun w2 σ1 hq => ?_⟩, fun _ => ih (k + 1) x5 _ (by omega) hx6 hm⟩
    obtain ⟨rfl, rfl⟩ := hq
    refine ⟨fun he => ih (k + 1) 1 _ (by omega) hx6 (fun _ => ⟨k, by omega, hb, ?_⟩), fun _ => ih (k + 1) x5 _ (by omega) hx6 hm⟩
    rw [c4] at he
    exact he
theorem nextCard_OK {d : Nat} {x1 x2 : Int32} {σ : Sg} {l n : Nat} (ht : typed TYP σ) (hp : pkOK σ) (h1 : x1.toInt = (l : Int)) (h2 : x2.toInt = (n : Int)) (hl : l ≤ 3) (hn : n ≤ 3) (hat : (l : Int) < (σ.1 97 69).toInt → (σ.1 142 l).toInt ≤ 0) : OkI PRG (d + 1) 274 [.ref 97, .int x1, .int x2] σ (ncP l (plr n l) σ) := by
  have c1 := cn_of h1
  have ha := tyA ht (q := 142) (κ := 98) (k := l) (a := 0) (b := 3) (lo := -1) (hi := 3) rfl rfl (by omega) (by omega)
  have hin1 : inR x1 4 = true := inR_ok (by omega) (by omega)
  have hpl := plr_ex h2 h1 hn hl
  have hp3 : plr n l ≤ 3 := by unfold plr; omega
  refine ⟨M_274, rfl, Nat.le_of_ble_eq_true rfl, w_274_0 σ x1 x2 ⟨fun c => ?_, fun c => ?_⟩⟩
  · rw [Int32.le_iff_toInt_le, h1] at c
    refine ⟨fun _ => nextCard_A ht hp h1 hpl hl hp3 c 4 0 0 0 rfl rfl (fun h => absurd rfl h), fun _ => ⟨_, suitOf_OK ht hp, fun w2 σ1 hq => ?_⟩⟩
    obtain ⟨rfl, -⟩ := hq
    exact nextCard_A ht hp h1 hpl hl hp3 c 4 0 0 0 rfl rfl (fun h => absurd rfl h)
  · rw [Int32.le_iff_toInt_le, h1] at c
    rw [c1]
    refine ⟨hin1, fun h0 => ⟨_, rfl, Gl.refl ht, fun _ _ => rfl, fun _ => rfl, Or.inl ⟨rfl, rfl, fun hm1 => ?_⟩⟩, fun h0 => ⟨hin1, hin1, hin1, _, rfl, ?_⟩⟩
    · rw [h0] at hm1
      exact absurd hm1 (by decide)
    · have hle := hat (by omega)
      have hne : ¬ (σ.1 142 l).toInt = 0 := fun h => h0 (Int32.toInt_inj.mp h)
      have hy := tyA ht (q := 140) (κ := 96) (k := l) (a := 0) (b := 3) (lo := -1) (hi := 15) rfl rfl (by omega) (by omega)
      have g1 : Gl mdTrick σ (s1 σ 142 l 0) := wrG (κ := 98) (a := 0) (b := 3) (vl := 0) (vh := 0) rfl rfl (Gl.refl ht) rfl (Nat.zero_le _) hl (by decide) (by decide)
      have g2 := wrG (x := σ.1 140 l) (q := 141) (κ := 97) (a := 0) (b := 3) (vl := -1) (vh := 15) rfl rfl g1 rfl (Nat.zero_le _) hl hy.1 hy.2
      have e1 : (s1 (s1 σ 142 l 0) 141 l (σ.1 140 l)).1 142 l = 0 := by
        rw [s1_off (by omega)]; exact s1_on
      have z : (0 : Int32).toInt = 0 := rfl
      refine ⟨g2, fun j hj => ?_, fun j => ?_, Or.inr ⟨rfl, by rw [e1, z]; omega, by rw [e1, z]; omega, fun _ => by rw [e1, z], fun h => absurd h (by omega)⟩⟩
      · rw [s1_off (by omega), s1_off (by omega)]
      · rw [s1_off (by omega), s1_off (by omega)]
