/-! turns: what must hold -/
set_option maxRecDepth 100000 in
theorem w_229_0 {d : Nat} {Q : Option Value → Sg → Prop} (σ : Sg) (x1 : Int32) (h : Rn PRG (d + 1) 229 8 [(0, .ref 97), (1, .int x1), (2, .int ((4 : Int32) * x1)), (3, .int (((4 : Int32) * x1) + (1 : Int32)))] [] σ Q) : Rn PRG (d + 1) 229 0 [(0, .ref 97), (1, .int x1)] [] σ Q := by
  have hM : PRG[229]? = some M_229 := rfl
  refine Rn.seg (pc' := 8) (ls' := [(3, .int (((4 : Int32) * x1) + (1 : Int32))), (2, .int ((4 : Int32) * x1)), (0, .ref 97), (1, .int x1)]) (st' := []) (σ' := σ) hM 8 rfl ?_
  exact Rn.sub h (subL_cons rfl (subL_cons rfl (subL_cons rfl (subL_cons rfl subL_nil)))) (show ndL _ from (by decide : List.Nodup ([0, 1, 2, 3] : List Nat)))
set_option maxRecDepth 100000 in
theorem w_229_8 {d : Nat} {Q : Option Value → Sg → Prop} (σ : Sg) (x1 x2 x3 : Int32) (h : (((((4 : Int32) * x1) + (4 : Int32)) ≤ x3 → (inR x2 16 = true ∧ Q (some (.int (σ.1 127 x2.toNatClampNeg))) σ)) ∧ (¬ (((4 : Int32) * x1) + (4 : Int32)) ≤ x3 → (inR x3 16 = true ∧ (inR x2 16 = true ∧ (∃ Qc : Int32 → Sg → Prop, OkI PRG d 228 [.ref 97, .int (σ.1 126 x3.toNatClampNeg), .int (σ.1 126 x2.toNatClampNeg)] σ Qc ∧ ∀ w2 σ1, Qc w2 σ1 → ((w2 = 0 → Rn PRG (d + 1) 229 8 [(0, .ref 97), (1, .int x1), (2, .int x2), (3, .int (x3 + (1 : Int32)))] [] σ1 Q) ∧ (¬ w2 = 0 → Rn PRG (d + 1) 229 8 [(0, .ref 97), (1, .int x1), (2, .int x3), (3, .int (x3 + (1 : Int32)))] [] σ1 Q)))))))) : Rn PRG (d + 1) 229 8 [(0, .ref 97), (1, .int x1), (2, .int x2), (3, .int x3)] [] σ Q := by
  have hM : PRG[229]? = some M_229 := rfl
  refine Rn.br (c := (((4 : Int32) * x1) + (4 : Int32)) ≤ x3) (a := 44) (b := 17) (ls' := [(0, .ref 97), (1, .int x1), (2, .int x2), (3, .int x3)]) (st' := []) (σ' := σ) hM 7 rfl (fun c => ?_) (fun c => ?_)
  · replace h := h.1 c
    refine Rn.seg (pc' := 49) (ls' := [(0, .ref 97), (1, .int x1), (2, .int x2), (3, .int x3)]) (st' := [.int x2, .ref 127]) (σ' := σ) hM 3 rfl ?_
    refine Rn.iald hM rfl rfl h.1 ?_
    refine Rn.seg (pc' := 50) (ls' := [(0, .ref 97), (1, .int x1), (2, .int x2), (3, .int x3)]) (st' := [.int (σ.1 127 x2.toNatClampNeg)]) (σ' := σ) hM 0 rfl ?_
    exact Rn.ret hM rfl rfl h.2
  · replace h := h.2 c
    refine Rn.seg (pc' := 23) (ls' := [(0, .ref 97), (1, .int x1), (2, .int x2), (3, .int x3)]) (st' := [.int x3, .ref 126, .ref 97]) (σ' := σ) hM 4 rfl ?_
    refine Rn.iald hM rfl rfl h.1 ?_
    refine Rn.seg (pc' := 29) (ls' := [(0, .ref 97), (1, .int x1), (2, .int x2), (3, .int x3)]) (st' := [.int x2, .ref 126, .int (σ.1 126 x3.toNatClampNeg), .ref 97]) (σ' := σ) hM 3 rfl ?_
    refine Rn.iald hM rfl rfl h.2.1 ?_
    refine Rn.seg (pc' := 30) (ls' := [(0, .ref 97), (1, .int x1), (2, .int x2), (3, .int x3)]) (st' := [.int (σ.1 126 x2.toNatClampNeg), .int (σ.1 126 x3.toNatClampNeg), .ref 97]) (σ' := σ) hM 0 rfl ?_
    obtain ⟨Qc, hq, h⟩ := h.2.2
    refine Rn.cI hM rfl rfl (by decide) hq (fun w2 σ1 hw => ?_)
    replace h := h w2 σ1 hw
    refine Rn.br (c := w2 = 0) (a := 38) (b := 36) (ls' := [(0, .ref 97), (1, .int x1), (2, .int x2), (3, .int x3)]) (st' := []) (σ' := σ1) hM 1 rfl (fun c => ?_) (fun c => ?_)
    · replace h := h.1 c
      refine Rn.seg (pc' := 8) (ls' := [(3, .int (x3 + (1 : Int32))), (0, .ref 97), (1, .int x1), (2, .int x2)]) (st' := []) (σ' := σ1) hM 2 rfl ?_
      exact Rn.sub h (subL_cons rfl (subL_cons rfl (subL_cons rfl (subL_cons rfl subL_nil)))) (show ndL _ from (by decide : List.Nodup ([0, 1, 2, 3] : List Nat)))
    · replace h := h.2 c
      refine Rn.seg (pc' := 8) (ls' := [(3, .int (x3 + (1 : Int32))), (2, .int x3), (0, .ref 97), (1, .int x1)]) (st' := []) (σ' := σ1) hM 4 rfl ?_
      exact Rn.sub h (subL_cons rfl (subL_cons rfl (subL_cons rfl (subL_cons rfl subL_nil)))) (show ndL _ from (by decide : List.Nodup ([0, 1, 2, 3] : List Nat)))
set_option maxRecDepth 100000 in
theorem w_230_0 {d : Nat} {Q : Option Value → Sg → Prop} (σ : Sg) (h : (((σ.1 97 45) = 0 → Q (some (.int (-2 : Int32))) σ) ∧ (¬ (σ.1 97 45) = 0 → (∃ Qc : Int32 → Sg → Prop, OkI PRG d 210 [.ref 97] σ Qc ∧ ∀ w2 σ1, Qc w2 σ1 → (((σ.1 97 48) = w2 → Q (some (.int (-2 : Int32))) σ1) ∧ (¬ (σ.1 97 48) = w2 → ((((σ1.1 97 48) - (σ1.1 97 48) / (4 : Int32) * (4 : Int32)) ≤ 0 → (((σ1.1 97 48) = 0 → Q (some (.int (σ1.1 97 47))) σ1) ∧ (¬ (σ1.1 97 48) = 0 → (∃ Qc : Int32 → Sg → Prop, OkI PRG d 229 [.ref 97, .int (((σ1.1 97 48) / (4 : Int32)) - (1 : Int32))] σ1 Qc ∧ ∀ w4 σ3, Qc w4 σ3 → Q (some (.int w4)) σ3)))) ∧ (¬ ((σ1.1 97 48) - (σ1.1 97 48) / (4 : Int32) * (4 : Int32)) ≤ 0 → (inR ((σ1.1 97 48) - (1 : Int32)) 16 = true ∧ Q (some (.int (((σ1.1 127 ((σ1.1 97 48) - (1 : Int32)).toNatClampNeg) + (1 : Int32)) - ((σ1.1 127 ((σ1.1 97 48) - (1 : Int32)).toNatClampNeg) + (1 : Int32)) / (4 : Int32) * (4 : Int32)))) σ1))))))))) : Rn PRG (d + 1) 230 0 [(0, .ref 97)] [] σ Q := by
  have hM : PRG[230]? = some M_230 := rfl
  refine Rn.br (c := (σ.1 97 45) = 0) (a := 18) (b := 7) (ls' := [(0, .ref 97)]) (st' := []) (σ' := σ) hM 3 rfl (fun c => ?_) (fun c => ?_)
  · replace h := h.1 c
    refine Rn.seg (pc' := 20) (ls' := [(0, .ref 97)]) (st' := [.int (-2 : Int32)]) (σ' := σ) hM 1 rfl ?_
    exact Rn.ret hM rfl rfl h
  · replace h := h.2 c
    refine Rn.seg (pc' := 12) (ls' := [(0, .ref 97)]) (st' := [.ref 97, .int (σ.1 97 48)]) (σ' := σ) hM 3 rfl ?_
    obtain ⟨Qc, hq, h⟩ := h
    refine Rn.cI hM rfl rfl (by decide) hq (fun w2 σ1 hw => ?_)
    replace h := h w2 σ1 hw
    refine Rn.brN (c := (σ.1 97 48) = w2) (a := 21) (b := 18) (ls' := [(0, .ref 97)]) (st' := []) (σ' := σ1) hM 1 rfl (fun c => ?_) (fun c => ?_)
    · replace h := h.2 c
      refine Rn.br (c := ((σ1.1 97 48) - (σ1.1 97 48) / (4 : Int32) * (4 : Int32)) ≤ 0) (a := 46) (b := 30) (ls' := [(0, .ref 97)]) (st' := []) (σ' := σ1) hM 5 rfl (fun c => ?_) (fun c => ?_)
      · replace h := h.1 c
        refine Rn.brN (c := (σ1.1 97 48) = 0) (a := 60) (b := 53) (ls' := [(0, .ref 97)]) (st' := []) (σ' := σ1) hM 3 rfl (fun c => ?_) (fun c => ?_)
        · replace h := h.2 c
          refine Rn.seg (pc' := 69) (ls' := [(0, .ref 97)]) (st' := [.int (((σ1.1 97 48) / (4 : Int32)) - (1 : Int32)), .ref 97]) (σ' := σ1) hM 7 rfl ?_
          obtain ⟨Qc, hq, h⟩ := h
          refine Rn.cI hM rfl rfl (by decide) hq (fun w4 σ3 hw => ?_)
          replace h := h w4 σ3 hw
          refine Rn.seg (pc' := 72) (ls' := [(0, .ref 97)]) (st' := [.int w4]) (σ' := σ3) hM 0 rfl ?_
          exact Rn.ret hM rfl rfl h
        · replace h := h.1 c
          refine Rn.seg (pc' := 72) (ls' := [(0, .ref 97)]) (st' := [.int (σ1.1 97 47)]) (σ' := σ1) hM 3 rfl ?_
          exact Rn.ret hM rfl rfl h
      · replace h := h.2 c
        refine Rn.seg (pc' := 40) (ls' := [(0, .ref 97)]) (st' := [.int ((σ1.1 97 48) - (1 : Int32)), .ref 127]) (σ' := σ1) hM 6 rfl ?_
        refine Rn.iald hM rfl rfl h.1 ?_
        refine Rn.seg (pc' := 45) (ls' := [(0, .ref 97)]) (st' := [.int (((σ1.1 127 ((σ1.1 97 48) - (1 : Int32)).toNatClampNeg) + (1 : Int32)) - ((σ1.1 127 ((σ1.1 97 48) - (1 : Int32)).toNatClampNeg) + (1 : Int32)) / (4 : Int32) * (4 : Int32))]) (σ' := σ1) hM 4 rfl ?_
        exact Rn.ret hM rfl rfl h.2
    · replace h := h.1 c
      refine Rn.seg (pc' := 20) (ls' := [(0, .ref 97)]) (st' := [.int (-2 : Int32)]) (σ' := σ1) hM 1 rfl ?_
      exact Rn.ret hM rfl rfl h
set_option maxRecDepth 100000 in
theorem w_225_0 {d : Nat} {Q : Option Value → Sg → Prop} (σ : Sg) (x1 x2 : Int32) (h : Rn PRG d 225 5 [(0, .ref 97), (1, .int x1), (2, .int x2), (3, .int (0 : Int32)), (4, .int (0 : Int32))] [] σ Q) : Rn PRG d 225 0 [(0, .ref 97), (1, .int x1), (2, .int x2)] [] σ Q := by
  have hM : PRG[225]? = some M_225 := rfl
  refine Rn.seg (pc' := 5) (ls' := [(4, .int (0 : Int32)), (3, .int (0 : Int32)), (0, .ref 97), (1, .int x1), (2, .int x2)]) (st' := []) (σ' := σ) hM 4 rfl ?_
  exact Rn.sub h (subL_cons rfl (subL_cons rfl (subL_cons rfl (subL_cons rfl (subL_cons rfl subL_nil))))) (show ndL _ from (by decide : List.Nodup ([0, 1, 2, 3, 4] : List Nat)))
set_option maxRecDepth 100000 in
theorem w_225_5 {d : Nat} {Q : Option Value → Sg → Prop} (σ : Sg) (x1 x2 x3 x4 : Int32) (h : ((x2 ≤ x4 → Q (some (.int x3)) σ) ∧ (¬ x2 ≤ x4 → (inR x4 16 = true ∧ (((σ.1 127 x4.toNatClampNeg) = x1 → (inR x4 16 = true ∧ Rn PRG d 225 5 [(0, .ref 97), (1, .int x1), (2, .int x2), (3, .int (x3 ||| ((1 : Int32) <<< ((σ.1 126 x4.toNatClampNeg) &&& 31)))), (4, .int (x4 + (1 : Int32)))] [] σ Q)) ∧ (¬ (σ.1 127 x4.toNatClampNeg) = x1 → Rn PRG d 225 5 [(0, .ref 97), (1, .int x1), (2, .int x2), (3, .int x3), (4, .int (x4 + (1 : Int32)))] [] σ Q)))))) : Rn PRG d 225 5 [(0, .ref 97), (1, .int x1), (2, .int x2), (3, .int x3), (4, .int x4)] [] σ Q := by
  have hM : PRG[225]? = some M_225 := rfl
  refine Rn.br (c := x2 ≤ x4) (a := 40) (b := 11) (ls' := [(0, .ref 97), (1, .int x1), (2, .int x2), (3, .int x3), (4, .int x4)]) (st' := []) (σ' := σ) hM 3 rfl (fun c => ?_) (fun c => ?_)
  · replace h := h.1 c
    refine Rn.seg (pc' := 41) (ls' := [(0, .ref 97), (1, .int x1), (2, .int x2), (3, .int x3), (4, .int x4)]) (st' := [.int x3]) (σ' := σ) hM 1 rfl ?_
    exact Rn.ret hM rfl rfl h
  · replace h := h.2 c
    refine Rn.seg (pc' := 17) (ls' := [(0, .ref 97), (1, .int x1), (2, .int x2), (3, .int x3), (4, .int x4)]) (st' := [.int x4, .ref 127]) (σ' := σ) hM 3 rfl ?_
    refine Rn.iald hM rfl rfl h.1 ?_
    refine Rn.brN (c := (σ.1 127 x4.toNatClampNeg) = x1) (a := 34) (b := 22) (ls' := [(0, .ref 97), (1, .int x1), (2, .int x2), (3, .int x3), (4, .int x4)]) (st' := []) (σ' := σ) hM 2 rfl (fun c => ?_) (fun c => ?_)
    · replace h := h.2.2 c
      refine Rn.seg (pc' := 5) (ls' := [(4, .int (x4 + (1 : Int32))), (0, .ref 97), (1, .int x1), (2, .int x2), (3, .int x3)]) (st' := []) (σ' := σ) hM 2 rfl ?_
      exact Rn.sub h (subL_cons rfl (subL_cons rfl (subL_cons rfl (subL_cons rfl (subL_cons rfl subL_nil))))) (show ndL _ from (by decide : List.Nodup ([0, 1, 2, 3, 4] : List Nat)))
    · replace h := h.2.1 c
      refine Rn.seg (pc' := 30) (ls' := [(0, .ref 97), (1, .int x1), (2, .int x2), (3, .int x3), (4, .int x4)]) (st' := [.int x4, .ref 126, .int (1 : Int32), .int x3]) (σ' := σ) hM 5 rfl ?_
      refine Rn.iald hM rfl rfl h.1 ?_
      refine Rn.seg (pc' := 5) (ls' := [(4, .int (x4 + (1 : Int32))), (3, .int (x3 ||| ((1 : Int32) <<< ((σ.1 126 x4.toNatClampNeg) &&& 31)))), (0, .ref 97), (1, .int x1), (2, .int x2)]) (st' := []) (σ' := σ) hM 5 rfl ?_
      exact Rn.sub h.2 (subL_cons rfl (subL_cons rfl (subL_cons rfl (subL_cons rfl (subL_cons rfl subL_nil))))) (show ndL _ from (by decide : List.Nodup ([0, 1, 2, 3, 4] : List Nat)))
set_option maxRecDepth 100000 in
theorem w_281_0 {d : Nat} {Q : Option Value → Sg → Prop} (σ : Sg) (h : Rn PRG (d + 1) 281 2 [(0, .ref 97), (1, .int (0 : Int32))] [] σ Q) : Rn PRG (d + 1) 281 0 [(0, .ref 97)] [] σ Q := by
  have hM : PRG[281]? = some M_281 := rfl
  refine Rn.seg (pc' := 2) (ls' := [(1, .int (0 : Int32)), (0, .ref 97)]) (st' := []) (σ' := σ) hM 2 rfl ?_
  exact Rn.sub h (subL_cons rfl (subL_cons rfl subL_nil)) (show ndL _ from (by decide : List.Nodup ([0, 1] : List Nat)))
set_option maxRecDepth 100000 in
theorem w_281_2 {d : Nat} {Q : Option Value → Sg → Prop} (σ : Sg) (x1 : Int32) (h : (((4 : Int32) ≤ x1 → Rn PRG (d + 1) 281 48 [(0, .ref 97), (1, .int (0 : Int32))] [] (s1 σ 97 69 ((σ.1 97 48) - (σ.1 97 48) / (4 : Int32) * (4 : Int32))) Q) ∧ (¬ (4 : Int32) ≤ x1 → (inR x1 4 = true ∧ (∃ Qc : Int32 → Sg → Prop, OkI PRG d 225 [.ref 97, .int x1, .int (σ.1 97 48)] σ Qc ∧ ∀ w2 σ1, Qc w2 σ1 → (∃ Qc : Sg → Prop, OkV PRG d 272 [.ref 97, .int x1, .int ((σ.1 129 x1.toNatClampNeg) &&& (w2 ^^^ (-1 : Int32)))] σ1 Qc ∧ ∀ σ3, Qc σ3 → Rn PRG (d + 1) 281 2 [(0, .ref 97), (1, .int (x1 + (1 : Int32)))] [] σ3 Q)))))) : Rn PRG (d + 1) 281 2 [(0, .ref 97), (1, .int x1)] [] σ Q := by
  have hM : PRG[281]? = some M_281 := rfl
  refine Rn.br (c := (4 : Int32) ≤ x1) (a := 36) (b := 7) (ls' := [(0, .ref 97), (1, .int x1)]) (st' := []) (σ' := σ) hM 3 rfl (fun c => ?_) (fun c => ?_)
  · replace h := h.1 c
    refine Rn.seg (pc' := 48) (ls' := [(1, .int (0 : Int32)), (0, .ref 97)]) (st' := []) (σ' := (s1 σ 97 69 ((σ.1 97 48) - (σ.1 97 48) / (4 : Int32) * (4 : Int32)))) hM 8 rfl ?_
    exact Rn.sub h (subL_cons rfl (subL_cons rfl subL_nil)) (show ndL _ from (by decide : List.Nodup ([0, 1] : List Nat)))
  · replace h := h.2 c
    refine Rn.seg (pc' := 14) (ls' := [(0, .ref 97), (1, .int x1)]) (st' := [.int x1, .ref 129, .int x1, .ref 97]) (σ' := σ) hM 5 rfl ?_
    refine Rn.iald hM rfl rfl h.1 ?_
    refine Rn.seg (pc' := 21) (ls' := [(0, .ref 97), (1, .int x1)]) (st' := [.int (σ.1 97 48), .int x1, .ref 97, .int (σ.1 129 x1.toNatClampNeg), .int x1, .ref 97]) (σ' := σ) hM 4 rfl ?_
    obtain ⟨Qc, hq, h⟩ := h.2
    refine Rn.cI hM rfl rfl (by decide) hq (fun w2 σ1 hw => ?_)
    replace h := h w2 σ1 hw
    refine Rn.seg (pc' := 27) (ls' := [(0, .ref 97), (1, .int x1)]) (st' := [.int ((σ.1 129 x1.toNatClampNeg) &&& (w2 ^^^ (-1 : Int32))), .int x1, .ref 97]) (σ' := σ1) hM 3 rfl ?_
    obtain ⟨Qc, hq, h⟩ := h
    refine Rn.cV hM rfl rfl (by decide) hq (fun σ3 hw => ?_)
    replace h := h σ3 hw
    refine Rn.seg (pc' := 2) (ls' := [(1, .int (x1 + (1 : Int32))), (0, .ref 97)]) (st' := []) (σ' := σ3) hM 2 rfl ?_
    exact Rn.sub h (subL_cons rfl (subL_cons rfl subL_nil)) (show ndL _ from (by decide : List.Nodup ([0, 1] : List Nat)))
set_option maxRecDepth 100000 in
theorem w_281_48 {d : Nat} {Q : Option Value → Sg → Prop} (σ : Sg) (x1 : Int32) (h : (((σ.1 97 69) ≤ x1 → (((σ.1 97 69) ≤ 0 → (∃ Qc : Int32 → Sg → Prop, OkI PRG d 230 [.ref 97] σ Qc ∧ ∀ w2 σ1, Qc w2 σ1 → Rn PRG (d + 1) 281 120 [(0, .ref 97), (1, .int (0 : Int32)), (2, .int (0 : Int32))] [] (s1 σ1 97 71 w2) Q)) ∧ (¬ (σ.1 97 69) ≤ 0 → (inR ((σ.1 97 48) - (σ.1 97 69)) 16 = true ∧ Rn PRG (d + 1) 281 120 [(0, .ref 97), (1, .int (0 : Int32)), (2, .int (0 : Int32))] [] (s1 σ 97 71 (σ.1 127 ((σ.1 97 48) - (σ.1 97 69)).toNatClampNeg)) Q)))) ∧ (¬ (σ.1 97 69) ≤ x1 → (inR (((σ.1 97 48) - (σ.1 97 69)) + x1) 16 = true ∧ (inR x1 4 = true ∧ Rn PRG (d + 1) 281 48 [(0, .ref 97), (1, .int (x1 + (1 : Int32)))] [] (s1 σ 140 x1.toNatClampNeg (σ.1 126 (((σ.1 97 48) - (σ.1 97 69)) + x1).toNatClampNeg)) Q))))) : Rn PRG (d + 1) 281 48 [(0, .ref 97), (1, .int x1)] [] σ Q := by
  have hM : PRG[281]? = some M_281 := rfl
  refine Rn.br (c := (σ.1 97 69) ≤ x1) (a := 84) (b := 56) (ls' := [(0, .ref 97), (1, .int x1)]) (st' := []) (σ' := σ) hM 4 rfl (fun c => ?_) (fun c => ?_)
  · replace h := h.1 c
    refine Rn.br (c := (σ.1 97 69) ≤ 0) (a := 109) (b := 92) (ls' := [(0, .ref 97), (1, .int x1)]) (st' := [.ref 97]) (σ' := σ) hM 4 rfl (fun c => ?_) (fun c => ?_)
    · replace h := h.1 c
      refine Rn.seg (pc' := 110) (ls' := [(0, .ref 97), (1, .int x1)]) (st' := [.ref 97, .ref 97]) (σ' := σ) hM 1 rfl ?_
      obtain ⟨Qc, hq, h⟩ := h
      refine Rn.cI hM rfl rfl (by decide) hq (fun w2 σ1 hw => ?_)
      replace h := h w2 σ1 hw
      refine Rn.seg (pc' := 120) (ls' := [(2, .int (0 : Int32)), (1, .int (0 : Int32)), (0, .ref 97)]) (st' := []) (σ' := (s1 σ1 97 71 w2)) hM 5 rfl ?_
      exact Rn.sub h (subL_cons rfl (subL_cons rfl (subL_cons rfl subL_nil))) (show ndL _ from (by decide : List.Nodup ([0, 1, 2] : List Nat)))
    · replace h := h.2 c
      refine Rn.seg (pc' := 105) (ls' := [(0, .ref 97), (1, .int x1)]) (st' := [.int ((σ.1 97 48) - (σ.1 97 69)), .ref 127, .ref 97]) (σ' := σ) hM 7 rfl ?_
      refine Rn.iald hM rfl rfl h.1 ?_
      refine Rn.seg (pc' := 120) (ls' := [(2, .int (0 : Int32)), (1, .int (0 : Int32)), (0, .ref 97)]) (st' := []) (σ' := (s1 σ 97 71 (σ.1 127 ((σ.1 97 48) - (σ.1 97 69)).toNatClampNeg))) hM 6 rfl ?_
      exact Rn.sub h.2 (subL_cons rfl (subL_cons rfl (subL_cons rfl subL_nil))) (show ndL _ from (by decide : List.Nodup ([0, 1, 2] : List Nat)))
  · replace h := h.2 c
    refine Rn.seg (pc' := 76) (ls' := [(0, .ref 97), (1, .int x1)]) (st' := [.int (((σ.1 97 48) - (σ.1 97 69)) + x1), .ref 126, .int x1, .ref 140]) (σ' := σ) hM 12 rfl ?_
    refine Rn.iald hM rfl rfl h.1 ?_
    refine Rn.seg (pc' := 77) (ls' := [(0, .ref 97), (1, .int x1)]) (st' := [.int (σ.1 126 (((σ.1 97 48) - (σ.1 97 69)) + x1).toNatClampNeg), .int x1, .ref 140]) (σ' := σ) hM 0 rfl ?_
    refine Rn.iast hM rfl rfl h.2.1 ?_
    refine Rn.seg (pc' := 48) (ls' := [(1, .int (x1 + (1 : Int32))), (0, .ref 97)]) (st' := []) (σ' := (s1 σ 140 x1.toNatClampNeg (σ.1 126 (((σ.1 97 48) - (σ.1 97 69)) + x1).toNatClampNeg))) hM 2 rfl ?_
    exact Rn.sub h.2.2 (subL_cons rfl (subL_cons rfl subL_nil)) (show ndL _ from (by decide : List.Nodup ([0, 1] : List Nat)))
set_option maxRecDepth 100000 in
theorem w_281_120 {d : Nat} {Q : Option Value → Sg → Prop} (σ : Sg) (x1 x2 : Int32) (h : (((4 : Int32) ≤ x2 → (∃ Qc : Sg → Prop, OkV PRG d 280 [.ref 97, .int (x1 - (1 : Int32))] σ Qc ∧ ∀ σ1, Qc σ1 → Q none σ1)) ∧ (¬ (4 : Int32) ≤ x2 → (inR x2 4 = true ∧ (((σ.1 137 x2.toNatClampNeg) ≤ x1 → Rn PRG (d + 1) 281 120 [(0, .ref 97), (1, .int x1), (2, .int (x2 + (1 : Int32)))] [] σ Q) ∧ (¬ (σ.1 137 x2.toNatClampNeg) ≤ x1 → (inR x2 4 = true ∧ Rn PRG (d + 1) 281 120 [(0, .ref 97), (1, .int (σ.1 137 x2.toNatClampNeg)), (2, .int (x2 + (1 : Int32)))] [] σ Q))))))) : Rn PRG (d + 1) 281 120 [(0, .ref 97), (1, .int x1), (2, .int x2)] [] σ Q := by
  have hM : PRG[281]? = some M_281 := rfl
  refine Rn.br (c := (4 : Int32) ≤ x2) (a := 148) (b := 125) (ls' := [(0, .ref 97), (1, .int x1), (2, .int x2)]) (st' := []) (σ' := σ) hM 3 rfl (fun c => ?_) (fun c => ?_)
  · replace h := h.1 c
    refine Rn.seg (pc' := 152) (ls' := [(0, .ref 97), (1, .int x1), (2, .int x2)]) (st' := [.int (x1 - (1 : Int32)), .ref 97]) (σ' := σ) hM 4 rfl ?_
    obtain ⟨Qc, hq, h⟩ := h
    refine Rn.cV hM rfl rfl (by decide) hq (fun σ1 hw => ?_)
    replace h := h σ1 hw
    refine Rn.seg (pc' := 155) (ls' := [(0, .ref 97), (1, .int x1), (2, .int x2)]) (st' := []) (σ' := σ1) hM 0 rfl ?_
    exact Rn.ret hM rfl rfl h
  · replace h := h.2 c
    refine Rn.seg (pc' := 130) (ls' := [(0, .ref 97), (1, .int x1), (2, .int x2)]) (st' := [.int x2, .ref 137]) (σ' := σ) hM 3 rfl ?_
    refine Rn.iald hM rfl rfl h.1 ?_
    refine Rn.br (c := (σ.1 137 x2.toNatClampNeg) ≤ x1) (a := 142) (b := 135) (ls' := [(0, .ref 97), (1, .int x1), (2, .int x2)]) (st' := []) (σ' := σ) hM 2 rfl (fun c => ?_) (fun c => ?_)
    · replace h := h.2.1 c
      refine Rn.seg (pc' := 120) (ls' := [(2, .int (x2 + (1 : Int32))), (0, .ref 97), (1, .int x1)]) (st' := []) (σ' := σ) hM 2 rfl ?_
      exact Rn.sub h (subL_cons rfl (subL_cons rfl (subL_cons rfl subL_nil))) (show ndL _ from (by decide : List.Nodup ([0, 1, 2] : List Nat)))
    · replace h := h.2.2 c
      refine Rn.seg (pc' := 140) (ls' := [(0, .ref 97), (1, .int x1), (2, .int x2)]) (st' := [.int x2, .ref 137]) (σ' := σ) hM 3 rfl ?_
      refine Rn.iald hM rfl rfl h.1 ?_
      refine Rn.seg (pc' := 120) (ls' := [(2, .int (x2 + (1 : Int32))), (1, .int (σ.1 137 x2.toNatClampNeg)), (0, .ref 97)]) (st' := []) (σ' := σ) hM 3 rfl ?_
      exact Rn.sub h.2 (subL_cons rfl (subL_cons rfl (subL_cons rfl subL_nil))) (show ndL _ from (by decide : List.Nodup ([0, 1, 2] : List Nat)))
set_option maxRecDepth 100000 in
theorem w_282_0 {d : Nat} {Q : Option Value → Sg → Prop} (σ : Sg) (h : Rn PRG (d + 1) 282 2 [(0, .ref 97), (1, .int (0 : Int32))] [] σ Q) : Rn PRG (d + 1) 282 0 [(0, .ref 97)] [] σ Q := by
  have hM : PRG[282]? = some M_282 := rfl
  refine Rn.seg (pc' := 2) (ls' := [(1, .int (0 : Int32)), (0, .ref 97)]) (st' := []) (σ' := σ) hM 2 rfl ?_
  exact Rn.sub h (subL_cons rfl (subL_cons rfl subL_nil)) (show ndL _ from (by decide : List.Nodup ([0, 1] : List Nat)))
set_option maxRecDepth 100000 in
theorem w_282_2 {d : Nat} {Q : Option Value → Sg → Prop} (σ : Sg) (x1 : Int32) (h : (((4 : Int32) ≤ x1 → (∃ Qc : Sg → Prop, OkV PRG d 281 [.ref 97] σ Qc ∧ ∀ σ1, Qc σ1 → Q none σ1)) ∧ (¬ (4 : Int32) ≤ x1 → (inR x1 4 = true ∧ (inR x1 4 = true ∧ Rn PRG (d + 1) 282 2 [(0, .ref 97), (1, .int (x1 + (1 : Int32)))] [] (s1 σ 129 x1.toNatClampNeg (σ.1 125 x1.toNatClampNeg)) Q))))) : Rn PRG (d + 1) 282 2 [(0, .ref 97), (1, .int x1)] [] σ Q := by
  have hM : PRG[282]? = some M_282 := rfl
  refine Rn.br (c := (4 : Int32) ≤ x1) (a := 25) (b := 7) (ls' := [(0, .ref 97), (1, .int x1)]) (st' := []) (σ' := σ) hM 3 rfl (fun c => ?_) (fun c => ?_)
  · replace h := h.1 c
    refine Rn.seg (pc' := 26) (ls' := [(0, .ref 97), (1, .int x1)]) (st' := [.ref 97]) (σ' := σ) hM 1 rfl ?_
    obtain ⟨Qc, hq, h⟩ := h
    refine Rn.cV hM rfl rfl (by decide) hq (fun σ1 hw => ?_)
    replace h := h σ1 hw
    refine Rn.seg (pc' := 29) (ls' := [(0, .ref 97), (1, .int x1)]) (st' := []) (σ' := σ1) hM 0 rfl ?_
    exact Rn.ret hM rfl rfl h
  · replace h := h.2 c
    refine Rn.seg (pc' := 17) (ls' := [(0, .ref 97), (1, .int x1)]) (st' := [.int x1, .ref 125, .int x1, .ref 129]) (σ' := σ) hM 6 rfl ?_
    refine Rn.iald hM rfl rfl h.1 ?_
    refine Rn.seg (pc' := 18) (ls' := [(0, .ref 97), (1, .int x1)]) (st' := [.int (σ.1 125 x1.toNatClampNeg), .int x1, .ref 129]) (σ' := σ) hM 0 rfl ?_
    refine Rn.iast hM rfl rfl h.2.1 ?_
    refine Rn.seg (pc' := 2) (ls' := [(1, .int (x1 + (1 : Int32))), (0, .ref 97)]) (st' := []) (σ' := (s1 σ 129 x1.toNatClampNeg (σ.1 125 x1.toNatClampNeg))) hM 2 rfl ?_
    exact Rn.sub h.2.2 (subL_cons rfl (subL_cons rfl subL_nil)) (show ndL _ from (by decide : List.Nodup ([0, 1] : List Nat)))
set_option maxRecDepth 100000 in
theorem w_283_0 {d : Nat} {Q : Option Value → Sg → Prop} (σ : Sg) (h : (∃ Qc : Int32 → Sg → Prop, OkI PRG d 210 [.ref 97] σ Qc ∧ ∀ w2 σ1, Qc w2 σ1 → (((σ.1 97 48) = w2 → Q (some (.int (0 : Int32))) σ1) ∧ (¬ (σ.1 97 48) = w2 → (∃ Qc : Sg → Prop, OkV PRG d 282 [.ref 97] σ1 Qc ∧ ∀ σ3, Qc σ3 → (∃ Qc : Int32 → Sg → Prop, OkI PRG d 278 [.ref 97, .int (σ3.1 97 71)] σ3 Qc ∧ ∀ w5 σ4, Qc w5 σ4 → Q (some (.int w5)) σ4)))))) : Rn PRG (d + 1) 283 0 [(0, .ref 97)] [] σ Q := by
  have hM : PRG[283]? = some M_283 := rfl
  refine Rn.seg (pc' := 5) (ls' := [(0, .ref 97)]) (st' := [.ref 97, .int (σ.1 97 48)]) (σ' := σ) hM 3 rfl ?_
  obtain ⟨Qc, hq, h⟩ := h
  refine Rn.cI hM rfl rfl (by decide) hq (fun w2 σ1 hw => ?_)
  replace h := h w2 σ1 hw
  refine Rn.brN (c := (σ.1 97 48) = w2) (a := 13) (b := 11) (ls' := [(0, .ref 97)]) (st' := []) (σ' := σ1) hM 1 rfl (fun c => ?_) (fun c => ?_)
  · replace h := h.2 c
    refine Rn.seg (pc' := 14) (ls' := [(0, .ref 97)]) (st' := [.ref 97]) (σ' := σ1) hM 1 rfl ?_
    obtain ⟨Qc, hq, h⟩ := h
    refine Rn.cV hM rfl rfl (by decide) hq (fun σ3 hw => ?_)
    replace h := h σ3 hw
    refine Rn.seg (pc' := 22) (ls' := [(0, .ref 97)]) (st' := [.int (σ3.1 97 71), .ref 97]) (σ' := σ3) hM 3 rfl ?_
    obtain ⟨Qc, hq, h⟩ := h
    refine Rn.cI hM rfl rfl (by decide) hq (fun w5 σ4 hw => ?_)
    replace h := h w5 σ4 hw
    refine Rn.seg (pc' := 25) (ls' := [(0, .ref 97)]) (st' := [.int w5]) (σ' := σ4) hM 0 rfl ?_
    exact Rn.ret hM rfl rfl h
  · replace h := h.1 c
    refine Rn.seg (pc' := 12) (ls' := [(0, .ref 97)]) (st' := [.int (0 : Int32)]) (σ' := σ1) hM 1 rfl ?_
    exact Rn.ret hM rfl rfl h
set_option maxRecDepth 100000 in
theorem w_285_0 {d : Nat} {Q : Option Value → Sg → Prop} (σ : Sg) (x1 : Int32) (h : (inR (((σ.1 97 71) + (σ.1 97 69)) - ((σ.1 97 71) + (σ.1 97 69)) / (4 : Int32) * (4 : Int32)) 4 = true ∧ Rn PRG (d + 1) 285 22 [(0, .ref 97), (1, .int x1), (2, .int (((σ.1 97 71) + (σ.1 97 69)) - ((σ.1 97 71) + (σ.1 97 69)) / (4 : Int32) * (4 : Int32))), (3, .int (σ.1 139 (((σ.1 97 71) + (σ.1 97 69)) - ((σ.1 97 71) + (σ.1 97 69)) / (4 : Int32) * (4 : Int32)).toNatClampNeg)), (4, .int (0 : Int32))] [] σ Q)) : Rn PRG (d + 1) 285 0 [(0, .ref 97), (1, .int x1)] [] σ Q := by
  have hM : PRG[285]? = some M_285 := rfl
  refine Rn.seg (pc' := 17) (ls' := [(2, .int (((σ.1 97 71) + (σ.1 97 69)) - ((σ.1 97 71) + (σ.1 97 69)) / (4 : Int32) * (4 : Int32))), (0, .ref 97), (1, .int x1)]) (st' := [.int (((σ.1 97 71) + (σ.1 97 69)) - ((σ.1 97 71) + (σ.1 97 69)) / (4 : Int32) * (4 : Int32)), .ref 139]) (σ' := σ) hM 11 rfl ?_
  refine Rn.iald hM rfl rfl h.1 ?_
  refine Rn.seg (pc' := 22) (ls' := [(4, .int (0 : Int32)), (3, .int (σ.1 139 (((σ.1 97 71) + (σ.1 97 69)) - ((σ.1 97 71) + (σ.1 97 69)) / (4 : Int32) * (4 : Int32)).toNatClampNeg)), (2, .int (((σ.1 97 71) + (σ.1 97 69)) - ((σ.1 97 71) + (σ.1 97 69)) / (4 : Int32) * (4 : Int32))), (0, .ref 97), (1, .int x1)]) (st' := []) (σ' := σ) hM 3 rfl ?_
  exact Rn.sub h.2 (subL_cons rfl (subL_cons rfl (subL_cons rfl (subL_cons rfl (subL_cons rfl subL_nil))))) (show ndL _ from (by decide : List.Nodup ([0, 1, 2, 3, 4] : List Nat)))
set_option maxRecDepth 100000 in
theorem w_285_22 {d : Nat} {Q : Option Value → Sg → Prop} (σ : Sg) (x1 x2 x3 x4 : Int32) (h : (inR x2 4 = true ∧ (((σ.1 137 x2.toNatClampNeg) ≤ x4 → (inR (σ.1 97 69) 4 = true ∧ (∃ Qc : Int32 → Sg → Prop, OkI PRG d 278 [.ref 97, .int (σ.1 97 71)] (s1 (s1 σ 140 (σ.1 97 69).toNatClampNeg x1) 97 69 ((σ.1 97 69) + (1 : Int32))) Qc ∧ ∀ w2 σ1, Qc w2 σ1 → (inR x2 4 = true ∧ Q (some (.int w2)) (s1 (s1 σ1 97 69 ((σ1.1 97 69) - (1 : Int32))) 139 x2.toNatClampNeg x3))))) ∧ (¬ (σ.1 137 x2.toNatClampNeg) ≤ x4 → (inR (((4 : Int32) * x2) + x4) 16 = true ∧ (((σ.1 138 (((4 : Int32) * x2) + x4).toNatClampNeg) = x1 → (inR x2 4 = true ∧ (inR x2 4 = true ∧ Rn PRG (d + 1) 285 22 [(0, .ref 97), (1, .int x1), (2, .int x2), (3, .int x3), (4, .int (x4 + (1 : Int32)))] [] (s1 σ 139 x2.toNatClampNeg ((σ.1 139 x2.toNatClampNeg) &&& (((1 : Int32) <<< (x4 &&& 31)) ^^^ (-1 : Int32)))) Q))) ∧ (¬ (σ.1 138 (((4 : Int32) * x2) + x4).toNatClampNeg) = x1 → Rn PRG (d + 1) 285 22 [(0, .ref 97), (1, .int x1), (2, .int x2), (3, .int x3), (4, .int (x4 + (1 : Int32)))] [] σ Q))))))) : Rn PRG (d + 1) 285 22 [(0, .ref 97), (1, .int x1), (2, .int x2), (3, .int x3), (4, .int x4)] [] σ Q := by
  have hM : PRG[285]? = some M_285 := rfl
  refine Rn.seg (pc' := 29) (ls' := [(0, .ref 97), (1, .int x1), (2, .int x2), (3, .int x3), (4, .int x4)]) (st' := [.int x2, .ref 137, .int x4]) (σ' := σ) hM 4 rfl ?_
  refine Rn.iald hM rfl rfl h.1 ?_
  refine Rn.br (c := (σ.1 137 x2.toNatClampNeg) ≤ x4) (a := 69) (b := 33) (ls' := [(0, .ref 97), (1, .int x1), (2, .int x2), (3, .int x3), (4, .int x4)]) (st' := []) (σ' := σ) hM 1 rfl (fun c => ?_) (fun c => ?_)
  · replace h := h.2.1 c
    refine Rn.seg (pc' := 78) (ls' := [(0, .ref 97), (1, .int x1), (2, .int x2), (3, .int x3), (4, .int x4)]) (st' := [.int x1, .int (σ.1 97 69), .ref 140]) (σ' := σ) hM 5 rfl ?_
    refine Rn.iast hM rfl rfl h.1 ?_
    refine Rn.seg (pc' := 94) (ls' := [(0, .ref 97), (1, .int x1), (2, .int x2), (3, .int x3), (4, .int x4)]) (st' := [.int (σ.1 97 71), .ref 97]) (σ' := (s1 (s1 σ 140 (σ.1 97 69).toNatClampNeg x1) 97 69 ((σ.1 97 69) + (1 : Int32)))) hM 9 rfl ?_
    obtain ⟨Qc, hq, h⟩ := h.2
    refine Rn.cI hM rfl rfl (by decide) hq (fun w2 σ1 hw => ?_)
    replace h := h w2 σ1 hw
    refine Rn.seg (pc' := 115) (ls' := [(4, .int w2), (0, .ref 97), (1, .int x1), (2, .int x2), (3, .int x3)]) (st' := [.int x3, .int x2, .ref 139]) (σ' := (s1 σ1 97 69 ((σ1.1 97 69) - (1 : Int32)))) hM 11 rfl ?_
    refine Rn.iast hM rfl rfl h.1 ?_
    refine Rn.seg (pc' := 118) (ls' := [(4, .int w2), (0, .ref 97), (1, .int x1), (2, .int x2), (3, .int x3)]) (st' := [.int w2]) (σ' := (s1 (s1 σ1 97 69 ((σ1.1 97 69) - (1 : Int32))) 139 x2.toNatClampNeg x3)) hM 1 rfl ?_
    exact Rn.ret hM rfl rfl h.2
  · replace h := h.2.2 c
    refine Rn.seg (pc' := 43) (ls' := [(0, .ref 97), (1, .int x1), (2, .int x2), (3, .int x3), (4, .int x4)]) (st' := [.int (((4 : Int32) * x2) + x4), .ref 138]) (σ' := σ) hM 7 rfl ?_
    refine Rn.iald hM rfl rfl h.1 ?_
    refine Rn.brN (c := (σ.1 138 (((4 : Int32) * x2) + x4).toNatClampNeg) = x1) (a := 63) (b := 48) (ls' := [(0, .ref 97), (1, .int x1), (2, .int x2), (3, .int x3), (4, .int x4)]) (st' := []) (σ' := σ) hM 2 rfl (fun c => ?_) (fun c => ?_)
    · replace h := h.2.2 c
      refine Rn.seg (pc' := 22) (ls' := [(4, .int (x4 + (1 : Int32))), (0, .ref 97), (1, .int x1), (2, .int x2), (3, .int x3)]) (st' := []) (σ' := σ) hM 2 rfl ?_
      exact Rn.sub h (subL_cons rfl (subL_cons rfl (subL_cons rfl (subL_cons rfl (subL_cons rfl subL_nil))))) (show ndL _ from (by decide : List.Nodup ([0, 1, 2, 3, 4] : List Nat)))
    · replace h := h.2.1 c
      refine Rn.seg (pc' := 54) (ls' := [(0, .ref 97), (1, .int x1), (2, .int x2), (3, .int x3), (4, .int x4)]) (st' := [.int x2, .ref 139, .int x2, .ref 139]) (σ' := σ) hM 4 rfl ?_
      refine Rn.iald hM rfl rfl h.1 ?_
      refine Rn.seg (pc' := 62) (ls' := [(0, .ref 97), (1, .int x1), (2, .int x2), (3, .int x3), (4, .int x4)]) (st' := [.int ((σ.1 139 x2.toNatClampNeg) &&& (((1 : Int32) <<< (x4 &&& 31)) ^^^ (-1 : Int32))), .int x2, .ref 139]) (σ' := σ) hM 6 rfl ?_
      refine Rn.iast hM rfl rfl h.2.1 ?_
      refine Rn.seg (pc' := 22) (ls' := [(4, .int (x4 + (1 : Int32))), (0, .ref 97), (1, .int x1), (2, .int x2), (3, .int x3)]) (st' := []) (σ' := (s1 σ 139 x2.toNatClampNeg ((σ.1 139 x2.toNatClampNeg) &&& (((1 : Int32) <<< (x4 &&& 31)) ^^^ (-1 : Int32))))) hM 2 rfl ?_
      exact Rn.sub h.2.2 (subL_cons rfl (subL_cons rfl (subL_cons rfl (subL_cons rfl (subL_cons rfl subL_nil))))) (show ndL _ from (by decide : List.Nodup ([0, 1, 2, 3, 4] : List Nat)))
/-! who won, whose turn it is, who played what -/
theorem le_i {x y : Int32} {a b : Int} (hx : x.toInt = a) (hy : y.toInt = b) : x ≤ y ↔ a ≤ b := by rw [Int32.le_iff_toInt_le, hx, hy]
theorem lt_i {x y : Int32} {a b : Int} (hx : x.toInt = a) (hy : y.toInt = b) : x < y ↔ a < b := by rw [Int32.lt_iff_toInt_lt, hx, hy]
theorem eq_i {x y : Int32} {a b : Int} (hx : x.toInt = a) (hy : y.toInt = b) : x = y ↔ a = b := by rw [← hx, ← hy]; exact Int32.toInt_inj.symm
theorem winner_go {d : Nat} {x1 : Int32} {σ : Sg} {t : Nat} (ht : typed TYP σ) (hp : pkOK σ) (hl : t ≤ 3) (e4 : (((4 : Int32) * x1) + (4 : Int32)).toInt = 4 * (t : Int) + 4) : ∀ (m k : Nat) (x2 x3 : Int32), k + m = 4 * t + 4 → x3.toInt = (k : Int) → 0 ≤ x2.toInt → x2.toInt ≤ 15 → Rn PRG (d + 1 + 1) 229 8 [(0, .ref 97), (1, .int x1), (2, .int x2), (3, .int x3)] [] σ (fun v σ' => ∃ w : Int32, v = some (.int w) ∧ σ' = σ ∧ 0 ≤ w.toInt ∧ w.toInt ≤ 3) := by
  have fin : ∀ x2 : Int32, 0 ≤ x2.toInt → x2.toInt ≤ 15 → inR x2 16 = true ∧ ∃ w : Int32, some (Value.int (σ.1 127 x2.toNatClampNeg)) = some (.int w) ∧ σ = σ ∧ 0 ≤ w.toInt ∧ w.toInt ≤ 3 := by
    intro x2 a b
    have hc : x2.toNatClampNeg = x2.toInt.toNat := rfl
    have := tyA ht (q := 127) (κ := 83) (k := x2.toNatClampNeg) (a := 0) (b := 15) (lo := 0) (hi := 3) rfl rfl (by omega) (by omega)
    exact ⟨inR_ok a (by omega), _, rfl, rfl, this⟩
  intro m
  induction m with
  | zero =>
    intro k x2 x3 hk h3 a b
    refine w_229_8 σ x1 x2 x3 ⟨fun _ => fin x2 a b, fun c => absurd ?_ c⟩
    rw [le_i e4 h3]; omega
  | succ m ih =>
    intro k x2 x3 hk h3 a b
    refine w_229_8 σ x1 x2 x3 ⟨fun _ => fin x2 a b, fun c => ?_⟩
    rw [le_i e4 h3] at c
    have hx3 : (x3 + (1 : Int32)).toInt = ((k + 1 : Nat) : Int) := by
      rw [add_lit (k := 1) h3 (by decide) (by unfold FL; omega) (by unfold FH; omega)]; push_cast; rfl
    clear e4
    refine ⟨inR_ok (by omega) (by omega), inR_ok a (by omega), _, beats_OK ht hp, fun w2 σ1 hq => ?_⟩
    obtain ⟨rfl, -⟩ := hq
    exact ⟨fun _ => ih (k + 1) x2 _ (by omega) hx3 a b, fun _ => ih (k + 1) x3 _ (by omega) hx3 (by omega) (by omega)⟩
theorem winnerOf_OK {d : Nat} {x1 : Int32} {σ : Sg} {t : Nat} (ht : typed TYP σ) (hp : pkOK σ) (h1 : x1.toInt = (t : Int)) (hl : t ≤ 3) : OkI PRG (d + 1 + 1) 229 [.ref 97, .int x1] σ (fun w σ' => σ' = σ ∧ 0 ≤ w.toInt ∧ w.toInt ≤ 3) := by
  have e0 : ((4 : Int32) * x1).toInt = 4 * (t : Int) := by
    rw [mul_lit (c := 4) (k := 4) (by decide) (by unfold FL; omega) (by unfold FH; omega), h1]
  have e4 : (((4 : Int32) * x1) + (4 : Int32)).toInt = 4 * (t : Int) + 4 := add_lit e0 (by decide) (by unfold FL; omega) (by unfold FH; omega)
  have e1 : (((4 : Int32) * x1) + (1 : Int32)).toInt = ((4 * t + 1 : Nat) : Int) := by
    rw [add_lit (k := 1) e0 (by decide) (by unfold FL; omega) (by unfold FH; omega)]; push_cast; rfl
  exact ⟨M_229, rfl, Nat.le_of_ble_eq_true rfl, w_229_0 σ x1 (winner_go ht hp hl e4 3 (4 * t + 1) _ _ (by omega) e1 (by rw [e0]; clear e4 e1; omega) (by rw [e0]; clear e4 e1; omega))⟩
/-- what turnNow answers -/
def tnP (N : Nat) (σ : Sg) (w : Int32) : Prop := (((σ.1 97 45) = 0 ∨ (σ.1 97 48).toInt = (N : Int)) ∧ w.toInt = -2) ∨ (¬ (σ.1 97 45) = 0 ∧ ¬ (σ.1 97 48).toInt = (N : Int) ∧ 0 ≤ w.toInt ∧ w.toInt ≤ 3 ∧ ∀ n : Nat, (σ.1 97 48).toInt = (n : Int) → ¬ n % 4 = 0 → w.toInt = ((σ.1 127 (n - 1)).toInt + 1) % 4)
theorem turnNow_OK {d N : Nat} {σ : Sg} (ht : typed TYP σ) (hp : pack N σ) : OkI PRG (d + 1 + 1 + 1) 230 [.ref 97] σ (fun w σ' => σ' = σ ∧ tnP N σ w) := by
  have hpl := tyF ht (q := 97) (κ := 12) (k := 48) (lo := 0) (hi := 16) rfl rfl
  have hld := tyF ht (q := 97) (κ := 12) (k := 47) (lo := 0) (hi := 3) rfl rfl
  have m2 : (-2 : Int32).toInt = -2 := by decide
  have r4 : ((σ.1 97 48) - (σ.1 97 48) / (4 : Int32) * (4 : Int32)).toInt = (σ.1 97 48).toInt % 4 := by
    rw [rem_ex (by decide)]
    have : (4 : Int32).toInt = 4 := by decide
    rw [this, Int.tmod_eq_emod_of_nonneg hpl.1]
  refine ⟨M_230, rfl, Nat.le_of_ble_eq_true rfl, w_230_0 σ ⟨fun c => ⟨_, rfl, rfl, Or.inl ⟨Or.inl c, m2⟩⟩, fun c0 => ⟨_, cards_OK ht hp, fun w2 σ1 hq => ?_⟩⟩⟩
  obtain ⟨rfl, hw⟩ := hq
  refine ⟨fun c => ⟨_, rfl, rfl, Or.inl ⟨Or.inr (by rw [c]; exact hw), m2⟩⟩, fun c1 => ?_⟩
  have c1 : ¬ (σ1.1 97 48).toInt = (N : Int) := fun h => c1 (Int32.toInt_inj.mp (by rw [h, hw]))
  rw [le_i r4 (b := 0) rfl]
  refine ⟨fun c2 => ⟨fun c3 => ⟨_, rfl, rfl, Or.inr ⟨c0, c1, hld.1, hld.2, fun n hn hn4 => ?_⟩⟩, fun c3 => ?_⟩, fun c2 => ?_⟩
  · clear r4; omega
  · have h0 : ¬ (σ1.1 97 48).toInt = 0 := fun h => c3 (Int32.toInt_inj.mp h)
    have d4 : ((σ1.1 97 48) / (4 : Int32)).toInt = (σ1.1 97 48).toInt / 4 := by
      rw [div_ex (by decide)]
      have : (4 : Int32).toInt = 4 := by decide
      rw [this, Int.tdiv_eq_ediv_of_nonneg hpl.1]
    have d5 : (((σ1.1 97 48) / (4 : Int32)) - (1 : Int32)).toInt = ((((σ1.1 97 48).toInt / 4 - 1).toNat : Nat) : Int) := by
      rw [sub_ex (by rw [d4]; have : (1 : Int32).toInt = 1 := by decide
                     rw [this]; unfold FL; clear r4 d4; omega) (by rw [d4]; have : (1 : Int32).toInt = 1 := by decide
                                                                   rw [this]; unfold FH; clear r4 d4; omega), d4]
      have : (1 : Int32).toInt = 1 := by decide
      rw [this]
      clear r4 d4
      omega
    refine ⟨_, winnerOf_OK ht hp.pk d5 (by clear d5 d4 r4; omega), fun w4 σ3 hq => ?_⟩
    obtain ⟨rfl, a, b⟩ := hq
    refine ⟨_, rfl, rfl, Or.inr ⟨c0, c1, a, b, fun n hn hn4 => ?_⟩⟩
    clear d5 d4 r4; omega
  · have e1 : ((σ1.1 97 48) - (1 : Int32)).toInt = ((((σ1.1 97 48).toInt - 1).toNat : Nat) : Int) := by
      rw [sub_ex (by have : (1 : Int32).toInt = 1 := by decide
                     rw [this]; unfold FL; clear r4; omega) (by have : (1 : Int32).toInt = 1 := by decide
                                                                rw [this]; unfold FH; clear r4; omega)]
      have : (1 : Int32).toInt = 1 := by decide
      rw [this]
      clear r4
      omega
    rw [cn_of e1]
    have hwh := tyA ht (q := 127) (κ := 83) (k := ((σ1.1 97 48).toInt - 1).toNat) (a := 0) (b := 15) (lo := 0) (hi := 3) rfl rfl (by omega) (by clear e1 r4; omega)
    have e2 : ((σ1.1 127 ((σ1.1 97 48).toInt - 1).toNat) + (1 : Int32)).toInt = (σ1.1 127 ((σ1.1 97 48).toInt - 1).toNat).toInt + 1 := add_lit rfl (by decide) (by unfold FL; clear e1 r4; omega) (by unfold FH; clear e1 r4; omega)
    have e3 : (((σ1.1 127 ((σ1.1 97 48).toInt - 1).toNat) + (1 : Int32)) - ((σ1.1 127 ((σ1.1 97 48).toInt - 1).toNat) + (1 : Int32)) / (4 : Int32) * (4 : Int32)).toInt = ((σ1.1 127 ((σ1.1 97 48).toInt - 1).toNat).toInt + 1) % 4 := by
      rw [rem_ex (by decide), e2]
      have : (4 : Int32).toInt = 4 := by decide
      rw [this, Int.tmod_eq_emod_of_nonneg (by clear e1 r4 e2; omega)]
    refine ⟨inR_ok (by rw [e1]; clear e1 r4 e2 e3; omega) (by rw [e1]; clear e1 r4 e2 e3; omega), _, rfl, rfl, Or.inr ⟨c0, c1, ?_, ?_, fun n hn hn4 => ?_⟩⟩
    · rw [e3]; clear e1 r4 e2 e3; omega
    · rw [e3]; clear e1 r4 e2 e3; omega
    · rw [e3]
      have : ((σ1.1 97 48).toInt - 1).toNat = n - 1 := by clear e1 r4 e2 e3; omega
      rw [this]
/-- what playedBy answers: the cards that x laid among the first i -/
def pbP (σ : Sg) (x : Int32) (i : Nat) (w : Int32) : Prop := (∀ b : Nat, b < 16 → (bt w b = true ↔ ∃ k : Nat, k < i ∧ σ.1 127 k = x ∧ (σ.1 126 k).toInt = (b : Int))) ∧ ((∀ k : Nat, k < i → 0 ≤ (σ.1 126 k).toInt) → 0 ≤ w.toInt ∧ w.toInt ≤ 65535)
theorem one_neg : ∀ b : Nat, b < 16 → bt ((1 : Int32) <<< ((-1 : Int32) &&& 31)) b = false := by decide
theorem bt_card {c : Int32} (h1 : -1 ≤ c.toInt) (h2 : c.toInt ≤ 15) {b : Nat} (hb : b < 16) : bt ((1 : Int32) <<< (c &&& 31)) b = true ↔ c.toInt = (b : Int) := by
  by_cases h : c.toInt = -1
  · have : c = -1 := Int32.toInt_inj.mp (by rw [h]; decide)
    subst this
    rw [one_neg b hb]
    constructor
    · intro h; cases h
    · intro h2; rw [h] at h2; omega
  · have hk : c.toInt = ((c.toInt.toNat : Nat) : Int) := by omega
    rw [bt_one hk (by omega) (by omega)]
    constructor
    · intro h3; have := Nat.eq_of_beq_eq_true h3; omega
    · intro h3
      have : b = c.toInt.toNat := by omega
      rw [this]; simp
theorem card_rg {c : Int32} (h1 : 0 ≤ c.toInt) (h2 : c.toInt ≤ 15) : 0 ≤ ((1 : Int32) <<< (c &&& 31)).toInt ∧ ((1 : Int32) <<< (c &&& 31)).toInt ≤ 65535 := by
  have hk : c.toInt = ((c.toInt.toNat : Nat) : Int) := by omega
  have := lt_bt (x := (1 : Int32) <<< (c &&& 31)) (k := 16) (by omega) (fun i h16 h32 => by
    rw [bt_one hk (by omega) h32]
    cases hb : Nat.beq i c.toInt.toNat with
    | false => rfl
    | true => have := Nat.eq_of_beq_eq_true hb; omega)
  omega
theorem played_go {d : Nat} {x1 x2 : Int32} {σ : Sg} {i : Nat} (ht : typed TYP σ) (h2 : x2.toInt = (i : Int)) (hi : i ≤ 16) : ∀ (m k : Nat) (x3 x4 : Int32), k + m = i → x4.toInt = (k : Int) → pbP σ x1 k x3 → Rn PRG d 225 5 [(0, .ref 97), (1, .int x1), (2, .int x2), (3, .int x3), (4, .int x4)] [] σ (fun v σ' => ∃ w : Int32, v = some (.int w) ∧ σ' = σ ∧ pbP σ x1 i w) := by
  intro m
  induction m with
  | zero =>
    intro k x3 x4 hk h4 hP
    have : k = i := by omega
    subst this
    exact w_225_5 σ x1 x2 x3 x4 ⟨fun _ => ⟨_, rfl, rfl, hP⟩, fun c => absurd (by rw [le_i h2 h4]; omega) c⟩
  | succ m ih =>
    intro k x3 x4 hk h4 hP
    refine w_225_5 σ x1 x2 x3 x4 ⟨fun c => ?_, fun c => ?_⟩
    · rw [le_i h2 h4] at c; omega
    have hx4 : (x4 + (1 : Int32)).toInt = ((k + 1 : Nat) : Int) := by
      rw [add_lit (k := 1) h4 (by decide) (by unfold FL; omega) (by unfold FH; omega)]; push_cast; rfl
    have hin : inR x4 16 = true := inR_ok (by omega) (by omega)
    rw [cn_of h4]
    have hc := tyA ht (q := 126) (κ := 82) (k := k) (a := 0) (b := 15) (lo := -1) (hi := 15) rfl rfl (by omega) (by omega)
    refine ⟨hin, fun he => ⟨hin, ih (k + 1) _ _ (by omega) hx4 ⟨fun b hb => ?_, fun hall => ?_⟩⟩, fun hne => ih (k + 1) _ _ (by omega) hx4 ⟨fun b hb => ?_, fun hall => hP.2 (fun j hj => hall j (by omega))⟩⟩
    · rw [bt_or, Bool.or_eq_true, hP.1 b hb, bt_card hc.1 hc.2 hb]
      constructor
      · rintro (⟨j, h1, h2⟩ | h)
        · exact ⟨j, by omega, h2⟩
        · exact ⟨k, by omega, he, h⟩
      · rintro ⟨j, h1, h2, h3⟩
        by_cases hj : j = k
        · subst hj; exact Or.inr h3
        · exact Or.inl ⟨j, by omega, h2, h3⟩
    · exact or_16 (hP.2 (fun j hj => hall j (by omega))) (card_rg (hall k (by omega)) hc.2)
    · rw [hP.1 b hb]
      constructor
      · rintro ⟨j, h1, h2⟩
        exact ⟨j, by omega, h2⟩
      · rintro ⟨j, h1, h2, h3⟩
        by_cases hj : j = k
        · subst hj; exact absurd h2 hne
        · exact ⟨j, by omega, h2, h3⟩
theorem playedBy_OK {d : Nat} {x1 x2 : Int32} {σ : Sg} {i : Nat} (ht : typed TYP σ) (h2 : x2.toInt = (i : Int)) (hi : i ≤ 16) : OkI PRG d 225 [.ref 97, .int x1, .int x2] σ (fun w σ' => σ' = σ ∧ pbP σ x1 i w) :=
  ⟨M_225, rfl, Nat.le_of_ble_eq_true rfl, w_225_0 σ x1 x2 (played_go ht h2 hi i 0 0 0 (by omega) rfl ⟨fun b hb => ⟨fun h => (by rw [bt_0] at h; cases h), fun ⟨k, h, _⟩ => absurd h (by omega)⟩, fun _ => ⟨by decide, by decide⟩⟩)⟩
