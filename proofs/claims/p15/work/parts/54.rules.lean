/-! rules: what must hold -/
set_option maxRecDepth 100000 in
theorem w_206_0 {d : Nat} {Q : Option Value → Sg → Prop} (σ : Sg) (x1 x2 : Int32) (h : Rn PRG d 206 10 [(0, .ref 97), (2, .int x2), (3, .int (0 : Int32)), (4, .int x1)] [] (s1 σ 97 44 (0 : Int32)) Q) : Rn PRG d 206 0 [(0, .ref 97), (1, .int x1), (2, .int x2)] [] σ Q := by
  have hM : PRG[206]? = some M_206 := rfl
  refine Rn.seg (pc' := 10) (ls' := [(4, .int x1), (3, .int (0 : Int32)), (0, .ref 97), (1, .int x1), (2, .int x2)]) (st' := []) (σ' := (s1 σ 97 44 (0 : Int32))) hM 7 rfl ?_
  exact Rn.sub h (subL_cons rfl (subL_cons rfl (subL_cons rfl (subL_cons rfl subL_nil)))) (show ndL _ from (by decide : List.Nodup ([0, 2, 3, 4] : List Nat)))
set_option maxRecDepth 100000 in
theorem w_206_10 {d : Nat} {Q : Option Value → Sg → Prop} (σ : Sg) (x2 x3 x4 : Int32) (h : ((x2 ≤ x4 → Q (some (.int (σ.1 124 0))) σ) ∧ (¬ x2 ≤ x4 → (inR x4 840 = true ∧ (((2 : Int32) ≤ (σ.1 120 x4.toNatClampNeg) → (inR ((x3 + (-1 : Int32)) - (1 : Int32)) 400 = true ∧ (inR (x3 + (-1 : Int32)) 400 = true ∧ (((σ.1 120 x4.toNatClampNeg) = (5 : Int32) → (((σ.1 124 (x3 + (-1 : Int32)).toNatClampNeg) = 0 → Q (some (.int (0 : Int32))) (s1 σ 97 44 (1 : Int32))) ∧ (¬ (σ.1 124 (x3 + (-1 : Int32)).toNatClampNeg) = 0 → (((σ.1 120 x4.toNatClampNeg) = (2 : Int32) → (inR ((x3 + (-1 : Int32)) - (1 : Int32)) 400 = true ∧ Rn PRG d 206 10 [(0, .ref 97), (2, .int x2), (3, .int (x3 + (-1 : Int32))), (4, .int (x4 + (1 : Int32)))] [] (s1 σ 124 ((x3 + (-1 : Int32)) - (1 : Int32)).toNatClampNeg ((σ.1 124 ((x3 + (-1 : Int32)) - (1 : Int32)).toNatClampNeg) + (σ.1 124 (x3 + (-1 : Int32)).toNatClampNeg))) Q)) ∧ (¬ (σ.1 120 x4.toNatClampNeg) = (2 : Int32) → (((σ.1 120 x4.toNatClampNeg) = (3 : Int32) → (inR ((x3 + (-1 : Int32)) - (1 : Int32)) 400 = true ∧ Rn PRG d 206 10 [(0, .ref 97), (2, .int x2), (3, .int (x3 + (-1 : Int32))), (4, .int (x4 + (1 : Int32)))] [] (s1 σ 124 ((x3 + (-1 : Int32)) - (1 : Int32)).toNatClampNeg ((σ.1 124 ((x3 + (-1 : Int32)) - (1 : Int32)).toNatClampNeg) - (σ.1 124 (x3 + (-1 : Int32)).toNatClampNeg))) Q)) ∧ (¬ (σ.1 120 x4.toNatClampNeg) = (3 : Int32) → (((σ.1 120 x4.toNatClampNeg) = (4 : Int32) → (inR ((x3 + (-1 : Int32)) - (1 : Int32)) 400 = true ∧ Rn PRG d 206 10 [(0, .ref 97), (2, .int x2), (3, .int (x3 + (-1 : Int32))), (4, .int (x4 + (1 : Int32)))] [] (s1 σ 124 ((x3 + (-1 : Int32)) - (1 : Int32)).toNatClampNeg ((σ.1 124 ((x3 + (-1 : Int32)) - (1 : Int32)).toNatClampNeg) * (σ.1 124 (x3 + (-1 : Int32)).toNatClampNeg))) Q)) ∧ (¬ (σ.1 120 x4.toNatClampNeg) = (4 : Int32) → (¬ (σ.1 124 (x3 + (-1 : Int32)).toNatClampNeg) = 0 ∧ (inR ((x3 + (-1 : Int32)) - (1 : Int32)) 400 = true ∧ Rn PRG d 206 10 [(0, .ref 97), (2, .int x2), (3, .int (x3 + (-1 : Int32))), (4, .int (x4 + (1 : Int32)))] [] (s1 σ 124 ((x3 + (-1 : Int32)) - (1 : Int32)).toNatClampNeg ((σ.1 124 ((x3 + (-1 : Int32)) - (1 : Int32)).toNatClampNeg) / (σ.1 124 (x3 + (-1 : Int32)).toNatClampNeg))) Q))))))))))) ∧ (¬ (σ.1 120 x4.toNatClampNeg) = (5 : Int32) → (((σ.1 120 x4.toNatClampNeg) = (2 : Int32) → (inR ((x3 + (-1 : Int32)) - (1 : Int32)) 400 = true ∧ Rn PRG d 206 10 [(0, .ref 97), (2, .int x2), (3, .int (x3 + (-1 : Int32))), (4, .int (x4 + (1 : Int32)))] [] (s1 σ 124 ((x3 + (-1 : Int32)) - (1 : Int32)).toNatClampNeg ((σ.1 124 ((x3 + (-1 : Int32)) - (1 : Int32)).toNatClampNeg) + (σ.1 124 (x3 + (-1 : Int32)).toNatClampNeg))) Q)) ∧ (¬ (σ.1 120 x4.toNatClampNeg) = (2 : Int32) → (((σ.1 120 x4.toNatClampNeg) = (3 : Int32) → (inR ((x3 + (-1 : Int32)) - (1 : Int32)) 400 = true ∧ Rn PRG d 206 10 [(0, .ref 97), (2, .int x2), (3, .int (x3 + (-1 : Int32))), (4, .int (x4 + (1 : Int32)))] [] (s1 σ 124 ((x3 + (-1 : Int32)) - (1 : Int32)).toNatClampNeg ((σ.1 124 ((x3 + (-1 : Int32)) - (1 : Int32)).toNatClampNeg) - (σ.1 124 (x3 + (-1 : Int32)).toNatClampNeg))) Q)) ∧ (¬ (σ.1 120 x4.toNatClampNeg) = (3 : Int32) → (((σ.1 120 x4.toNatClampNeg) = (4 : Int32) → (inR ((x3 + (-1 : Int32)) - (1 : Int32)) 400 = true ∧ Rn PRG d 206 10 [(0, .ref 97), (2, .int x2), (3, .int (x3 + (-1 : Int32))), (4, .int (x4 + (1 : Int32)))] [] (s1 σ 124 ((x3 + (-1 : Int32)) - (1 : Int32)).toNatClampNeg ((σ.1 124 ((x3 + (-1 : Int32)) - (1 : Int32)).toNatClampNeg) * (σ.1 124 (x3 + (-1 : Int32)).toNatClampNeg))) Q)) ∧ (¬ (σ.1 120 x4.toNatClampNeg) = (4 : Int32) → (¬ (σ.1 124 (x3 + (-1 : Int32)).toNatClampNeg) = 0 ∧ (inR ((x3 + (-1 : Int32)) - (1 : Int32)) 400 = true ∧ Rn PRG d 206 10 [(0, .ref 97), (2, .int x2), (3, .int (x3 + (-1 : Int32))), (4, .int (x4 + (1 : Int32)))] [] (s1 σ 124 ((x3 + (-1 : Int32)) - (1 : Int32)).toNatClampNeg ((σ.1 124 ((x3 + (-1 : Int32)) - (1 : Int32)).toNatClampNeg) / (σ.1 124 (x3 + (-1 : Int32)).toNatClampNeg))) Q))))))))))))) ∧ (¬ (2 : Int32) ≤ (σ.1 120 x4.toNatClampNeg) → (((σ.1 120 x4.toNatClampNeg) = 0 → (inR x4 840 = true ∧ (inR x3 400 = true ∧ Rn PRG d 206 10 [(0, .ref 97), (2, .int x2), (3, .int (x3 + (1 : Int32))), (4, .int (x4 + (1 : Int32)))] [] (s1 σ 124 x3.toNatClampNeg (σ.1 121 x4.toNatClampNeg)) Q))) ∧ (¬ (σ.1 120 x4.toNatClampNeg) = 0 → (inR x4 840 = true ∧ (inR (σ.1 121 x4.toNatClampNeg) 14 = true ∧ (inR x3 400 = true ∧ Rn PRG d 206 10 [(0, .ref 97), (2, .int x2), (3, .int (x3 + (1 : Int32))), (4, .int (x4 + (1 : Int32)))] [] (s1 σ 124 x3.toNatClampNeg (σ.1 123 (σ.1 121 x4.toNatClampNeg).toNatClampNeg)) Q))))))))))) : Rn PRG d 206 10 [(0, .ref 97), (2, .int x2), (3, .int x3), (4, .int x4)] [] σ Q := by
  have hM : PRG[206]? = some M_206 := rfl
  refine Rn.br (c := x2 ≤ x4) (a := 170) (b := 16) (ls' := [(0, .ref 97), (2, .int x2), (3, .int x3), (4, .int x4)]) (st' := []) (σ' := σ) hM 3 rfl (fun c => ?_) (fun c => ?_)
  · replace h := h.1 c
    refine Rn.seg (pc' := 176) (ls' := [(0, .ref 97), (2, .int x2), (3, .int x3), (4, .int x4)]) (st' := [.int (σ.1 124 0)]) (σ' := σ) hM 4 rfl ?_
    exact Rn.ret hM rfl rfl h
  · replace h := h.2 c
    refine Rn.seg (pc' := 22) (ls' := [(0, .ref 97), (2, .int x2), (3, .int x3), (4, .int x4)]) (st' := [.int x4, .ref 120]) (σ' := σ) hM 3 rfl ?_
    refine Rn.iald hM rfl rfl h.1 ?_
    refine Rn.br (c := (2 : Int32) ≤ (σ.1 120 x4.toNatClampNeg)) (a := 70) (b := 31) (ls' := [(5, .int (σ.1 120 x4.toNatClampNeg)), (0, .ref 97), (2, .int x2), (3, .int x3), (4, .int x4)]) (st' := []) (σ' := σ) hM 4 rfl (fun c => ?_) (fun c => ?_)
    · replace h := h.2.1 c
      refine Rn.seg (pc' := 80) (ls' := [(3, .int (x3 + (-1 : Int32))), (5, .int (σ.1 120 x4.toNatClampNeg)), (0, .ref 97), (2, .int x2), (4, .int x4)]) (st' := [.int ((x3 + (-1 : Int32)) - (1 : Int32)), .ref 124]) (σ' := σ) hM 6 rfl ?_
      refine Rn.iald hM rfl rfl h.1 ?_
      refine Rn.seg (pc' := 88) (ls' := [(6, .int (σ.1 124 ((x3 + (-1 : Int32)) - (1 : Int32)).toNatClampNeg)), (3, .int (x3 + (-1 : Int32))), (5, .int (σ.1 120 x4.toNatClampNeg)), (0, .ref 97), (2, .int x2), (4, .int x4)]) (st' := [.int (x3 + (-1 : Int32)), .ref 124]) (σ' := σ) hM 4 rfl ?_
      refine Rn.iald hM rfl rfl h.2.1 ?_
      refine Rn.brN (c := (σ.1 120 x4.toNatClampNeg) = (5 : Int32)) (a := 109) (b := 97) (ls' := [(7, .int (σ.1 124 (x3 + (-1 : Int32)).toNatClampNeg)), (6, .int (σ.1 124 ((x3 + (-1 : Int32)) - (1 : Int32)).toNatClampNeg)), (3, .int (x3 + (-1 : Int32))), (5, .int (σ.1 120 x4.toNatClampNeg)), (0, .ref 97), (2, .int x2), (4, .int x4)]) (st' := []) (σ' := σ) hM 4 rfl (fun c => ?_) (fun c => ?_)
      · replace h := h.2.2.2 c
        refine Rn.brN (c := (σ.1 120 x4.toNatClampNeg) = (2 : Int32)) (a := 130) (b := 122) (ls' := [(7, .int (σ.1 124 (x3 + (-1 : Int32)).toNatClampNeg)), (6, .int (σ.1 124 ((x3 + (-1 : Int32)) - (1 : Int32)).toNatClampNeg)), (3, .int (x3 + (-1 : Int32))), (5, .int (σ.1 120 x4.toNatClampNeg)), (0, .ref 97), (2, .int x2), (4, .int x4)]) (st' := [.int ((x3 + (-1 : Int32)) - (1 : Int32)), .ref 124]) (σ' := σ) hM 8 rfl (fun c => ?_) (fun c => ?_)
        · replace h := h.2 c
          refine Rn.brN (c := (σ.1 120 x4.toNatClampNeg) = (3 : Int32)) (a := 144) (b := 136) (ls' := [(7, .int (σ.1 124 (x3 + (-1 : Int32)).toNatClampNeg)), (6, .int (σ.1 124 ((x3 + (-1 : Int32)) - (1 : Int32)).toNatClampNeg)), (3, .int (x3 + (-1 : Int32))), (5, .int (σ.1 120 x4.toNatClampNeg)), (0, .ref 97), (2, .int x2), (4, .int x4)]) (st' := [.int ((x3 + (-1 : Int32)) - (1 : Int32)), .ref 124]) (σ' := σ) hM 3 rfl (fun c => ?_) (fun c => ?_)
          · replace h := h.2 c
            refine Rn.brN (c := (σ.1 120 x4.toNatClampNeg) = (4 : Int32)) (a := 158) (b := 150) (ls' := [(7, .int (σ.1 124 (x3 + (-1 : Int32)).toNatClampNeg)), (6, .int (σ.1 124 ((x3 + (-1 : Int32)) - (1 : Int32)).toNatClampNeg)), (3, .int (x3 + (-1 : Int32))), (5, .int (σ.1 120 x4.toNatClampNeg)), (0, .ref 97), (2, .int x2), (4, .int x4)]) (st' := [.int ((x3 + (-1 : Int32)) - (1 : Int32)), .ref 124]) (σ' := σ) hM 3 rfl (fun c => ?_) (fun c => ?_)
            · replace h := h.2 c
              refine Rn.seg (pc' := 162) (ls' := [(7, .int (σ.1 124 (x3 + (-1 : Int32)).toNatClampNeg)), (6, .int (σ.1 124 ((x3 + (-1 : Int32)) - (1 : Int32)).toNatClampNeg)), (3, .int (x3 + (-1 : Int32))), (5, .int (σ.1 120 x4.toNatClampNeg)), (0, .ref 97), (2, .int x2), (4, .int x4)]) (st' := [.int (σ.1 124 (x3 + (-1 : Int32)).toNatClampNeg), .int (σ.1 124 ((x3 + (-1 : Int32)) - (1 : Int32)).toNatClampNeg), .int ((x3 + (-1 : Int32)) - (1 : Int32)), .ref 124]) (σ' := σ) hM 2 rfl ?_
              refine Rn.dv hM rfl h.1 ?_
              refine Rn.seg (pc' := 163) (ls' := [(7, .int (σ.1 124 (x3 + (-1 : Int32)).toNatClampNeg)), (6, .int (σ.1 124 ((x3 + (-1 : Int32)) - (1 : Int32)).toNatClampNeg)), (3, .int (x3 + (-1 : Int32))), (5, .int (σ.1 120 x4.toNatClampNeg)), (0, .ref 97), (2, .int x2), (4, .int x4)]) (st' := [.int ((σ.1 124 ((x3 + (-1 : Int32)) - (1 : Int32)).toNatClampNeg) / (σ.1 124 (x3 + (-1 : Int32)).toNatClampNeg)), .int ((x3 + (-1 : Int32)) - (1 : Int32)), .ref 124]) (σ' := σ) hM 0 rfl ?_
              refine Rn.iast hM rfl rfl h.2.1 ?_
              refine Rn.seg (pc' := 10) (ls' := [(4, .int (x4 + (1 : Int32))), (7, .int (σ.1 124 (x3 + (-1 : Int32)).toNatClampNeg)), (6, .int (σ.1 124 ((x3 + (-1 : Int32)) - (1 : Int32)).toNatClampNeg)), (3, .int (x3 + (-1 : Int32))), (5, .int (σ.1 120 x4.toNatClampNeg)), (0, .ref 97), (2, .int x2)]) (st' := []) (σ' := (s1 σ 124 ((x3 + (-1 : Int32)) - (1 : Int32)).toNatClampNeg ((σ.1 124 ((x3 + (-1 : Int32)) - (1 : Int32)).toNatClampNeg) / (σ.1 124 (x3 + (-1 : Int32)).toNatClampNeg)))) hM 2 rfl ?_
              exact Rn.sub h.2.2 (subL_cons rfl (subL_cons rfl (subL_cons rfl (subL_cons rfl subL_nil)))) (show ndL _ from (by decide : List.Nodup ([0, 2, 3, 4] : List Nat)))
            · replace h := h.1 c
              refine Rn.seg (pc' := 163) (ls' := [(7, .int (σ.1 124 (x3 + (-1 : Int32)).toNatClampNeg)), (6, .int (σ.1 124 ((x3 + (-1 : Int32)) - (1 : Int32)).toNatClampNeg)), (3, .int (x3 + (-1 : Int32))), (5, .int (σ.1 120 x4.toNatClampNeg)), (0, .ref 97), (2, .int x2), (4, .int x4)]) (st' := [.int ((σ.1 124 ((x3 + (-1 : Int32)) - (1 : Int32)).toNatClampNeg) * (σ.1 124 (x3 + (-1 : Int32)).toNatClampNeg)), .int ((x3 + (-1 : Int32)) - (1 : Int32)), .ref 124]) (σ' := σ) hM 4 rfl ?_
              refine Rn.iast hM rfl rfl h.1 ?_
              refine Rn.seg (pc' := 10) (ls' := [(4, .int (x4 + (1 : Int32))), (7, .int (σ.1 124 (x3 + (-1 : Int32)).toNatClampNeg)), (6, .int (σ.1 124 ((x3 + (-1 : Int32)) - (1 : Int32)).toNatClampNeg)), (3, .int (x3 + (-1 : Int32))), (5, .int (σ.1 120 x4.toNatClampNeg)), (0, .ref 97), (2, .int x2)]) (st' := []) (σ' := (s1 σ 124 ((x3 + (-1 : Int32)) - (1 : Int32)).toNatClampNeg ((σ.1 124 ((x3 + (-1 : Int32)) - (1 : Int32)).toNatClampNeg) * (σ.1 124 (x3 + (-1 : Int32)).toNatClampNeg)))) hM 2 rfl ?_
              exact Rn.sub h.2 (subL_cons rfl (subL_cons rfl (subL_cons rfl (subL_cons rfl subL_nil)))) (show ndL _ from (by decide : List.Nodup ([0, 2, 3, 4] : List Nat)))
          · replace h := h.1 c
            refine Rn.seg (pc' := 163) (ls' := [(7, .int (σ.1 124 (x3 + (-1 : Int32)).toNatClampNeg)), (6, .int (σ.1 124 ((x3 + (-1 : Int32)) - (1 : Int32)).toNatClampNeg)), (3, .int (x3 + (-1 : Int32))), (5, .int (σ.1 120 x4.toNatClampNeg)), (0, .ref 97), (2, .int x2), (4, .int x4)]) (st' := [.int ((σ.1 124 ((x3 + (-1 : Int32)) - (1 : Int32)).toNatClampNeg) - (σ.1 124 (x3 + (-1 : Int32)).toNatClampNeg)), .int ((x3 + (-1 : Int32)) - (1 : Int32)), .ref 124]) (σ' := σ) hM 4 rfl ?_
            refine Rn.iast hM rfl rfl h.1 ?_
            refine Rn.seg (pc' := 10) (ls' := [(4, .int (x4 + (1 : Int32))), (7, .int (σ.1 124 (x3 + (-1 : Int32)).toNatClampNeg)), (6, .int (σ.1 124 ((x3 + (-1 : Int32)) - (1 : Int32)).toNatClampNeg)), (3, .int (x3 + (-1 : Int32))), (5, .int (σ.1 120 x4.toNatClampNeg)), (0, .ref 97), (2, .int x2)]) (st' := []) (σ' := (s1 σ 124 ((x3 + (-1 : Int32)) - (1 : Int32)).toNatClampNeg ((σ.1 124 ((x3 + (-1 : Int32)) - (1 : Int32)).toNatClampNeg) - (σ.1 124 (x3 + (-1 : Int32)).toNatClampNeg)))) hM 2 rfl ?_
            exact Rn.sub h.2 (subL_cons rfl (subL_cons rfl (subL_cons rfl (subL_cons rfl subL_nil)))) (show ndL _ from (by decide : List.Nodup ([0, 2, 3, 4] : List Nat)))
        · replace h := h.1 c
          refine Rn.seg (pc' := 163) (ls' := [(7, .int (σ.1 124 (x3 + (-1 : Int32)).toNatClampNeg)), (6, .int (σ.1 124 ((x3 + (-1 : Int32)) - (1 : Int32)).toNatClampNeg)), (3, .int (x3 + (-1 : Int32))), (5, .int (σ.1 120 x4.toNatClampNeg)), (0, .ref 97), (2, .int x2), (4, .int x4)]) (st' := [.int ((σ.1 124 ((x3 + (-1 : Int32)) - (1 : Int32)).toNatClampNeg) + (σ.1 124 (x3 + (-1 : Int32)).toNatClampNeg)), .int ((x3 + (-1 : Int32)) - (1 : Int32)), .ref 124]) (σ' := σ) hM 4 rfl ?_
          refine Rn.iast hM rfl rfl h.1 ?_
          refine Rn.seg (pc' := 10) (ls' := [(4, .int (x4 + (1 : Int32))), (7, .int (σ.1 124 (x3 + (-1 : Int32)).toNatClampNeg)), (6, .int (σ.1 124 ((x3 + (-1 : Int32)) - (1 : Int32)).toNatClampNeg)), (3, .int (x3 + (-1 : Int32))), (5, .int (σ.1 120 x4.toNatClampNeg)), (0, .ref 97), (2, .int x2)]) (st' := []) (σ' := (s1 σ 124 ((x3 + (-1 : Int32)) - (1 : Int32)).toNatClampNeg ((σ.1 124 ((x3 + (-1 : Int32)) - (1 : Int32)).toNatClampNeg) + (σ.1 124 (x3 + (-1 : Int32)).toNatClampNeg)))) hM 2 rfl ?_
          exact Rn.sub h.2 (subL_cons rfl (subL_cons rfl (subL_cons rfl (subL_cons rfl subL_nil)))) (show ndL _ from (by decide : List.Nodup ([0, 2, 3, 4] : List Nat)))
      · replace h := h.2.2.1 c
        refine Rn.brN (c := (σ.1 124 (x3 + (-1 : Int32)).toNatClampNeg) = 0) (a := 109) (b := 102) (ls' := [(7, .int (σ.1 124 (x3 + (-1 : Int32)).toNatClampNeg)), (6, .int (σ.1 124 ((x3 + (-1 : Int32)) - (1 : Int32)).toNatClampNeg)), (3, .int (x3 + (-1 : Int32))), (5, .int (σ.1 120 x4.toNatClampNeg)), (0, .ref 97), (2, .int x2), (4, .int x4)]) (st' := []) (σ' := σ) hM 2 rfl (fun c => ?_) (fun c => ?_)
        · replace h := h.2 c
          refine Rn.brN (c := (σ.1 120 x4.toNatClampNeg) = (2 : Int32)) (a := 130) (b := 122) (ls' := [(7, .int (σ.1 124 (x3 + (-1 : Int32)).toNatClampNeg)), (6, .int (σ.1 124 ((x3 + (-1 : Int32)) - (1 : Int32)).toNatClampNeg)), (3, .int (x3 + (-1 : Int32))), (5, .int (σ.1 120 x4.toNatClampNeg)), (0, .ref 97), (2, .int x2), (4, .int x4)]) (st' := [.int ((x3 + (-1 : Int32)) - (1 : Int32)), .ref 124]) (σ' := σ) hM 8 rfl (fun c => ?_) (fun c => ?_)
          · replace h := h.2 c
            refine Rn.brN (c := (σ.1 120 x4.toNatClampNeg) = (3 : Int32)) (a := 144) (b := 136) (ls' := [(7, .int (σ.1 124 (x3 + (-1 : Int32)).toNatClampNeg)), (6, .int (σ.1 124 ((x3 + (-1 : Int32)) - (1 : Int32)).toNatClampNeg)), (3, .int (x3 + (-1 : Int32))), (5, .int (σ.1 120 x4.toNatClampNeg)), (0, .ref 97), (2, .int x2), (4, .int x4)]) (st' := [.int ((x3 + (-1 : Int32)) - (1 : Int32)), .ref 124]) (σ' := σ) hM 3 rfl (fun c => ?_) (fun c => ?_)
            · replace h := h.2 c
              refine Rn.brN (c := (σ.1 120 x4.toNatClampNeg) = (4 : Int32)) (a := 158) (b := 150) (ls' := [(7, .int (σ.1 124 (x3 + (-1 : Int32)).toNatClampNeg)), (6, .int (σ.1 124 ((x3 + (-1 : Int32)) - (1 : Int32)).toNatClampNeg)), (3, .int (x3 + (-1 : Int32))), (5, .int (σ.1 120 x4.toNatClampNeg)), (0, .ref 97), (2, .int x2), (4, .int x4)]) (st' := [.int ((x3 + (-1 : Int32)) - (1 : Int32)), .ref 124]) (σ' := σ) hM 3 rfl (fun c => ?_) (fun c => ?_)
              · replace h := h.2 c
                refine Rn.seg (pc' := 162) (ls' := [(7, .int (σ.1 124 (x3 + (-1 : Int32)).toNatClampNeg)), (6, .int (σ.1 124 ((x3 + (-1 : Int32)) - (1 : Int32)).toNatClampNeg)), (3, .int (x3 + (-1 : Int32))), (5, .int (σ.1 120 x4.toNatClampNeg)), (0, .ref 97), (2, .int x2), (4, .int x4)]) (st' := [.int (σ.1 124 (x3 + (-1 : Int32)).toNatClampNeg), .int (σ.1 124 ((x3 + (-1 : Int32)) - (1 : Int32)).toNatClampNeg), .int ((x3 + (-1 : Int32)) - (1 : Int32)), .ref 124]) (σ' := σ) hM 2 rfl ?_
                refine Rn.dv hM rfl h.1 ?_
                refine Rn.seg (pc' := 163) (ls' := [(7, .int (σ.1 124 (x3 + (-1 : Int32)).toNatClampNeg)), (6, .int (σ.1 124 ((x3 + (-1 : Int32)) - (1 : Int32)).toNatClampNeg)), (3, .int (x3 + (-1 : Int32))), (5, .int (σ.1 120 x4.toNatClampNeg)), (0, .ref 97), (2, .int x2), (4, .int x4)]) (st' := [.int ((σ.1 124 ((x3 + (-1 : Int32)) - (1 : Int32)).toNatClampNeg) / (σ.1 124 (x3 + (-1 : Int32)).toNatClampNeg)), .int ((x3 + (-1 : Int32)) - (1 : Int32)), .ref 124]) (σ' := σ) hM 0 rfl ?_
                refine Rn.iast hM rfl rfl h.2.1 ?_
                refine Rn.seg (pc' := 10) (ls' := [(4, .int (x4 + (1 : Int32))), (7, .int (σ.1 124 (x3 + (-1 : Int32)).toNatClampNeg)), (6, .int (σ.1 124 ((x3 + (-1 : Int32)) - (1 : Int32)).toNatClampNeg)), (3, .int (x3 + (-1 : Int32))), (5, .int (σ.1 120 x4.toNatClampNeg)), (0, .ref 97), (2, .int x2)]) (st' := []) (σ' := (s1 σ 124 ((x3 + (-1 : Int32)) - (1 : Int32)).toNatClampNeg ((σ.1 124 ((x3 + (-1 : Int32)) - (1 : Int32)).toNatClampNeg) / (σ.1 124 (x3 + (-1 : Int32)).toNatClampNeg)))) hM 2 rfl ?_
                exact Rn.sub h.2.2 (subL_cons rfl (subL_cons rfl (subL_cons rfl (subL_cons rfl subL_nil)))) (show ndL _ from (by decide : List.Nodup ([0, 2, 3, 4] : List Nat)))
              · replace h := h.1 c
                refine Rn.seg (pc' := 163) (ls' := [(7, .int (σ.1 124 (x3 + (-1 : Int32)).toNatClampNeg)), (6, .int (σ.1 124 ((x3 + (-1 : Int32)) - (1 : Int32)).toNatClampNeg)), (3, .int (x3 + (-1 : Int32))), (5, .int (σ.1 120 x4.toNatClampNeg)), (0, .ref 97), (2, .int x2), (4, .int x4)]) (st' := [.int ((σ.1 124 ((x3 + (-1 : Int32)) - (1 : Int32)).toNatClampNeg) * (σ.1 124 (x3 + (-1 : Int32)).toNatClampNeg)), .int ((x3 + (-1 : Int32)) - (1 : Int32)), .ref 124]) (σ' := σ) hM 4 rfl ?_
                refine Rn.iast hM rfl rfl h.1 ?_
                refine Rn.seg (pc' := 10) (ls' := [(4, .int (x4 + (1 : Int32))), (7, .int (σ.1 124 (x3 + (-1 : Int32)).toNatClampNeg)), (6, .int (σ.1 124 ((x3 + (-1 : Int32)) - (1 : Int32)).toNatClampNeg)), (3, .int (x3 + (-1 : Int32))), (5, .int (σ.1 120 x4.toNatClampNeg)), (0, .ref 97), (2, .int x2)]) (st' := []) (σ' := (s1 σ 124 ((x3 + (-1 : Int32)) - (1 : Int32)).toNatClampNeg ((σ.1 124 ((x3 + (-1 : Int32)) - (1 : Int32)).toNatClampNeg) * (σ.1 124 (x3 + (-1 : Int32)).toNatClampNeg)))) hM 2 rfl ?_
                exact Rn.sub h.2 (subL_cons rfl (subL_cons rfl (subL_cons rfl (subL_cons rfl subL_nil)))) (show ndL _ from (by decide : List.Nodup ([0, 2, 3, 4] : List Nat)))
            · replace h := h.1 c
              refine Rn.seg (pc' := 163) (ls' := [(7, .int (σ.1 124 (x3 + (-1 : Int32)).toNatClampNeg)), (6, .int (σ.1 124 ((x3 + (-1 : Int32)) - (1 : Int32)).toNatClampNeg)), (3, .int (x3 + (-1 : Int32))), (5, .int (σ.1 120 x4.toNatClampNeg)), (0, .ref 97), (2, .int x2), (4, .int x4)]) (st' := [.int ((σ.1 124 ((x3 + (-1 : Int32)) - (1 : Int32)).toNatClampNeg) - (σ.1 124 (x3 + (-1 : Int32)).toNatClampNeg)), .int ((x3 + (-1 : Int32)) - (1 : Int32)), .ref 124]) (σ' := σ) hM 4 rfl ?_
              refine Rn.iast hM rfl rfl h.1 ?_
              refine Rn.seg (pc' := 10) (ls' := [(4, .int (x4 + (1 : Int32))), (7, .int (σ.1 124 (x3 + (-1 : Int32)).toNatClampNeg)), (6, .int (σ.1 124 ((x3 + (-1 : Int32)) - (1 : Int32)).toNatClampNeg)), (3, .int (x3 + (-1 : Int32))), (5, .int (σ.1 120 x4.toNatClampNeg)), (0, .ref 97), (2, .int x2)]) (st' := []) (σ' := (s1 σ 124 ((x3 + (-1 : Int32)) - (1 : Int32)).toNatClampNeg ((σ.1 124 ((x3 + (-1 : Int32)) - (1 : Int32)).toNatClampNeg) - (σ.1 124 (x3 + (-1 : Int32)).toNatClampNeg)))) hM 2 rfl ?_
              exact Rn.sub h.2 (subL_cons rfl (subL_cons rfl (subL_cons rfl (subL_cons rfl subL_nil)))) (show ndL _ from (by decide : List.Nodup ([0, 2, 3, 4] : List Nat)))
          · replace h := h.1 c
            refine Rn.seg (pc' := 163) (ls' := [(7, .int (σ.1 124 (x3 + (-1 : Int32)).toNatClampNeg)), (6, .int (σ.1 124 ((x3 + (-1 : Int32)) - (1 : Int32)).toNatClampNeg)), (3, .int (x3 + (-1 : Int32))), (5, .int (σ.1 120 x4.toNatClampNeg)), (0, .ref 97), (2, .int x2), (4, .int x4)]) (st' := [.int ((σ.1 124 ((x3 + (-1 : Int32)) - (1 : Int32)).toNatClampNeg) + (σ.1 124 (x3 + (-1 : Int32)).toNatClampNeg)), .int ((x3 + (-1 : Int32)) - (1 : Int32)), .ref 124]) (σ' := σ) hM 4 rfl ?_
            refine Rn.iast hM rfl rfl h.1 ?_
            refine Rn.seg (pc' := 10) (ls' := [(4, .int (x4 + (1 : Int32))), (7, .int (σ.1 124 (x3 + (-1 : Int32)).toNatClampNeg)), (6, .int (σ.1 124 ((x3 + (-1 : Int32)) - (1 : Int32)).toNatClampNeg)), (3, .int (x3 + (-1 : Int32))), (5, .int (σ.1 120 x4.toNatClampNeg)), (0, .ref 97), (2, .int x2)]) (st' := []) (σ' := (s1 σ 124 ((x3 + (-1 : Int32)) - (1 : Int32)).toNatClampNeg ((σ.1 124 ((x3 + (-1 : Int32)) - (1 : Int32)).toNatClampNeg) + (σ.1 124 (x3 + (-1 : Int32)).toNatClampNeg)))) hM 2 rfl ?_
            exact Rn.sub h.2 (subL_cons rfl (subL_cons rfl (subL_cons rfl (subL_cons rfl subL_nil)))) (show ndL _ from (by decide : List.Nodup ([0, 2, 3, 4] : List Nat)))
        · replace h := h.1 c
          refine Rn.seg (pc' := 108) (ls' := [(7, .int (σ.1 124 (x3 + (-1 : Int32)).toNatClampNeg)), (6, .int (σ.1 124 ((x3 + (-1 : Int32)) - (1 : Int32)).toNatClampNeg)), (3, .int (x3 + (-1 : Int32))), (5, .int (σ.1 120 x4.toNatClampNeg)), (0, .ref 97), (2, .int x2), (4, .int x4)]) (st' := [.int (0 : Int32)]) (σ' := (s1 σ 97 44 (1 : Int32))) hM 4 rfl ?_
          exact Rn.ret hM rfl rfl h
    · replace h := h.2.2 c
      refine Rn.brN (c := (σ.1 120 x4.toNatClampNeg) = 0) (a := 51) (b := 41) (ls' := [(5, .int (σ.1 120 x4.toNatClampNeg)), (0, .ref 97), (2, .int x2), (3, .int x3), (4, .int x4)]) (st' := [.int x3, .ref 124]) (σ' := σ) hM 5 rfl (fun c => ?_) (fun c => ?_)
      · replace h := h.2 c
        refine Rn.seg (pc' := 61) (ls' := [(5, .int (σ.1 120 x4.toNatClampNeg)), (0, .ref 97), (2, .int x2), (3, .int x3), (4, .int x4)]) (st' := [.int x4, .ref 121, .ref 123, .int x3, .ref 124]) (σ' := σ) hM 5 rfl ?_
        refine Rn.iald hM rfl rfl h.1 ?_
        refine Rn.seg (pc' := 62) (ls' := [(5, .int (σ.1 120 x4.toNatClampNeg)), (0, .ref 97), (2, .int x2), (3, .int x3), (4, .int x4)]) (st' := [.int (σ.1 121 x4.toNatClampNeg), .ref 123, .int x3, .ref 124]) (σ' := σ) hM 0 rfl ?_
        refine Rn.iald hM rfl rfl h.2.1 ?_
        refine Rn.seg (pc' := 63) (ls' := [(5, .int (σ.1 120 x4.toNatClampNeg)), (0, .ref 97), (2, .int x2), (3, .int x3), (4, .int x4)]) (st' := [.int (σ.1 123 (σ.1 121 x4.toNatClampNeg).toNatClampNeg), .int x3, .ref 124]) (σ' := σ) hM 0 rfl ?_
        refine Rn.iast hM rfl rfl h.2.2.1 ?_
        refine Rn.seg (pc' := 10) (ls' := [(4, .int (x4 + (1 : Int32))), (3, .int (x3 + (1 : Int32))), (5, .int (σ.1 120 x4.toNatClampNeg)), (0, .ref 97), (2, .int x2)]) (st' := []) (σ' := (s1 σ 124 x3.toNatClampNeg (σ.1 123 (σ.1 121 x4.toNatClampNeg).toNatClampNeg))) hM 4 rfl ?_
        exact Rn.sub h.2.2.2 (subL_cons rfl (subL_cons rfl (subL_cons rfl (subL_cons rfl subL_nil)))) (show ndL _ from (by decide : List.Nodup ([0, 2, 3, 4] : List Nat)))
      · replace h := h.1 c
        refine Rn.seg (pc' := 47) (ls' := [(5, .int (σ.1 120 x4.toNatClampNeg)), (0, .ref 97), (2, .int x2), (3, .int x3), (4, .int x4)]) (st' := [.int x4, .ref 121, .int x3, .ref 124]) (σ' := σ) hM 3 rfl ?_
        refine Rn.iald hM rfl rfl h.1 ?_
        refine Rn.seg (pc' := 63) (ls' := [(5, .int (σ.1 120 x4.toNatClampNeg)), (0, .ref 97), (2, .int x2), (3, .int x3), (4, .int x4)]) (st' := [.int (σ.1 121 x4.toNatClampNeg), .int x3, .ref 124]) (σ' := σ) hM 1 rfl ?_
        refine Rn.iast hM rfl rfl h.2.1 ?_
        refine Rn.seg (pc' := 10) (ls' := [(4, .int (x4 + (1 : Int32))), (3, .int (x3 + (1 : Int32))), (5, .int (σ.1 120 x4.toNatClampNeg)), (0, .ref 97), (2, .int x2)]) (st' := []) (σ' := (s1 σ 124 x3.toNatClampNeg (σ.1 121 x4.toNatClampNeg))) hM 4 rfl ?_
        exact Rn.sub h.2.2 (subL_cons rfl (subL_cons rfl (subL_cons rfl (subL_cons rfl subL_nil)))) (show ndL _ from (by decide : List.Nodup ([0, 2, 3, 4] : List Nat)))
set_option maxRecDepth 100000 in
theorem w_207_0 {d : Nat} {Q : Option Value → Sg → Prop} (σ : Sg) (x1 : Int32) (h : (inR x1 300 = true ∧ (inR x1 300 = true ∧ (∃ Qc : Int32 → Sg → Prop, OkI PRG d 206 [.ref 97, .int (σ.1 117 x1.toNatClampNeg), .int (σ.1 118 x1.toNatClampNeg)] σ Qc ∧ ∀ w2 σ1, Qc w2 σ1 → (inR x1 300 = true ∧ (inR x1 300 = true ∧ (∃ Qc : Int32 → Sg → Prop, OkI PRG d 206 [.ref 97, .int (σ1.1 118 x1.toNatClampNeg), .int (σ1.1 119 x1.toNatClampNeg)] σ1 Qc ∧ ∀ w4 σ3, Qc w4 σ3 → (((σ1.1 97 44) = 0 → (((σ3.1 97 44) = 0 → (inR x1 300 = true ∧ (((σ3.1 114 x1.toNatClampNeg) = 0 → ((w2 = w4 → (inR x1 300 = true ∧ (((1 : Int32) = (σ3.1 115 x1.toNatClampNeg) → Q (some (.int (0 : Int32))) σ3) ∧ (¬ (1 : Int32) = (σ3.1 115 x1.toNatClampNeg) → Q (some (.int (1 : Int32))) σ3)))) ∧ (¬ w2 = w4 → Rn PRG (d + 1) 207 154 [(0, .ref 97), (1, .int x1)] [] σ3 Q))) ∧ (¬ (σ3.1 114 x1.toNatClampNeg) = 0 → (inR x1 300 = true ∧ (((σ3.1 114 x1.toNatClampNeg) = (1 : Int32) → ((w2 = w4 → Rn PRG (d + 1) 207 154 [(0, .ref 97), (1, .int x1)] [] σ3 Q) ∧ (¬ w2 = w4 → (inR x1 300 = true ∧ (((1 : Int32) = (σ3.1 115 x1.toNatClampNeg) → Q (some (.int (0 : Int32))) σ3) ∧ (¬ (1 : Int32) = (σ3.1 115 x1.toNatClampNeg) → Q (some (.int (1 : Int32))) σ3)))))) ∧ (¬ (σ3.1 114 x1.toNatClampNeg) = (1 : Int32) → (inR x1 300 = true ∧ (((σ3.1 114 x1.toNatClampNeg) = (2 : Int32) → ((w4 ≤ w2 → Rn PRG (d + 1) 207 154 [(0, .ref 97), (1, .int x1)] [] σ3 Q) ∧ (¬ w4 ≤ w2 → (inR x1 300 = true ∧ (((1 : Int32) = (σ3.1 115 x1.toNatClampNeg) → Q (some (.int (0 : Int32))) σ3) ∧ (¬ (1 : Int32) = (σ3.1 115 x1.toNatClampNeg) → Q (some (.int (1 : Int32))) σ3)))))) ∧ (¬ (σ3.1 114 x1.toNatClampNeg) = (2 : Int32) → ((w4 < w2 → Rn PRG (d + 1) 207 154 [(0, .ref 97), (1, .int x1)] [] σ3 Q) ∧ (¬ w4 < w2 → (inR x1 300 = true ∧ (((1 : Int32) = (σ3.1 115 x1.toNatClampNeg) → Q (some (.int (0 : Int32))) σ3) ∧ (¬ (1 : Int32) = (σ3.1 115 x1.toNatClampNeg) → Q (some (.int (1 : Int32))) σ3))))))))))))))) ∧ (¬ (σ3.1 97 44) = 0 → Rn PRG (d + 1) 207 51 [(0, .ref 97), (1, .int x1), (2, .int w2), (4, .int w4)] [] σ3 Q))) ∧ (¬ (σ1.1 97 44) = 0 → Rn PRG (d + 1) 207 51 [(0, .ref 97), (1, .int x1), (2, .int w2), (4, .int w4)] [] σ3 Q))))))))) : Rn PRG (d + 1) 207 0 [(0, .ref 97), (1, .int x1)] [] σ Q := by
  have hM : PRG[207]? = some M_207 := rfl
  refine Rn.seg (pc' := 6) (ls' := [(0, .ref 97), (1, .int x1)]) (st' := [.int x1, .ref 117, .ref 97]) (σ' := σ) hM 4 rfl ?_
  refine Rn.iald hM rfl rfl h.1 ?_
  refine Rn.seg (pc' := 12) (ls' := [(0, .ref 97), (1, .int x1)]) (st' := [.int x1, .ref 118, .int (σ.1 117 x1.toNatClampNeg), .ref 97]) (σ' := σ) hM 3 rfl ?_
  refine Rn.iald hM rfl rfl h.2.1 ?_
  refine Rn.seg (pc' := 13) (ls' := [(0, .ref 97), (1, .int x1)]) (st' := [.int (σ.1 118 x1.toNatClampNeg), .int (σ.1 117 x1.toNatClampNeg), .ref 97]) (σ' := σ) hM 0 rfl ?_
  obtain ⟨Qc, hq, h⟩ := h.2.2
  refine Rn.cI hM rfl rfl (by decide) hq (fun w2 σ1 hw => ?_)
  replace h := h w2 σ1 hw
  refine Rn.seg (pc' := 28) (ls' := [(3, .int (σ1.1 97 44)), (2, .int w2), (0, .ref 97), (1, .int x1)]) (st' := [.int x1, .ref 118, .ref 97]) (σ' := σ1) hM 8 rfl ?_
  refine Rn.iald hM rfl rfl h.1 ?_
  refine Rn.seg (pc' := 34) (ls' := [(3, .int (σ1.1 97 44)), (2, .int w2), (0, .ref 97), (1, .int x1)]) (st' := [.int x1, .ref 119, .int (σ1.1 118 x1.toNatClampNeg), .ref 97]) (σ' := σ1) hM 3 rfl ?_
  refine Rn.iald hM rfl rfl h.2.1 ?_
  refine Rn.seg (pc' := 35) (ls' := [(3, .int (σ1.1 97 44)), (2, .int w2), (0, .ref 97), (1, .int x1)]) (st' := [.int (σ1.1 119 x1.toNatClampNeg), .int (σ1.1 118 x1.toNatClampNeg), .ref 97]) (σ' := σ1) hM 0 rfl ?_
  obtain ⟨Qc, hq, h⟩ := h.2.2
  refine Rn.cI hM rfl rfl (by decide) hq (fun w4 σ3 hw => ?_)
  replace h := h w4 σ3 hw
  refine Rn.brN (c := (σ1.1 97 44) = 0) (a := 51) (b := 44) (ls' := [(4, .int w4), (3, .int (σ1.1 97 44)), (2, .int w2), (0, .ref 97), (1, .int x1)]) (st' := []) (σ' := σ3) hM 3 rfl (fun c => ?_) (fun c => ?_)
  · replace h := h.2 c
    refine Rn.seg (pc' := 51) (ls' := [(4, .int w4), (3, .int (σ1.1 97 44)), (2, .int w2), (0, .ref 97), (1, .int x1)]) (st' := []) (σ' := σ3) hM 0 rfl ?_
    exact Rn.sub h (subL_cons rfl (subL_cons rfl (subL_cons rfl (subL_cons rfl subL_nil)))) (show ndL _ from (by decide : List.Nodup ([0, 1, 2, 4] : List Nat)))
  · replace h := h.1 c
    refine Rn.br (c := (σ3.1 97 44) = 0) (a := 55) (b := 51) (ls' := [(4, .int w4), (3, .int (σ1.1 97 44)), (2, .int w2), (0, .ref 97), (1, .int x1)]) (st' := []) (σ' := σ3) hM 3 rfl (fun c => ?_) (fun c => ?_)
    · replace h := h.1 c
      refine Rn.seg (pc' := 62) (ls' := [(3, .int (0 : Int32)), (4, .int w4), (2, .int w2), (0, .ref 97), (1, .int x1)]) (st' := [.int x1, .ref 114]) (σ' := σ3) hM 5 rfl ?_
      refine Rn.iald hM rfl rfl h.1 ?_
      refine Rn.brN (c := (σ3.1 114 x1.toNatClampNeg) = 0) (a := 80) (b := 66) (ls' := [(3, .int (0 : Int32)), (4, .int w4), (2, .int w2), (0, .ref 97), (1, .int x1)]) (st' := []) (σ' := σ3) hM 1 rfl (fun c => ?_) (fun c => ?_)
      · replace h := h.2.2 c
        refine Rn.seg (pc' := 85) (ls' := [(3, .int (0 : Int32)), (4, .int w4), (2, .int w2), (0, .ref 97), (1, .int x1)]) (st' := [.int x1, .ref 114]) (σ' := σ3) hM 3 rfl ?_
        refine Rn.iald hM rfl rfl h.1 ?_
        refine Rn.brN (c := (σ3.1 114 x1.toNatClampNeg) = (1 : Int32)) (a := 104) (b := 90) (ls' := [(3, .int (0 : Int32)), (4, .int w4), (2, .int w2), (0, .ref 97), (1, .int x1)]) (st' := []) (σ' := σ3) hM 2 rfl (fun c => ?_) (fun c => ?_)
        · replace h := h.2.2 c
          refine Rn.seg (pc' := 109) (ls' := [(3, .int (0 : Int32)), (4, .int w4), (2, .int w2), (0, .ref 97), (1, .int x1)]) (st' := [.int x1, .ref 114]) (σ' := σ3) hM 3 rfl ?_
          refine Rn.iald hM rfl rfl h.1 ?_
          refine Rn.brN (c := (σ3.1 114 x1.toNatClampNeg) = (2 : Int32)) (a := 128) (b := 114) (ls' := [(3, .int (0 : Int32)), (4, .int w4), (2, .int w2), (0, .ref 97), (1, .int x1)]) (st' := []) (σ' := σ3) hM 2 rfl (fun c => ?_) (fun c => ?_)
          · replace h := h.2.2 c
            refine Rn.br (c := w4 < w2) (a := 138) (b := 134) (ls' := [(3, .int (0 : Int32)), (4, .int w4), (2, .int w2), (0, .ref 97), (1, .int x1)]) (st' := []) (σ' := σ3) hM 3 rfl (fun c => ?_) (fun c => ?_)
            · replace h := h.1 c
              refine Rn.seg (pc' := 154) (ls' := [(5, .int (0 : Int32)), (3, .int (0 : Int32)), (4, .int w4), (2, .int w2), (0, .ref 97), (1, .int x1)]) (st' := []) (σ' := σ3) hM 4 rfl ?_
              exact Rn.sub h (subL_cons rfl (subL_cons rfl subL_nil)) (show ndL _ from (by decide : List.Nodup ([0, 1] : List Nat)))
            · replace h := h.2 c
              refine Rn.seg (pc' := 160) (ls' := [(5, .int (1 : Int32)), (3, .int (0 : Int32)), (4, .int w4), (2, .int w2), (0, .ref 97), (1, .int x1)]) (st' := [.int x1, .ref 115, .int (1 : Int32)]) (σ' := σ3) hM 12 rfl ?_
              refine Rn.bald3 hM rfl rfl h.1 ?_
              refine Rn.br (c := (1 : Int32) = (σ3.1 115 x1.toNatClampNeg)) (a := 168) (b := 164) (ls' := [(5, .int (1 : Int32)), (3, .int (0 : Int32)), (4, .int w4), (2, .int w2), (0, .ref 97), (1, .int x1)]) (st' := []) (σ' := σ3) hM 1 rfl (fun c => ?_) (fun c => ?_)
              · replace h := h.2.1 c
                refine Rn.seg (pc' := 169) (ls' := [(5, .int (1 : Int32)), (3, .int (0 : Int32)), (4, .int w4), (2, .int w2), (0, .ref 97), (1, .int x1)]) (st' := [.int (0 : Int32)]) (σ' := σ3) hM 1 rfl ?_
                exact Rn.ret hM rfl rfl h
              · replace h := h.2.2 c
                refine Rn.seg (pc' := 169) (ls' := [(5, .int (1 : Int32)), (3, .int (0 : Int32)), (4, .int w4), (2, .int w2), (0, .ref 97), (1, .int x1)]) (st' := [.int (1 : Int32)]) (σ' := σ3) hM 2 rfl ?_
                exact Rn.ret hM rfl rfl h
          · replace h := h.2.1 c
            refine Rn.br (c := w4 ≤ w2) (a := 124) (b := 120) (ls' := [(3, .int (0 : Int32)), (4, .int w4), (2, .int w2), (0, .ref 97), (1, .int x1)]) (st' := []) (σ' := σ3) hM 3 rfl (fun c => ?_) (fun c => ?_)
            · replace h := h.1 c
              refine Rn.seg (pc' := 154) (ls' := [(5, .int (0 : Int32)), (3, .int (0 : Int32)), (4, .int w4), (2, .int w2), (0, .ref 97), (1, .int x1)]) (st' := []) (σ' := σ3) hM 5 rfl ?_
              exact Rn.sub h (subL_cons rfl (subL_cons rfl subL_nil)) (show ndL _ from (by decide : List.Nodup ([0, 1] : List Nat)))
            · replace h := h.2 c
              refine Rn.seg (pc' := 160) (ls' := [(5, .int (1 : Int32)), (3, .int (0 : Int32)), (4, .int w4), (2, .int w2), (0, .ref 97), (1, .int x1)]) (st' := [.int x1, .ref 115, .int (1 : Int32)]) (σ' := σ3) hM 12 rfl ?_
              refine Rn.bald3 hM rfl rfl h.1 ?_
              refine Rn.br (c := (1 : Int32) = (σ3.1 115 x1.toNatClampNeg)) (a := 168) (b := 164) (ls' := [(5, .int (1 : Int32)), (3, .int (0 : Int32)), (4, .int w4), (2, .int w2), (0, .ref 97), (1, .int x1)]) (st' := []) (σ' := σ3) hM 1 rfl (fun c => ?_) (fun c => ?_)
              · replace h := h.2.1 c
                refine Rn.seg (pc' := 169) (ls' := [(5, .int (1 : Int32)), (3, .int (0 : Int32)), (4, .int w4), (2, .int w2), (0, .ref 97), (1, .int x1)]) (st' := [.int (0 : Int32)]) (σ' := σ3) hM 1 rfl ?_
                exact Rn.ret hM rfl rfl h
              · replace h := h.2.2 c
                refine Rn.seg (pc' := 169) (ls' := [(5, .int (1 : Int32)), (3, .int (0 : Int32)), (4, .int w4), (2, .int w2), (0, .ref 97), (1, .int x1)]) (st' := [.int (1 : Int32)]) (σ' := σ3) hM 2 rfl ?_
                exact Rn.ret hM rfl rfl h
        · replace h := h.2.1 c
          refine Rn.br (c := w2 = w4) (a := 100) (b := 96) (ls' := [(3, .int (0 : Int32)), (4, .int w4), (2, .int w2), (0, .ref 97), (1, .int x1)]) (st' := []) (σ' := σ3) hM 3 rfl (fun c => ?_) (fun c => ?_)
          · replace h := h.1 c
            refine Rn.seg (pc' := 154) (ls' := [(5, .int (0 : Int32)), (3, .int (0 : Int32)), (4, .int w4), (2, .int w2), (0, .ref 97), (1, .int x1)]) (st' := []) (σ' := σ3) hM 5 rfl ?_
            exact Rn.sub h (subL_cons rfl (subL_cons rfl subL_nil)) (show ndL _ from (by decide : List.Nodup ([0, 1] : List Nat)))
          · replace h := h.2 c
            refine Rn.seg (pc' := 160) (ls' := [(5, .int (1 : Int32)), (3, .int (0 : Int32)), (4, .int w4), (2, .int w2), (0, .ref 97), (1, .int x1)]) (st' := [.int x1, .ref 115, .int (1 : Int32)]) (σ' := σ3) hM 12 rfl ?_
            refine Rn.bald3 hM rfl rfl h.1 ?_
            refine Rn.br (c := (1 : Int32) = (σ3.1 115 x1.toNatClampNeg)) (a := 168) (b := 164) (ls' := [(5, .int (1 : Int32)), (3, .int (0 : Int32)), (4, .int w4), (2, .int w2), (0, .ref 97), (1, .int x1)]) (st' := []) (σ' := σ3) hM 1 rfl (fun c => ?_) (fun c => ?_)
            · replace h := h.2.1 c
              refine Rn.seg (pc' := 169) (ls' := [(5, .int (1 : Int32)), (3, .int (0 : Int32)), (4, .int w4), (2, .int w2), (0, .ref 97), (1, .int x1)]) (st' := [.int (0 : Int32)]) (σ' := σ3) hM 1 rfl ?_
              exact Rn.ret hM rfl rfl h
            · replace h := h.2.2 c
              refine Rn.seg (pc' := 169) (ls' := [(5, .int (1 : Int32)), (3, .int (0 : Int32)), (4, .int w4), (2, .int w2), (0, .ref 97), (1, .int x1)]) (st' := [.int (1 : Int32)]) (σ' := σ3) hM 2 rfl ?_
              exact Rn.ret hM rfl rfl h
      · replace h := h.2.1 c
        refine Rn.brN (c := w2 = w4) (a := 76) (b := 72) (ls' := [(3, .int (0 : Int32)), (4, .int w4), (2, .int w2), (0, .ref 97), (1, .int x1)]) (st' := []) (σ' := σ3) hM 3 rfl (fun c => ?_) (fun c => ?_)
        · replace h := h.2 c
          refine Rn.seg (pc' := 154) (ls' := [(5, .int (0 : Int32)), (3, .int (0 : Int32)), (4, .int w4), (2, .int w2), (0, .ref 97), (1, .int x1)]) (st' := []) (σ' := σ3) hM 5 rfl ?_
          exact Rn.sub h (subL_cons rfl (subL_cons rfl subL_nil)) (show ndL _ from (by decide : List.Nodup ([0, 1] : List Nat)))
        · replace h := h.1 c
          refine Rn.seg (pc' := 160) (ls' := [(5, .int (1 : Int32)), (3, .int (0 : Int32)), (4, .int w4), (2, .int w2), (0, .ref 97), (1, .int x1)]) (st' := [.int x1, .ref 115, .int (1 : Int32)]) (σ' := σ3) hM 12 rfl ?_
          refine Rn.bald3 hM rfl rfl h.1 ?_
          refine Rn.br (c := (1 : Int32) = (σ3.1 115 x1.toNatClampNeg)) (a := 168) (b := 164) (ls' := [(5, .int (1 : Int32)), (3, .int (0 : Int32)), (4, .int w4), (2, .int w2), (0, .ref 97), (1, .int x1)]) (st' := []) (σ' := σ3) hM 1 rfl (fun c => ?_) (fun c => ?_)
          · replace h := h.2.1 c
            refine Rn.seg (pc' := 169) (ls' := [(5, .int (1 : Int32)), (3, .int (0 : Int32)), (4, .int w4), (2, .int w2), (0, .ref 97), (1, .int x1)]) (st' := [.int (0 : Int32)]) (σ' := σ3) hM 1 rfl ?_
            exact Rn.ret hM rfl rfl h
          · replace h := h.2.2 c
            refine Rn.seg (pc' := 169) (ls' := [(5, .int (1 : Int32)), (3, .int (0 : Int32)), (4, .int w4), (2, .int w2), (0, .ref 97), (1, .int x1)]) (st' := [.int (1 : Int32)]) (σ' := σ3) hM 2 rfl ?_
            exact Rn.ret hM rfl rfl h
    · replace h := h.2 c
      refine Rn.seg (pc' := 51) (ls' := [(4, .int w4), (3, .int (σ1.1 97 44)), (2, .int w2), (0, .ref 97), (1, .int x1)]) (st' := []) (σ' := σ3) hM 0 rfl ?_
      exact Rn.sub h (subL_cons rfl (subL_cons rfl (subL_cons rfl (subL_cons rfl subL_nil)))) (show ndL _ from (by decide : List.Nodup ([0, 1, 2, 4] : List Nat)))
set_option maxRecDepth 100000 in
theorem w_207_51 {d : Nat} {Q : Option Value → Sg → Prop} (σ : Sg) (x1 x2 x4 : Int32) (h : (inR x1 300 = true ∧ (((σ.1 114 x1.toNatClampNeg) = 0 → ((x2 = x4 → Rn PRG (d + 1) 207 154 [(0, .ref 97), (1, .int x1)] [] σ Q) ∧ (¬ x2 = x4 → Rn PRG (d + 1) 207 154 [(0, .ref 97), (1, .int x1)] [] σ Q))) ∧ (¬ (σ.1 114 x1.toNatClampNeg) = 0 → (inR x1 300 = true ∧ (((σ.1 114 x1.toNatClampNeg) = (1 : Int32) → ((x2 = x4 → Rn PRG (d + 1) 207 154 [(0, .ref 97), (1, .int x1)] [] σ Q) ∧ (¬ x2 = x4 → Rn PRG (d + 1) 207 154 [(0, .ref 97), (1, .int x1)] [] σ Q))) ∧ (¬ (σ.1 114 x1.toNatClampNeg) = (1 : Int32) → (inR x1 300 = true ∧ (((σ.1 114 x1.toNatClampNeg) = (2 : Int32) → ((x4 ≤ x2 → Rn PRG (d + 1) 207 154 [(0, .ref 97), (1, .int x1)] [] σ Q) ∧ (¬ x4 ≤ x2 → Rn PRG (d + 1) 207 154 [(0, .ref 97), (1, .int x1)] [] σ Q))) ∧ (¬ (σ.1 114 x1.toNatClampNeg) = (2 : Int32) → ((x4 < x2 → Rn PRG (d + 1) 207 154 [(0, .ref 97), (1, .int x1)] [] σ Q) ∧ (¬ x4 < x2 → Rn PRG (d + 1) 207 154 [(0, .ref 97), (1, .int x1)] [] σ Q)))))))))))) : Rn PRG (d + 1) 207 51 [(0, .ref 97), (1, .int x1), (2, .int x2), (4, .int x4)] [] σ Q := by
  have hM : PRG[207]? = some M_207 := rfl
  refine Rn.seg (pc' := 62) (ls' := [(3, .int (1 : Int32)), (0, .ref 97), (1, .int x1), (2, .int x2), (4, .int x4)]) (st' := [.int x1, .ref 114]) (σ' := σ) hM 6 rfl ?_
  refine Rn.iald hM rfl rfl h.1 ?_
  refine Rn.brN (c := (σ.1 114 x1.toNatClampNeg) = 0) (a := 80) (b := 66) (ls' := [(3, .int (1 : Int32)), (0, .ref 97), (1, .int x1), (2, .int x2), (4, .int x4)]) (st' := []) (σ' := σ) hM 1 rfl (fun c => ?_) (fun c => ?_)
  · replace h := h.2.2 c
    refine Rn.seg (pc' := 85) (ls' := [(3, .int (1 : Int32)), (0, .ref 97), (1, .int x1), (2, .int x2), (4, .int x4)]) (st' := [.int x1, .ref 114]) (σ' := σ) hM 3 rfl ?_
    refine Rn.iald hM rfl rfl h.1 ?_
    refine Rn.brN (c := (σ.1 114 x1.toNatClampNeg) = (1 : Int32)) (a := 104) (b := 90) (ls' := [(3, .int (1 : Int32)), (0, .ref 97), (1, .int x1), (2, .int x2), (4, .int x4)]) (st' := []) (σ' := σ) hM 2 rfl (fun c => ?_) (fun c => ?_)
    · replace h := h.2.2 c
      refine Rn.seg (pc' := 109) (ls' := [(3, .int (1 : Int32)), (0, .ref 97), (1, .int x1), (2, .int x2), (4, .int x4)]) (st' := [.int x1, .ref 114]) (σ' := σ) hM 3 rfl ?_
      refine Rn.iald hM rfl rfl h.1 ?_
      refine Rn.brN (c := (σ.1 114 x1.toNatClampNeg) = (2 : Int32)) (a := 128) (b := 114) (ls' := [(3, .int (1 : Int32)), (0, .ref 97), (1, .int x1), (2, .int x2), (4, .int x4)]) (st' := []) (σ' := σ) hM 2 rfl (fun c => ?_) (fun c => ?_)
      · replace h := h.2.2 c
        refine Rn.br (c := x4 < x2) (a := 138) (b := 134) (ls' := [(3, .int (1 : Int32)), (0, .ref 97), (1, .int x1), (2, .int x2), (4, .int x4)]) (st' := []) (σ' := σ) hM 3 rfl (fun c => ?_) (fun c => ?_)
        · replace h := h.1 c
          refine Rn.seg (pc' := 154) (ls' := [(5, .int (0 : Int32)), (3, .int (1 : Int32)), (0, .ref 97), (1, .int x1), (2, .int x2), (4, .int x4)]) (st' := []) (σ' := σ) hM 4 rfl ?_
          exact Rn.sub h (subL_cons rfl (subL_cons rfl subL_nil)) (show ndL _ from (by decide : List.Nodup ([0, 1] : List Nat)))
        · replace h := h.2 c
          refine Rn.seg (pc' := 154) (ls' := [(5, .int (1 : Int32)), (3, .int (1 : Int32)), (0, .ref 97), (1, .int x1), (2, .int x2), (4, .int x4)]) (st' := []) (σ' := σ) hM 7 rfl ?_
          exact Rn.sub h (subL_cons rfl (subL_cons rfl subL_nil)) (show ndL _ from (by decide : List.Nodup ([0, 1] : List Nat)))
      · replace h := h.2.1 c
        refine Rn.br (c := x4 ≤ x2) (a := 124) (b := 120) (ls' := [(3, .int (1 : Int32)), (0, .ref 97), (1, .int x1), (2, .int x2), (4, .int x4)]) (st' := []) (σ' := σ) hM 3 rfl (fun c => ?_) (fun c => ?_)
        · replace h := h.1 c
          refine Rn.seg (pc' := 154) (ls' := [(5, .int (0 : Int32)), (3, .int (1 : Int32)), (0, .ref 97), (1, .int x1), (2, .int x2), (4, .int x4)]) (st' := []) (σ' := σ) hM 5 rfl ?_
          exact Rn.sub h (subL_cons rfl (subL_cons rfl subL_nil)) (show ndL _ from (by decide : List.Nodup ([0, 1] : List Nat)))
        · replace h := h.2 c
          refine Rn.seg (pc' := 154) (ls' := [(5, .int (1 : Int32)), (3, .int (1 : Int32)), (0, .ref 97), (1, .int x1), (2, .int x2), (4, .int x4)]) (st' := []) (σ' := σ) hM 7 rfl ?_
          exact Rn.sub h (subL_cons rfl (subL_cons rfl subL_nil)) (show ndL _ from (by decide : List.Nodup ([0, 1] : List Nat)))
    · replace h := h.2.1 c
      refine Rn.br (c := x2 = x4) (a := 100) (b := 96) (ls' := [(3, .int (1 : Int32)), (0, .ref 97), (1, .int x1), (2, .int x2), (4, .int x4)]) (st' := []) (σ' := σ) hM 3 rfl (fun c => ?_) (fun c => ?_)
      · replace h := h.1 c
        refine Rn.seg (pc' := 154) (ls' := [(5, .int (0 : Int32)), (3, .int (1 : Int32)), (0, .ref 97), (1, .int x1), (2, .int x2), (4, .int x4)]) (st' := []) (σ' := σ) hM 5 rfl ?_
        exact Rn.sub h (subL_cons rfl (subL_cons rfl subL_nil)) (show ndL _ from (by decide : List.Nodup ([0, 1] : List Nat)))
      · replace h := h.2 c
        refine Rn.seg (pc' := 154) (ls' := [(5, .int (1 : Int32)), (3, .int (1 : Int32)), (0, .ref 97), (1, .int x1), (2, .int x2), (4, .int x4)]) (st' := []) (σ' := σ) hM 7 rfl ?_
        exact Rn.sub h (subL_cons rfl (subL_cons rfl subL_nil)) (show ndL _ from (by decide : List.Nodup ([0, 1] : List Nat)))
  · replace h := h.2.1 c
    refine Rn.brN (c := x2 = x4) (a := 76) (b := 72) (ls' := [(3, .int (1 : Int32)), (0, .ref 97), (1, .int x1), (2, .int x2), (4, .int x4)]) (st' := []) (σ' := σ) hM 3 rfl (fun c => ?_) (fun c => ?_)
    · replace h := h.2 c
      refine Rn.seg (pc' := 154) (ls' := [(5, .int (0 : Int32)), (3, .int (1 : Int32)), (0, .ref 97), (1, .int x1), (2, .int x2), (4, .int x4)]) (st' := []) (σ' := σ) hM 5 rfl ?_
      exact Rn.sub h (subL_cons rfl (subL_cons rfl subL_nil)) (show ndL _ from (by decide : List.Nodup ([0, 1] : List Nat)))
    · replace h := h.1 c
      refine Rn.seg (pc' := 154) (ls' := [(5, .int (1 : Int32)), (3, .int (1 : Int32)), (0, .ref 97), (1, .int x1), (2, .int x2), (4, .int x4)]) (st' := []) (σ' := σ) hM 7 rfl ?_
      exact Rn.sub h (subL_cons rfl (subL_cons rfl subL_nil)) (show ndL _ from (by decide : List.Nodup ([0, 1] : List Nat)))
set_option maxRecDepth 100000 in
theorem w_207_154 {d : Nat} {Q : Option Value → Sg → Prop} (σ : Sg) (x1 : Int32) (h : (inR x1 300 = true ∧ (((0 : Int32) = (σ.1 115 x1.toNatClampNeg) → Q (some (.int (0 : Int32))) σ) ∧ (¬ (0 : Int32) = (σ.1 115 x1.toNatClampNeg) → Q (some (.int (1 : Int32))) σ)))) : Rn PRG (d + 1) 207 154 [(0, .ref 97), (1, .int x1)] [] σ Q := by
  have hM : PRG[207]? = some M_207 := rfl
  refine Rn.seg (pc' := 160) (ls' := [(0, .ref 97), (1, .int x1)]) (st' := [.int x1, .ref 115, .int (0 : Int32)]) (σ' := σ) hM 4 rfl ?_
  refine Rn.bald3 hM rfl rfl h.1 ?_
  refine Rn.br (c := (0 : Int32) = (σ.1 115 x1.toNatClampNeg)) (a := 168) (b := 164) (ls' := [(0, .ref 97), (1, .int x1)]) (st' := []) (σ' := σ) hM 1 rfl (fun c => ?_) (fun c => ?_)
  · replace h := h.2.1 c
    refine Rn.seg (pc' := 169) (ls' := [(0, .ref 97), (1, .int x1)]) (st' := [.int (0 : Int32)]) (σ' := σ) hM 1 rfl ?_
    exact Rn.ret hM rfl rfl h
  · replace h := h.2.2 c
    refine Rn.seg (pc' := 169) (ls' := [(0, .ref 97), (1, .int x1)]) (st' := [.int (1 : Int32)]) (σ' := σ) hM 2 rfl ?_
    exact Rn.ret hM rfl rfl h
set_option maxRecDepth 100000 in
theorem w_208_0 {d : Nat} {Q : Option Value → Sg → Prop} (σ : Sg) (x1 : Int32) (h : (inR x1 24 = true ∧ Rn PRG (d + 1) 208 9 [(0, .ref 97), (1, .int x1), (2, .int (0 : Int32)), (3, .int (σ.1 112 x1.toNatClampNeg))] [] σ Q)) : Rn PRG (d + 1) 208 0 [(0, .ref 97), (1, .int x1)] [] σ Q := by
  have hM : PRG[208]? = some M_208 := rfl
  refine Rn.seg (pc' := 7) (ls' := [(2, .int (0 : Int32)), (0, .ref 97), (1, .int x1)]) (st' := [.int x1, .ref 112]) (σ' := σ) hM 5 rfl ?_
  refine Rn.iald hM rfl rfl h.1 ?_
  refine Rn.seg (pc' := 9) (ls' := [(3, .int (σ.1 112 x1.toNatClampNeg)), (2, .int (0 : Int32)), (0, .ref 97), (1, .int x1)]) (st' := []) (σ' := σ) hM 1 rfl ?_
  exact Rn.sub h.2 (subL_cons rfl (subL_cons rfl (subL_cons rfl (subL_cons rfl subL_nil)))) (show ndL _ from (by decide : List.Nodup ([0, 1, 2, 3] : List Nat)))
set_option maxRecDepth 100000 in
theorem w_208_9 {d : Nat} {Q : Option Value → Sg → Prop} (σ : Sg) (x1 x2 x3 : Int32) (h : (inR x1 24 = true ∧ (((σ.1 113 x1.toNatClampNeg) ≤ x3 → ((x2 = 0 ∨ x2 = 1) ∧ Q (some (.int x2)) σ)) ∧ (¬ (σ.1 113 x1.toNatClampNeg) ≤ x3 → (inR x3 300 = true ∧ (((σ.1 116 x3.toNatClampNeg) = 0 → (inR x3 300 = true ∧ (((σ.1 116 x3.toNatClampNeg) = 0 → ((x2 = 0 → Rn PRG (d + 1) 208 9 [(0, .ref 97), (1, .int x1), (2, .int (0 : Int32)), (3, .int (x3 + (1 : Int32)))] [] σ Q) ∧ (¬ x2 = 0 → (∃ Qc : Int32 → Sg → Prop, OkI PRG d 207 [.ref 97, .int x3] σ Qc ∧ ∀ w2 σ1, Qc w2 σ1 → ((w2 = 0 → Rn PRG (d + 1) 208 9 [(0, .ref 97), (1, .int x1), (2, .int (0 : Int32)), (3, .int (x3 + (1 : Int32)))] [] σ1 Q) ∧ (¬ w2 = 0 → Rn PRG (d + 1) 208 9 [(0, .ref 97), (1, .int x1), (2, .int (1 : Int32)), (3, .int (x3 + (1 : Int32)))] [] σ1 Q)))))) ∧ (¬ (σ.1 116 x3.toNatClampNeg) = 0 → (∃ Qc : Int32 → Sg → Prop, OkI PRG d 207 [.ref 97, .int x3] σ Qc ∧ ∀ w4 σ3, Qc w4 σ3 → ((w4 = 0 → Rn PRG (d + 1) 208 9 [(0, .ref 97), (1, .int x1), (2, .int (0 : Int32)), (3, .int (x3 + (1 : Int32)))] [] σ3 Q) ∧ (¬ w4 = 0 → Rn PRG (d + 1) 208 9 [(0, .ref 97), (1, .int x1), (2, .int (1 : Int32)), (3, .int (x3 + (1 : Int32)))] [] σ3 Q))))))) ∧ (¬ (σ.1 116 x3.toNatClampNeg) = 0 → ((x2 = 0 → (inR x3 300 = true ∧ (((σ.1 116 x3.toNatClampNeg) = 0 → ((x2 = 0 → Rn PRG (d + 1) 208 9 [(0, .ref 97), (1, .int x1), (2, .int (0 : Int32)), (3, .int (x3 + (1 : Int32)))] [] σ Q) ∧ (¬ x2 = 0 → (∃ Qc : Int32 → Sg → Prop, OkI PRG d 207 [.ref 97, .int x3] σ Qc ∧ ∀ w6 σ5, Qc w6 σ5 → ((w6 = 0 → Rn PRG (d + 1) 208 9 [(0, .ref 97), (1, .int x1), (2, .int (0 : Int32)), (3, .int (x3 + (1 : Int32)))] [] σ5 Q) ∧ (¬ w6 = 0 → Rn PRG (d + 1) 208 9 [(0, .ref 97), (1, .int x1), (2, .int (1 : Int32)), (3, .int (x3 + (1 : Int32)))] [] σ5 Q)))))) ∧ (¬ (σ.1 116 x3.toNatClampNeg) = 0 → (∃ Qc : Int32 → Sg → Prop, OkI PRG d 207 [.ref 97, .int x3] σ Qc ∧ ∀ w8 σ7, Qc w8 σ7 → ((w8 = 0 → Rn PRG (d + 1) 208 9 [(0, .ref 97), (1, .int x1), (2, .int (0 : Int32)), (3, .int (x3 + (1 : Int32)))] [] σ7 Q) ∧ (¬ w8 = 0 → Rn PRG (d + 1) 208 9 [(0, .ref 97), (1, .int x1), (2, .int (1 : Int32)), (3, .int (x3 + (1 : Int32)))] [] σ7 Q))))))) ∧ (¬ x2 = 0 → Q (some (.int (1 : Int32))) σ))))))))) : Rn PRG (d + 1) 208 9 [(0, .ref 97), (1, .int x1), (2, .int x2), (3, .int x3)] [] σ Q := by
  have hM : PRG[208]? = some M_208 := rfl
  refine Rn.seg (pc' := 15) (ls' := [(0, .ref 97), (1, .int x1), (2, .int x2), (3, .int x3)]) (st' := [.int x1, .ref 113, .int x3]) (σ' := σ) hM 4 rfl ?_
  refine Rn.iald hM rfl rfl h.1 ?_
  refine Rn.br (c := (σ.1 113 x1.toNatClampNeg) ≤ x3) (a := 69) (b := 19) (ls' := [(0, .ref 97), (1, .int x1), (2, .int x2), (3, .int x3)]) (st' := []) (σ' := σ) hM 1 rfl (fun c => ?_) (fun c => ?_)
  · replace h := h.2.1 c
    refine Rn.seg (pc' := 70) (ls' := [(0, .ref 97), (1, .int x1), (2, .int x2), (3, .int x3)]) (st' := [.int x2]) (σ' := σ) hM 1 rfl ?_
    exact Rn.retZ hM rfl rfl h.1 h.2
  · replace h := h.2.2 c
    refine Rn.seg (pc' := 24) (ls' := [(0, .ref 97), (1, .int x1), (2, .int x2), (3, .int x3)]) (st' := [.int x3, .ref 116]) (σ' := σ) hM 3 rfl ?_
    refine Rn.bald3 hM rfl rfl h.1 ?_
    refine Rn.br (c := (σ.1 116 x3.toNatClampNeg) = 0) (a := 34) (b := 28) (ls' := [(0, .ref 97), (1, .int x1), (2, .int x2), (3, .int x3)]) (st' := []) (σ' := σ) hM 1 rfl (fun c => ?_) (fun c => ?_)
    · replace h := h.2.1 c
      refine Rn.seg (pc' := 39) (ls' := [(0, .ref 97), (1, .int x1), (2, .int x2), (3, .int x3)]) (st' := [.int x3, .ref 116]) (σ' := σ) hM 3 rfl ?_
      refine Rn.bald3 hM rfl rfl h.1 ?_
      refine Rn.br (c := (σ.1 116 x3.toNatClampNeg) = 0) (a := 45) (b := 43) (ls' := [(0, .ref 97), (1, .int x1), (2, .int x2), (3, .int x3)]) (st' := []) (σ' := σ) hM 1 rfl (fun c => ?_) (fun c => ?_)
      · replace h := h.2.1 c
        refine Rn.br (c := x2 = 0) (a := 61) (b := 49) (ls' := [(0, .ref 97), (1, .int x1), (2, .int x2), (3, .int x3)]) (st' := []) (σ' := σ) hM 2 rfl (fun c => ?_) (fun c => ?_)
        · replace h := h.1 c
          refine Rn.seg (pc' := 9) (ls' := [(3, .int (x3 + (1 : Int32))), (2, .int (0 : Int32)), (0, .ref 97), (1, .int x1)]) (st' := []) (σ' := σ) hM 4 rfl ?_
          exact Rn.sub h (subL_cons rfl (subL_cons rfl (subL_cons rfl (subL_cons rfl subL_nil)))) (show ndL _ from (by decide : List.Nodup ([0, 1, 2, 3] : List Nat)))
        · replace h := h.2 c
          refine Rn.seg (pc' := 51) (ls' := [(0, .ref 97), (1, .int x1), (2, .int x2), (3, .int x3)]) (st' := [.int x3, .ref 97]) (σ' := σ) hM 2 rfl ?_
          obtain ⟨Qc, hq, h⟩ := h
          refine Rn.cI hM rfl rfl (by decide) hq (fun w2 σ1 hw => ?_)
          replace h := h w2 σ1 hw
          refine Rn.br (c := w2 = 0) (a := 61) (b := 57) (ls' := [(0, .ref 97), (1, .int x1), (2, .int x2), (3, .int x3)]) (st' := []) (σ' := σ1) hM 1 rfl (fun c => ?_) (fun c => ?_)
          · replace h := h.1 c
            refine Rn.seg (pc' := 9) (ls' := [(3, .int (x3 + (1 : Int32))), (2, .int (0 : Int32)), (0, .ref 97), (1, .int x1)]) (st' := []) (σ' := σ1) hM 4 rfl ?_
            exact Rn.sub h (subL_cons rfl (subL_cons rfl (subL_cons rfl (subL_cons rfl subL_nil)))) (show ndL _ from (by decide : List.Nodup ([0, 1, 2, 3] : List Nat)))
          · replace h := h.2 c
            refine Rn.seg (pc' := 9) (ls' := [(3, .int (x3 + (1 : Int32))), (2, .int (1 : Int32)), (0, .ref 97), (1, .int x1)]) (st' := []) (σ' := σ1) hM 5 rfl ?_
            exact Rn.sub h (subL_cons rfl (subL_cons rfl (subL_cons rfl (subL_cons rfl subL_nil)))) (show ndL _ from (by decide : List.Nodup ([0, 1, 2, 3] : List Nat)))
      · replace h := h.2.2 c
        refine Rn.seg (pc' := 51) (ls' := [(2, .int (1 : Int32)), (0, .ref 97), (1, .int x1), (3, .int x3)]) (st' := [.int x3, .ref 97]) (σ' := σ) hM 6 rfl ?_
        obtain ⟨Qc, hq, h⟩ := h
        refine Rn.cI hM rfl rfl (by decide) hq (fun w4 σ3 hw => ?_)
        replace h := h w4 σ3 hw
        refine Rn.br (c := w4 = 0) (a := 61) (b := 57) (ls' := [(2, .int (1 : Int32)), (0, .ref 97), (1, .int x1), (3, .int x3)]) (st' := []) (σ' := σ3) hM 1 rfl (fun c => ?_) (fun c => ?_)
        · replace h := h.1 c
          refine Rn.seg (pc' := 9) (ls' := [(3, .int (x3 + (1 : Int32))), (2, .int (0 : Int32)), (0, .ref 97), (1, .int x1)]) (st' := []) (σ' := σ3) hM 4 rfl ?_
          exact Rn.sub h (subL_cons rfl (subL_cons rfl (subL_cons rfl (subL_cons rfl subL_nil)))) (show ndL _ from (by decide : List.Nodup ([0, 1, 2, 3] : List Nat)))
        · replace h := h.2 c
          refine Rn.seg (pc' := 9) (ls' := [(3, .int (x3 + (1 : Int32))), (2, .int (1 : Int32)), (0, .ref 97), (1, .int x1)]) (st' := []) (σ' := σ3) hM 5 rfl ?_
          exact Rn.sub h (subL_cons rfl (subL_cons rfl (subL_cons rfl (subL_cons rfl subL_nil)))) (show ndL _ from (by decide : List.Nodup ([0, 1, 2, 3] : List Nat)))
    · replace h := h.2.2 c
      refine Rn.br (c := x2 = 0) (a := 34) (b := 32) (ls' := [(0, .ref 97), (1, .int x1), (2, .int x2), (3, .int x3)]) (st' := []) (σ' := σ) hM 2 rfl (fun c => ?_) (fun c => ?_)
      · replace h := h.1 c
        refine Rn.seg (pc' := 39) (ls' := [(0, .ref 97), (1, .int x1), (2, .int x2), (3, .int x3)]) (st' := [.int x3, .ref 116]) (σ' := σ) hM 3 rfl ?_
        refine Rn.bald3 hM rfl rfl h.1 ?_
        refine Rn.br (c := (σ.1 116 x3.toNatClampNeg) = 0) (a := 45) (b := 43) (ls' := [(0, .ref 97), (1, .int x1), (2, .int x2), (3, .int x3)]) (st' := []) (σ' := σ) hM 1 rfl (fun c => ?_) (fun c => ?_)
        · replace h := h.2.1 c
          refine Rn.br (c := x2 = 0) (a := 61) (b := 49) (ls' := [(0, .ref 97), (1, .int x1), (2, .int x2), (3, .int x3)]) (st' := []) (σ' := σ) hM 2 rfl (fun c => ?_) (fun c => ?_)
          · replace h := h.1 c
            refine Rn.seg (pc' := 9) (ls' := [(3, .int (x3 + (1 : Int32))), (2, .int (0 : Int32)), (0, .ref 97), (1, .int x1)]) (st' := []) (σ' := σ) hM 4 rfl ?_
            exact Rn.sub h (subL_cons rfl (subL_cons rfl (subL_cons rfl (subL_cons rfl subL_nil)))) (show ndL _ from (by decide : List.Nodup ([0, 1, 2, 3] : List Nat)))
          · replace h := h.2 c
            refine Rn.seg (pc' := 51) (ls' := [(0, .ref 97), (1, .int x1), (2, .int x2), (3, .int x3)]) (st' := [.int x3, .ref 97]) (σ' := σ) hM 2 rfl ?_
            obtain ⟨Qc, hq, h⟩ := h
            refine Rn.cI hM rfl rfl (by decide) hq (fun w6 σ5 hw => ?_)
            replace h := h w6 σ5 hw
            refine Rn.br (c := w6 = 0) (a := 61) (b := 57) (ls' := [(0, .ref 97), (1, .int x1), (2, .int x2), (3, .int x3)]) (st' := []) (σ' := σ5) hM 1 rfl (fun c => ?_) (fun c => ?_)
            · replace h := h.1 c
              refine Rn.seg (pc' := 9) (ls' := [(3, .int (x3 + (1 : Int32))), (2, .int (0 : Int32)), (0, .ref 97), (1, .int x1)]) (st' := []) (σ' := σ5) hM 4 rfl ?_
              exact Rn.sub h (subL_cons rfl (subL_cons rfl (subL_cons rfl (subL_cons rfl subL_nil)))) (show ndL _ from (by decide : List.Nodup ([0, 1, 2, 3] : List Nat)))
            · replace h := h.2 c
              refine Rn.seg (pc' := 9) (ls' := [(3, .int (x3 + (1 : Int32))), (2, .int (1 : Int32)), (0, .ref 97), (1, .int x1)]) (st' := []) (σ' := σ5) hM 5 rfl ?_
              exact Rn.sub h (subL_cons rfl (subL_cons rfl (subL_cons rfl (subL_cons rfl subL_nil)))) (show ndL _ from (by decide : List.Nodup ([0, 1, 2, 3] : List Nat)))
        · replace h := h.2.2 c
          refine Rn.seg (pc' := 51) (ls' := [(2, .int (1 : Int32)), (0, .ref 97), (1, .int x1), (3, .int x3)]) (st' := [.int x3, .ref 97]) (σ' := σ) hM 6 rfl ?_
          obtain ⟨Qc, hq, h⟩ := h
          refine Rn.cI hM rfl rfl (by decide) hq (fun w8 σ7 hw => ?_)
          replace h := h w8 σ7 hw
          refine Rn.br (c := w8 = 0) (a := 61) (b := 57) (ls' := [(2, .int (1 : Int32)), (0, .ref 97), (1, .int x1), (3, .int x3)]) (st' := []) (σ' := σ7) hM 1 rfl (fun c => ?_) (fun c => ?_)
          · replace h := h.1 c
            refine Rn.seg (pc' := 9) (ls' := [(3, .int (x3 + (1 : Int32))), (2, .int (0 : Int32)), (0, .ref 97), (1, .int x1)]) (st' := []) (σ' := σ7) hM 4 rfl ?_
            exact Rn.sub h (subL_cons rfl (subL_cons rfl (subL_cons rfl (subL_cons rfl subL_nil)))) (show ndL _ from (by decide : List.Nodup ([0, 1, 2, 3] : List Nat)))
          · replace h := h.2 c
            refine Rn.seg (pc' := 9) (ls' := [(3, .int (x3 + (1 : Int32))), (2, .int (1 : Int32)), (0, .ref 97), (1, .int x1)]) (st' := []) (σ' := σ7) hM 5 rfl ?_
            exact Rn.sub h (subL_cons rfl (subL_cons rfl (subL_cons rfl (subL_cons rfl subL_nil)))) (show ndL _ from (by decide : List.Nodup ([0, 1, 2, 3] : List Nat)))
      · replace h := h.2 c
        refine Rn.seg (pc' := 33) (ls' := [(0, .ref 97), (1, .int x1), (2, .int x2), (3, .int x3)]) (st' := [.int (1 : Int32)]) (σ' := σ) hM 1 rfl ?_
        exact Rn.ret hM rfl rfl h
set_option maxRecDepth 100000 in
theorem w_251_0 {d : Nat} {Q : Option Value → Sg → Prop} (σ : Sg) (x1 : Int32) (h : (inR (((12 : Int32) * (σ.1 97 18)) + ((2 : Int32) * x1)) 24 = true ∧ (inR (((12 : Int32) * (σ.1 97 18)) + ((2 : Int32) * x1)) 24 = true ∧ (((σ.1 112 (((12 : Int32) * (σ.1 97 18)) + ((2 : Int32) * x1)).toNatClampNeg) = (σ.1 113 (((12 : Int32) * (σ.1 97 18)) + ((2 : Int32) * x1)).toNatClampNeg) → Q (some (.int (1 : Int32))) σ) ∧ (¬ (σ.1 112 (((12 : Int32) * (σ.1 97 18)) + ((2 : Int32) * x1)).toNatClampNeg) = (σ.1 113 (((12 : Int32) * (σ.1 97 18)) + ((2 : Int32) * x1)).toNatClampNeg) → (∃ Qc : Int32 → Sg → Prop, OkI PRG d 208 [.ref 97, .int (((12 : Int32) * (σ.1 97 18)) + ((2 : Int32) * x1))] σ Qc ∧ ∀ w2 σ1, Qc w2 σ1 → ((w2 = 0 → Q (some (.int (0 : Int32))) σ1) ∧ (¬ w2 = 0 → Q (some (.int (1 : Int32))) σ1)))))))) : Rn PRG (d + 1) 251 0 [(0, .ref 97), (1, .int x1)] [] σ Q := by
  have hM : PRG[251]? = some M_251 := rfl
  refine Rn.seg (pc' := 17) (ls' := [(2, .int (((12 : Int32) * (σ.1 97 18)) + ((2 : Int32) * x1))), (0, .ref 97), (1, .int x1)]) (st' := [.int (((12 : Int32) * (σ.1 97 18)) + ((2 : Int32) * x1)), .ref 112]) (σ' := σ) hM 12 rfl ?_
  refine Rn.iald hM rfl rfl h.1 ?_
  refine Rn.seg (pc' := 23) (ls' := [(2, .int (((12 : Int32) * (σ.1 97 18)) + ((2 : Int32) * x1))), (0, .ref 97), (1, .int x1)]) (st' := [.int (((12 : Int32) * (σ.1 97 18)) + ((2 : Int32) * x1)), .ref 113, .int (σ.1 112 (((12 : Int32) * (σ.1 97 18)) + ((2 : Int32) * x1)).toNatClampNeg)]) (σ' := σ) hM 3 rfl ?_
  refine Rn.iald hM rfl rfl h.2.1 ?_
  refine Rn.br (c := (σ.1 112 (((12 : Int32) * (σ.1 97 18)) + ((2 : Int32) * x1)).toNatClampNeg) = (σ.1 113 (((12 : Int32) * (σ.1 97 18)) + ((2 : Int32) * x1)).toNatClampNeg)) (a := 35) (b := 27) (ls' := [(2, .int (((12 : Int32) * (σ.1 97 18)) + ((2 : Int32) * x1))), (0, .ref 97), (1, .int x1)]) (st' := []) (σ' := σ) hM 1 rfl (fun c => ?_) (fun c => ?_)
  · replace h := h.2.2.1 c
    refine Rn.seg (pc' := 40) (ls' := [(2, .int (((12 : Int32) * (σ.1 97 18)) + ((2 : Int32) * x1))), (0, .ref 97), (1, .int x1)]) (st' := [.int (1 : Int32)]) (σ' := σ) hM 2 rfl ?_
    exact Rn.ret hM rfl rfl h
  · replace h := h.2.2.2 c
    refine Rn.seg (pc' := 29) (ls' := [(2, .int (((12 : Int32) * (σ.1 97 18)) + ((2 : Int32) * x1))), (0, .ref 97), (1, .int x1)]) (st' := [.int (((12 : Int32) * (σ.1 97 18)) + ((2 : Int32) * x1)), .ref 97]) (σ' := σ) hM 2 rfl ?_
    obtain ⟨Qc, hq, h⟩ := h
    refine Rn.cI hM rfl rfl (by decide) hq (fun w2 σ1 hw => ?_)
    replace h := h w2 σ1 hw
    refine Rn.br (c := w2 = 0) (a := 39) (b := 35) (ls' := [(2, .int (((12 : Int32) * (σ.1 97 18)) + ((2 : Int32) * x1))), (0, .ref 97), (1, .int x1)]) (st' := []) (σ' := σ1) hM 1 rfl (fun c => ?_) (fun c => ?_)
    · replace h := h.1 c
      refine Rn.seg (pc' := 40) (ls' := [(2, .int (((12 : Int32) * (σ.1 97 18)) + ((2 : Int32) * x1))), (0, .ref 97), (1, .int x1)]) (st' := [.int (0 : Int32)]) (σ' := σ1) hM 1 rfl ?_
      exact Rn.ret hM rfl rfl h
    · replace h := h.2 c
      refine Rn.seg (pc' := 40) (ls' := [(2, .int (((12 : Int32) * (σ.1 97 18)) + ((2 : Int32) * x1))), (0, .ref 97), (1, .int x1)]) (st' := [.int (1 : Int32)]) (σ' := σ1) hM 2 rfl ?_
      exact Rn.ret hM rfl rfl h
set_option maxRecDepth 100000 in
theorem w_252_0 {d : Nat} {Q : Option Value → Sg → Prop} (σ : Sg) (x1 : Int32) (h : (∃ Qc : Int32 → Sg → Prop, OkI PRG d 208 [.ref 97, .int ((((12 : Int32) * (σ.1 97 18)) + ((2 : Int32) * x1)) + (1 : Int32))] σ Qc ∧ ∀ w2 σ1, Qc w2 σ1 → ((w2 = 0 ∨ w2 = 1) ∧ Q (some (.int w2)) σ1))) : Rn PRG (d + 1) 252 0 [(0, .ref 97), (1, .int x1)] [] σ Q := by
  have hM : PRG[252]? = some M_252 := rfl
  refine Rn.seg (pc' := 14) (ls' := [(0, .ref 97), (1, .int x1)]) (st' := [.int ((((12 : Int32) * (σ.1 97 18)) + ((2 : Int32) * x1)) + (1 : Int32)), .ref 97]) (σ' := σ) hM 11 rfl ?_
  obtain ⟨Qc, hq, h⟩ := h
  refine Rn.cI hM rfl rfl (by decide) hq (fun w2 σ1 hw => ?_)
  replace h := h w2 σ1 hw
  refine Rn.seg (pc' := 17) (ls' := [(0, .ref 97), (1, .int x1)]) (st' := [.int w2]) (σ' := σ1) hM 0 rfl ?_
  exact Rn.retZ hM rfl rfl h.1 h.2
set_option maxRecDepth 100000 in
theorem w_250_0 {d : Nat} {Q : Option Value → Sg → Prop} (σ : Sg) (x1 x2 x3 : Int32) (h : (inR (((6 : Int32) * (σ.1 97 18)) + x1) 12 = true ∧ (((σ.1 111 (((6 : Int32) * (σ.1 97 18)) + x1).toNatClampNeg) = x3 → (inR (((6 : Int32) * (σ.1 97 18)) + x1) 12 = true ∧ (((σ.1 110 (((6 : Int32) * (σ.1 97 18)) + x1).toNatClampNeg) = (2 : Int32) → Q (some (.int (1 : Int32))) σ) ∧ (¬ (σ.1 110 (((6 : Int32) * (σ.1 97 18)) + x1).toNatClampNeg) = (2 : Int32) → (inR (((6 : Int32) * (σ.1 97 18)) + x1) 12 = true ∧ (((σ.1 110 (((6 : Int32) * (σ.1 97 18)) + x1).toNatClampNeg) = (x2 - x2 / (2 : Int32) * (2 : Int32)) → Q (some (.int (1 : Int32))) σ) ∧ (¬ (σ.1 110 (((6 : Int32) * (σ.1 97 18)) + x1).toNatClampNeg) = (x2 - x2 / (2 : Int32) * (2 : Int32)) → Q (some (.int (0 : Int32))) σ))))))) ∧ (¬ (σ.1 111 (((6 : Int32) * (σ.1 97 18)) + x1).toNatClampNeg) = x3 → Q (some (.int (0 : Int32))) σ)))) : Rn PRG d 250 0 [(0, .ref 97), (1, .int x1), (2, .int x2), (3, .int x3)] [] σ Q := by
  have hM : PRG[250]? = some M_250 := rfl
  refine Rn.seg (pc' := 17) (ls' := [(4, .int (((6 : Int32) * (σ.1 97 18)) + x1)), (0, .ref 97), (1, .int x1), (2, .int x2), (3, .int x3)]) (st' := [.int (((6 : Int32) * (σ.1 97 18)) + x1), .ref 111]) (σ' := σ) hM 10 rfl ?_
  refine Rn.iald hM rfl rfl h.1 ?_
  refine Rn.brN (c := (σ.1 111 (((6 : Int32) * (σ.1 97 18)) + x1).toNatClampNeg) = x3) (a := 50) (b := 22) (ls' := [(4, .int (((6 : Int32) * (σ.1 97 18)) + x1)), (0, .ref 97), (1, .int x1), (2, .int x2), (3, .int x3)]) (st' := []) (σ' := σ) hM 2 rfl (fun c => ?_) (fun c => ?_)
  · replace h := h.2.2 c
    refine Rn.seg (pc' := 51) (ls' := [(4, .int (((6 : Int32) * (σ.1 97 18)) + x1)), (0, .ref 97), (1, .int x1), (2, .int x2), (3, .int x3)]) (st' := [.int (0 : Int32)]) (σ' := σ) hM 1 rfl ?_
    exact Rn.ret hM rfl rfl h
  · replace h := h.2.1 c
    refine Rn.seg (pc' := 28) (ls' := [(4, .int (((6 : Int32) * (σ.1 97 18)) + x1)), (0, .ref 97), (1, .int x1), (2, .int x2), (3, .int x3)]) (st' := [.int (((6 : Int32) * (σ.1 97 18)) + x1), .ref 110]) (σ' := σ) hM 3 rfl ?_
    refine Rn.iald hM rfl rfl h.1 ?_
    refine Rn.br (c := (σ.1 110 (((6 : Int32) * (σ.1 97 18)) + x1).toNatClampNeg) = (2 : Int32)) (a := 46) (b := 33) (ls' := [(4, .int (((6 : Int32) * (σ.1 97 18)) + x1)), (0, .ref 97), (1, .int x1), (2, .int x2), (3, .int x3)]) (st' := []) (σ' := σ) hM 2 rfl (fun c => ?_) (fun c => ?_)
    · replace h := h.2.1 c
      refine Rn.seg (pc' := 51) (ls' := [(4, .int (((6 : Int32) * (σ.1 97 18)) + x1)), (0, .ref 97), (1, .int x1), (2, .int x2), (3, .int x3)]) (st' := [.int (1 : Int32)]) (σ' := σ) hM 2 rfl ?_
      exact Rn.ret hM rfl rfl h
    · replace h := h.2.2 c
      refine Rn.seg (pc' := 39) (ls' := [(4, .int (((6 : Int32) * (σ.1 97 18)) + x1)), (0, .ref 97), (1, .int x1), (2, .int x2), (3, .int x3)]) (st' := [.int (((6 : Int32) * (σ.1 97 18)) + x1), .ref 110]) (σ' := σ) hM 3 rfl ?_
      refine Rn.iald hM rfl rfl h.1 ?_
      refine Rn.brN (c := (σ.1 110 (((6 : Int32) * (σ.1 97 18)) + x1).toNatClampNeg) = (x2 - x2 / (2 : Int32) * (2 : Int32))) (a := 50) (b := 46) (ls' := [(4, .int (((6 : Int32) * (σ.1 97 18)) + x1)), (0, .ref 97), (1, .int x1), (2, .int x2), (3, .int x3)]) (st' := []) (σ' := σ) hM 4 rfl (fun c => ?_) (fun c => ?_)
      · replace h := h.2.2 c
        refine Rn.seg (pc' := 51) (ls' := [(4, .int (((6 : Int32) * (σ.1 97 18)) + x1)), (0, .ref 97), (1, .int x1), (2, .int x2), (3, .int x3)]) (st' := [.int (0 : Int32)]) (σ' := σ) hM 1 rfl ?_
        exact Rn.ret hM rfl rfl h
      · replace h := h.2.1 c
        refine Rn.seg (pc' := 51) (ls' := [(4, .int (((6 : Int32) * (σ.1 97 18)) + x1)), (0, .ref 97), (1, .int x1), (2, .int x2), (3, .int x3)]) (st' := [.int (1 : Int32)]) (σ' := σ) hM 2 rfl ?_
        exact Rn.ret hM rfl rfl h
/-! terms and rules: codes that are well formed -/
def mdTerm : List (Nat × Nat × Nat) := [(80, 0, 399), (12, 44, 44)]
def WE (σ : Sg) (a b : Int32) : Prop := 0 ≤ a.toInt ∧ b.toInt ≤ 840 ∧ ∃ D : Nat → Nat, D a.toInt.toNat = 0 ∧ ∀ c : Nat, a.toInt ≤ (c : Int) → (c : Int) < b.toInt → (0 ≤ (σ.1 120 c).toInt ∧ (σ.1 120 c).toInt ≤ 1 ∧ D c < 64 ∧ D (c + 1) = D c + 1 ∧ ((σ.1 120 c).toInt = 1 → 0 ≤ (σ.1 121 c).toInt ∧ (σ.1 121 c).toInt ≤ 13)) ∨ (2 ≤ (σ.1 120 c).toInt ∧ (σ.1 120 c).toInt ≤ 5 ∧ 2 ≤ D c ∧ D c ≤ 64 ∧ D (c + 1) + 1 = D c)
theorem term_go {d : Nat} {x2 : Int32} {σ0 : Sg} {a : Int32} {D : Nat → Nat} (h0 : 0 ≤ a.toInt) (h1 : x2.toInt ≤ 840) (hD : ∀ c : Nat, a.toInt ≤ (c : Int) → (c : Int) < x2.toInt → (0 ≤ (σ0.1 120 c).toInt ∧ (σ0.1 120 c).toInt ≤ 1 ∧ D c < 64 ∧ D (c + 1) = D c + 1 ∧ ((σ0.1 120 c).toInt = 1 → 0 ≤ (σ0.1 121 c).toInt ∧ (σ0.1 121 c).toInt ≤ 13)) ∨ (2 ≤ (σ0.1 120 c).toInt ∧ (σ0.1 120 c).toInt ≤ 5 ∧ 2 ≤ D c ∧ D c ≤ 64 ∧ D (c + 1) + 1 = D c)) : ∀ (m c : Nat) (x3 x4 : Int32) (σ : Sg), x4.toInt = (c : Int) → a.toInt ≤ (c : Int) → (x2.toInt - (c : Int)).toNat ≤ m → x3.toInt = ((D c : Nat) : Int) → Gl mdTerm σ0 σ → Rn PRG d 206 10 [(0, .ref 97), (2, .int x2), (3, .int x3), (4, .int x4)] [] σ (fun v σ' => ∃ w : Int32, v = some (.int w) ∧ Gl mdTerm σ0 σ') := by
  have n1 : (-1 : Int32).toInt = -1 := by decide
  have p1 : (1 : Int32).toInt = 1 := by decide
  have p2 : (2 : Int32).toInt = 2 := by decide
  have p3 : (3 : Int32).toInt = 3 := by decide
  have p4 : (4 : Int32).toInt = 4 := by decide
  have p5 : (5 : Int32).toInt = 5 := by decide
  intro m
  induction m with
  | zero =>
    intro c x3 x4 σ h4 hac hm h3 hG
    exact w_206_10 σ x2 x3 x4 ⟨fun _ => ⟨_, rfl, hG⟩, fun hc => absurd (by rw [Int32.le_iff_toInt_le, h4]; omega) hc⟩
  | succ m ih =>
    intro c x3 x4 σ h4 hac hm h3 hG
    refine w_206_10 σ x2 x3 x4 ⟨fun _ => ⟨_, rfl, hG⟩, fun hc => ?_⟩
    rw [Int32.le_iff_toInt_le, h4] at hc
    have e120 : σ.1 120 c = σ0.1 120 c := hG.get (q := 120) (κ := 76) rfl rfl
    have e121 : σ.1 121 c = σ0.1 121 c := hG.get (q := 121) (κ := 77) rfl rfl
    have hx4 : (x4 + (1 : Int32)).toInt = ((c + 1 : Nat) : Int) := by
      rw [add_lit (k := 1) h4 (by decide) (by unfold FL; omega) (by unfold FH; omega)]; push_cast; rfl
    have hin4 : inR x4 840 = true := inR_ok (by clear hx4; omega) (by clear hx4; omega)
    rw [cn_of h4, e120, e121]
    have hw : ∀ (i : Nat) (y : Int32), i ≤ 399 → Gl mdTerm σ0 (s1 σ 124 i y) := fun i y hi => wrG (κ := 80) (a := 0) (b := 399) (vl := FL) (vh := FH) rfl rfl hG rfl (Nat.zero_le _) hi (w_lo _) (w_hi _)
    have hcd := hD c hac (by clear hx4; omega)
    refine ⟨hin4, fun c2 => ?_, fun c2 => ?_⟩
    · rw [Int32.le_iff_toInt_le, p2] at c2
      rcases hcd with ⟨a1, a2, -⟩ | ⟨a1, a2, a3, a4, a5⟩
      · clear hx4; omega
      have e1 : (x3 + (-1 : Int32)).toInt = ((D (c + 1) : Nat) : Int) := by
        rw [add_lit (k := -1) h3 n1 (by unfold FL; clear hx4; omega) (by unfold FH; clear hx4; omega)]; clear hx4; omega
      have e2 : ((x3 + (-1 : Int32)) - (1 : Int32)).toInt = ((D (c + 1) - 1 : Nat) : Int) := by
        rw [sub_ex (by rw [e1, p1]; unfold FL; clear hx4 e1; omega) (by rw [e1, p1]; unfold FH; clear hx4 e1; omega), e1, p1]; clear hx4 e1; omega
      have i1 : inR (x3 + (-1 : Int32)) 400 = true := inR_ok (by rw [e1]; clear hx4 e1 e2; omega) (by rw [e1]; clear hx4 e1 e2; omega)
      have i2 : inR ((x3 + (-1 : Int32)) - (1 : Int32)) 400 = true := inR_ok (by rw [e2]; clear hx4 e1 e2; omega) (by rw [e2]; clear hx4 e1 e2; omega)
      rw [cn_of e1, cn_of e2]
      clear e2
      have next : ∀ y : Int32, Rn PRG d 206 10 [(0, .ref 97), (2, .int x2), (3, .int (x3 + (-1 : Int32))), (4, .int (x4 + (1 : Int32)))] [] (s1 σ 124 (D (c + 1) - 1) y) (fun v σ' => ∃ w : Int32, v = some (.int w) ∧ Gl mdTerm σ0 σ') := fun y =>
        ih (c + 1) _ _ _ hx4 (by clear e1 hx4; omega) (by clear e1 hx4; omega) e1 (hw _ y (by clear e1 hx4; omega))
      refine ⟨i2, i1, fun h5 => ⟨fun _ => ⟨0, rfl, wrG (κ := 12) (a := 44) (b := 44) (vl := 1) (vh := 1) rfl rfl hG rfl (Nat.le_refl _) (Nat.le_refl _) (by decide) (by decide)⟩, fun hz => ⟨fun _ => ⟨i2, next _⟩, fun _ => ⟨fun _ => ⟨i2, next _⟩, fun _ => ⟨fun _ => ⟨i2, next _⟩, fun _ => ⟨hz, i2, next _⟩⟩⟩⟩⟩, fun h5 => ⟨fun _ => ⟨i2, next _⟩, fun q2 => ⟨fun _ => ⟨i2, next _⟩, fun q3 => ⟨fun _ => ⟨i2, next _⟩, fun q4 => ?_⟩⟩⟩⟩
      exfalso
      have r5 : ¬ (σ0.1 120 c).toInt = 5 := fun h => h5 (Int32.toInt_inj.mp (by rw [h, p5]))
      have r2 : ¬ (σ0.1 120 c).toInt = 2 := fun h => q2 (Int32.toInt_inj.mp (by rw [h, p2]))
      have r3 : ¬ (σ0.1 120 c).toInt = 3 := fun h => q3 (Int32.toInt_inj.mp (by rw [h, p3]))
      have r4 : ¬ (σ0.1 120 c).toInt = 4 := fun h => q4 (Int32.toInt_inj.mp (by rw [h, p4]))
      clear e1 hx4
      omega
    · rw [Int32.le_iff_toInt_le, p2] at c2
      rcases hcd with ⟨a1, a2, a3, a4, a5⟩ | ⟨a1, -⟩
      · have e1 : (x3 + (1 : Int32)).toInt = ((D (c + 1) : Nat) : Int) := by
          rw [add_lit (k := 1) h3 p1 (by unfold FL; clear hx4; omega) (by unfold FH; clear hx4; omega)]; clear hx4; omega
        have i3 : inR x3 400 = true := inR_ok (by rw [h3]; clear hx4 e1; omega) (by rw [h3]; clear hx4 e1; omega)
        rw [cn_of h3]
        have next : ∀ y : Int32, Rn PRG d 206 10 [(0, .ref 97), (2, .int x2), (3, .int (x3 + (1 : Int32))), (4, .int (x4 + (1 : Int32)))] [] (s1 σ 124 (D c) y) (fun v σ' => ∃ w : Int32, v = some (.int w) ∧ Gl mdTerm σ0 σ') := fun y =>
          ih (c + 1) _ _ _ hx4 (by clear e1 hx4; omega) (by clear e1 hx4; omega) e1 (hw _ y (by clear e1 hx4; omega))
        refine ⟨fun _ => ⟨hin4, i3, next _⟩, fun hz => ⟨hin4, ?_, i3, next _⟩⟩
        have hne : ¬ (σ0.1 120 c).toInt = 0 := fun h => hz (Int32.toInt_inj.mp h)
        have := a5 (by clear e1 hx4; omega)
        exact inR_ok this.1 (by clear e1 hx4; omega)
      · clear hx4; omega
theorem termOf_OK {d : Nat} {a b : Int32} {σ : Sg} (ht : typed TYP σ) (hW : WE σ a b) : OkI PRG d 206 [.ref 97, .int a, .int b] σ (fun _ σ' => Gl mdTerm σ σ') := by
  obtain ⟨h0, h1, D, hD0, hD⟩ := hW
  have g : Gl mdTerm σ (s1 σ 97 44 0) := wrG (κ := 12) (a := 44) (b := 44) (vl := 0) (vh := 0) rfl rfl (Gl.refl ht) rfl (Nat.le_refl _) (Nat.le_refl _) (by decide) (by decide)
  refine ⟨M_206, rfl, Nat.le_of_ble_eq_true rfl, w_206_0 σ a b (term_go h0 h1 hD _ a.toInt.toNat 0 a _ (by omega) (by omega) (Nat.le_refl _) (by rw [hD0]; rfl) g)⟩
/-- the codes of a literal lie on its side -/
def RG (σ : Sg) (t : Nat) : Prop := 420 * ((t / 150 : Nat) : Int) ≤ (σ.1 117 t).toInt ∧ 420 * ((t / 150 : Nat) : Int) ≤ (σ.1 118 t).toInt ∧ (σ.1 118 t).toInt ≤ 420 * ((t / 150 : Nat) : Int) + 420 ∧ (σ.1 119 t).toInt ≤ 420 * ((t / 150 : Nat) : Int) + 420
def LIT (σ : Sg) (t : Nat) : Prop := WE σ (σ.1 117 t) (σ.1 118 t) ∧ WE σ (σ.1 118 t) (σ.1 119 t) ∧ RG σ t
theorem WE.keep {σ σ' : Sg} {a b : Int32} (h1 : ∀ k, σ'.1 120 k = σ.1 120 k) (h2 : ∀ k, σ'.1 121 k = σ.1 121 k) (h : WE σ a b) : WE σ' a b := by
  unfold WE at h ⊢
  simp only [h1, h2]
  exact h
theorem LIT.keep {σ σ' : Sg} {t : Nat} (hG : Gl mdTerm σ σ') (h : LIT σ t) : LIT σ' t := by
  have e117 : σ'.1 117 t = σ.1 117 t := hG.get (q := 117) (κ := 73) rfl rfl
  have e118 : σ'.1 118 t = σ.1 118 t := hG.get (q := 118) (κ := 74) rfl rfl
  have e119 : σ'.1 119 t = σ.1 119 t := hG.get (q := 119) (κ := 75) rfl rfl
  have e120 : ∀ k, σ'.1 120 k = σ.1 120 k := fun k => hG.get (q := 120) (κ := 76) rfl rfl
  have e121 : ∀ k, σ'.1 121 k = σ.1 121 k := fun k => hG.get (q := 121) (κ := 77) rfl rfl
  unfold LIT RG
  rw [e117, e118, e119]
  exact ⟨h.1.keep e120 e121, h.2.1.keep e120 e121, h.2.2⟩
theorem isTrue_OK {d t : Nat} {x1 : Int32} {σ : Sg} (ht : typed TYP σ) (h1 : x1.toInt = (t : Int)) (ht3 : t < 300) (hL : LIT σ t) : OkI PRG (d + 1) 207 [.ref 97, .int x1] σ (fun w σ' => (w = 0 ∨ w = 1) ∧ Gl mdTerm σ σ') := by
  have hin : inR x1 300 = true := inR_ok (by omega) (by omega)
  have c1 := cn_of h1
  refine ⟨M_207, rfl, Nat.le_of_ble_eq_true rfl, w_207_0 σ x1 ⟨hin, hin, _, by rw [c1]; exact termOf_OK ht hL.1, fun w2 σ1 q1 => ⟨hin, hin, _, by rw [c1]; exact termOf_OK q1.1 (LIT.keep q1 hL).2.1, fun w4 σ3 q3 => ?_⟩⟩⟩
  have hG : Gl mdTerm σ σ3 := q1.trans q3 rfl
  have L0 : ∃ w : Int32, some (Value.int (0 : Int32)) = some (.int w) ∧ (w = 0 ∨ w = 1) ∧ Gl mdTerm σ σ3 := ⟨0, rfl, Or.inl rfl, hG⟩
  have L1 : ∃ w : Int32, some (Value.int (1 : Int32)) = some (.int w) ∧ (w = 0 ∨ w = 1) ∧ Gl mdTerm σ σ3 := ⟨1, rfl, Or.inr rfl, hG⟩
  have R154 : Rn PRG (d + 1) 207 154 [(0, .ref 97), (1, .int x1)] [] σ3 (fun v σ' => ∃ w : Int32, v = some (.int w) ∧ (w = 0 ∨ w = 1) ∧ Gl mdTerm σ σ') := w_207_154 σ3 x1 ⟨hin, fun _ => L0, fun _ => L1⟩
  have R51 : Rn PRG (d + 1) 207 51 [(0, .ref 97), (1, .int x1), (2, .int w2), (4, .int w4)] [] σ3 (fun v σ' => ∃ w : Int32, v = some (.int w) ∧ (w = 0 ∨ w = 1) ∧ Gl mdTerm σ σ') := by
    refine w_207_51 σ3 x1 w2 w4 ?_
    repeat (first | exact hin | exact L0 | exact L1 | exact R154 | intro _ | refine And.intro ?_ ?_)
  repeat (first | exact hin | exact L0 | exact L1 | exact R154 | exact R51 | intro _ | refine And.intro ?_ ?_)
def RULE (σ : Sg) (r : Nat) : Prop := 0 ≤ (σ.1 112 r).toInt ∧ (σ.1 113 r).toInt ≤ 300 ∧ (∀ t : Nat, (σ.1 112 r).toInt ≤ (t : Int) → (t : Int) < (σ.1 113 r).toInt → LIT σ t) ∧ 150 * ((r / 12 : Nat) : Int) ≤ (σ.1 112 r).toInt ∧ (σ.1 113 r).toInt ≤ 150 * ((r / 12 : Nat) : Int) + 150
theorem RULE.keep {σ σ' : Sg} {r : Nat} (hG : Gl mdTerm σ σ') (h : RULE σ r) : RULE σ' r := by
  have e112 : σ'.1 112 r = σ.1 112 r := hG.get (q := 112) (κ := 68) rfl rfl
  have e113 : σ'.1 113 r = σ.1 113 r := hG.get (q := 113) (κ := 69) rfl rfl
  unfold RULE
  rw [e112, e113]
  exact ⟨h.1, h.2.1, fun t a b => LIT.keep hG (h.2.2.1 t a b), h.2.2.2⟩
theorem rule_go {d r : Nat} {x1 : Int32} {σ0 : Sg} (h1 : x1.toInt = (r : Int)) (hr : r < 24) (hR : RULE σ0 r) : ∀ (m t : Nat) (x2 x3 : Int32) (σ : Sg), x3.toInt = (t : Int) → (σ0.1 112 r).toInt ≤ (t : Int) → ((σ0.1 113 r).toInt - (t : Int)).toNat ≤ m → (x2 = 0 ∨ x2 = 1) → Gl mdTerm σ0 σ → Rn PRG (d + 1 + 1) 208 9 [(0, .ref 97), (1, .int x1), (2, .int x2), (3, .int x3)] [] σ (fun v σ' => ∃ w : Int32, v = some (.int w) ∧ (w = 0 ∨ w = 1) ∧ Gl mdTerm σ0 σ') := by
  have hin : inR x1 24 = true := inR_ok (by omega) (by omega)
  have c1 := cn_of h1
  intro m
  induction m with
  | zero =>
    intro t x2 x3 σ h3 ha hm h2 hG
    have e113 : σ.1 113 r = σ0.1 113 r := hG.get (q := 113) (κ := 69) rfl rfl
    refine w_208_9 σ x1 x2 x3 ⟨hin, fun _ => ⟨h2, _, rfl, h2, hG⟩, fun c => absurd ?_ c⟩
    rw [c1, e113, Int32.le_iff_toInt_le, h3]; omega
  | succ m ih =>
    intro t x2 x3 σ h3 ha hm h2 hG
    have e113 : σ.1 113 r = σ0.1 113 r := hG.get (q := 113) (κ := 69) rfl rfl
    refine w_208_9 σ x1 x2 x3 ⟨hin, fun _ => ⟨h2, _, rfl, h2, hG⟩, fun c => ?_⟩
    rw [c1, e113, Int32.le_iff_toInt_le, h3] at c
    have h300 := hR.2.1
    have hLit : LIT σ t := LIT.keep hG (hR.2.2.1 t ha (by omega))
    have hx3 : (x3 + (1 : Int32)).toInt = ((t + 1 : Nat) : Int) := by
      rw [add_lit (k := 1) h3 (by decide) (by unfold FL; omega) (by unfold FH; omega)]; push_cast; rfl
    have hin3 : inR x3 300 = true := inR_ok (by clear hx3; omega) (by clear hx3; omega)
    have next : ∀ (y : Int32) (σ' : Sg), (y = 0 ∨ y = 1) → Gl mdTerm σ0 σ' → Rn PRG (d + 1 + 1) 208 9 [(0, .ref 97), (1, .int x1), (2, .int y), (3, .int (x3 + (1 : Int32)))] [] σ' (fun v σ' => ∃ w : Int32, v = some (.int w) ∧ (w = 0 ∨ w = 1) ∧ Gl mdTerm σ0 σ') := fun y σ' hy hG' =>
      ih (t + 1) y _ σ' hx3 (by clear hx3; omega) (by clear hx3; omega) hy hG'
    have call : ∃ Qc : Int32 → Sg → Prop, OkI PRG (d + 1) 207 [.ref 97, .int x3] σ Qc ∧ ∀ w2 σ1, Qc w2 σ1 → ((w2 = 0 → Rn PRG (d + 1 + 1) 208 9 [(0, .ref 97), (1, .int x1), (2, .int (0 : Int32)), (3, .int (x3 + (1 : Int32)))] [] σ1 (fun v σ' => ∃ w : Int32, v = some (.int w) ∧ (w = 0 ∨ w = 1) ∧ Gl mdTerm σ0 σ')) ∧ (¬ w2 = 0 → Rn PRG (d + 1 + 1) 208 9 [(0, .ref 97), (1, .int x1), (2, .int (1 : Int32)), (3, .int (x3 + (1 : Int32)))] [] σ1 (fun v σ' => ∃ w : Int32, v = some (.int w) ∧ (w = 0 ∨ w = 1) ∧ Gl mdTerm σ0 σ'))) :=
      ⟨_, isTrue_OK hG.1 h3 (by clear hx3; omega) hLit, fun w2 σ1 hq => ⟨fun _ => next 0 σ1 (Or.inl rfl) (hG.trans hq.2 rfl), fun _ => next 1 σ1 (Or.inr rfl) (hG.trans hq.2 rfl)⟩⟩
    refine ⟨hin3, fun _ => ⟨hin3, fun _ => ⟨fun _ => next 0 σ (Or.inl rfl) hG, fun _ => call⟩, fun _ => call⟩, fun _ => ⟨fun _ => ⟨hin3, fun _ => ⟨fun _ => next 0 σ (Or.inl rfl) hG, fun _ => call⟩, fun _ => call⟩, fun _ => ⟨1, rfl, Or.inr rfl, hG⟩⟩⟩
theorem holdsRule_OK {d r : Nat} {x1 : Int32} {σ : Sg} (ht : typed TYP σ) (h1 : x1.toInt = (r : Int)) (hr : r < 24) (hR : RULE σ r) : OkI PRG (d + 1 + 1) 208 [.ref 97, .int x1] σ (fun w σ' => (w = 0 ∨ w = 1) ∧ Gl mdTerm σ σ') := by
  have hin : inR x1 24 = true := inR_ok (by omega) (by omega)
  have h0 := hR.1
  refine ⟨M_208, rfl, Nat.le_of_ble_eq_true rfl, w_208_0 σ x1 ⟨hin, ?_⟩⟩
  rw [cn_of h1]
  exact rule_go h1 hr hR _ (σ.1 112 r).toInt.toNat 0 (σ.1 112 r) σ (by omega) (by omega) (Nat.le_refl _) (Or.inl rfl) (Gl.refl ht)
/-- the live customs are well formed -/
def WFc (σ : Sg) : Prop := ∀ k : Nat, (k : Int) < (σ.1 109 (wn (σ.1 97 18))).toInt → RULE σ (12 * wn (σ.1 97 18) + 2 * k) ∧ RULE σ (12 * wn (σ.1 97 18) + 2 * k + 1)
theorem rule_ix {x y : Int32} {l k : Nat} (hx : x.toInt = (l : Int)) (hy : y.toInt = (k : Int)) (hl : l ≤ 1) (hk : k ≤ 5) : (((12 : Int32) * x) + ((2 : Int32) * y)).toInt = ((12 * l + 2 * k : Nat) : Int) := by
  have e1 : ((12 : Int32) * x).toInt = 12 * x.toInt := mul_lit (by decide) (by unfold FL; omega) (by unfold FH; omega)
  have e2 : ((2 : Int32) * y).toInt = 2 * y.toInt := mul_lit (by decide) (by unfold FL; omega) (by unfold FH; omega)
  rw [add_ex (by rw [e1, e2]; unfold FL; omega) (by rw [e1, e2]; unfold FH; omega), e1, e2]
  omega
theorem live_wn {σ : Sg} (ht : typed TYP σ) : (σ.1 97 18).toInt = ((wn (σ.1 97 18) : Nat) : Int) ∧ wn (σ.1 97 18) ≤ 1 := by
  have h := tyF ht (q := 97) (κ := 12) (k := 18) (lo := 0) (hi := 1) rfl rfl
  unfold wn
  omega
theorem isWhen_OK {d k : Nat} {x1 : Int32} {σ : Sg} (ht : typed TYP σ) (h1 : x1.toInt = (k : Int)) (hk : (k : Int) < (σ.1 109 (wn (σ.1 97 18))).toInt) (hW : WFc σ) : OkI PRG (d + 1 + 1 + 1) 251 [.ref 97, .int x1] σ (fun w σ' => (w = 0 ∨ w = 1) ∧ Gl mdTerm σ σ') := by
  have hl := live_wn ht
  have hc := tyA ht (q := 109) (κ := 65) (k := wn (σ.1 97 18)) (a := 0) (b := 1) (lo := 0) (hi := 6) rfl rfl (by omega) (by omega)
  have e := rule_ix hl.1 h1 hl.2 (by omega)
  have hin : inR (((12 : Int32) * (σ.1 97 18)) + ((2 : Int32) * x1)) 24 = true := inR_ok (by omega) (by omega)
  refine ⟨M_251, rfl, Nat.le_of_ble_eq_true rfl, w_251_0 σ x1 ⟨hin, hin, fun _ => ⟨1, rfl, Or.inr rfl, Gl.refl ht⟩, fun _ => ⟨_, holdsRule_OK ht e (by omega) (hW k hk).1, fun w2 σ1 hq => ⟨fun _ => ⟨0, rfl, Or.inl rfl, hq.2⟩, fun _ => ⟨1, rfl, Or.inr rfl, hq.2⟩⟩⟩⟩⟩
theorem isTold_OK {d k : Nat} {x1 : Int32} {σ : Sg} (ht : typed TYP σ) (h1 : x1.toInt = (k : Int)) (hk : (k : Int) < (σ.1 109 (wn (σ.1 97 18))).toInt) (hW : WFc σ) : OkI PRG (d + 1 + 1 + 1) 252 [.ref 97, .int x1] σ (fun w σ' => (w = 0 ∨ w = 1) ∧ Gl mdTerm σ σ') := by
  have hl := live_wn ht
  have hc := tyA ht (q := 109) (κ := 65) (k := wn (σ.1 97 18)) (a := 0) (b := 1) (lo := 0) (hi := 6) rfl rfl (by omega) (by omega)
  have e := rule_ix hl.1 h1 hl.2 (by omega)
  have e2 : ((((12 : Int32) * (σ.1 97 18)) + ((2 : Int32) * x1)) + (1 : Int32)).toInt = ((12 * wn (σ.1 97 18) + 2 * k + 1 : Nat) : Int) := by
    rw [add_lit (k := 1) e (by decide) (by unfold FL; omega) (by unfold FH; omega)]; push_cast; rfl
  clear e
  exact ⟨M_252, rfl, Nat.le_of_ble_eq_true rfl, w_252_0 σ x1 ⟨_, holdsRule_OK ht e2 (by clear e2; omega) (hW k hk).2, fun w2 σ1 hq => ⟨hq.1, w2, rfl, hq⟩⟩⟩
theorem WFc.keep {σ σ' : Sg} (hG : Gl mdTerm σ σ') (h : WFc σ) : WFc σ' := by
  have e18 : σ'.1 97 18 = σ.1 97 18 := hG.get (q := 97) (κ := 12) rfl rfl
  have e109 : ∀ k, σ'.1 109 k = σ.1 109 k := fun k => hG.get (q := 109) (κ := 65) rfl rfl
  intro k hk
  rw [e18, e109] at hk
  rw [e18]
  exact ⟨RULE.keep hG (h k hk).1, RULE.keep hG (h k hk).2⟩
