/-! cutting: what must hold -/
set_option maxRecDepth 100000 in
theorem w_186_0 {d : Nat} {Q : Option Value → Sg → Prop} (σ : Sg) (x1 x2 x3 : Int32) (x4 : Int64) (h : (inR (σ.1 97 10) 403 = true ∧ (inR (σ.1 97 10) 403 = true ∧ (inR (σ.1 97 10) 403 = true ∧ (inR (σ.1 97 10) 403 = true ∧ Q none (s1 (s2 (s1 (s1 (s1 σ 100 (σ.1 97 10).toNatClampNeg x1) 101 (σ.1 97 10).toNatClampNeg x2) 102 (σ.1 97 10).toNatClampNeg x3) 103 (σ.1 97 10).toNatClampNeg x4) 97 10 ((σ.1 97 10) + (1 : Int32)))))))) : Rn PRG d 186 0 [(0, .ref 97), (1, .int x1), (2, .int x2), (3, .int x3), (4, .long x4)] [] σ Q := by
  have hM : PRG[186]? = some M_186 := rfl
  refine Rn.seg (pc' := 9) (ls' := [(0, .ref 97), (1, .int x1), (2, .int x2), (3, .int x3), (4, .long x4)]) (st' := [.int x1, .int (σ.1 97 10), .ref 100]) (σ' := σ) hM 5 rfl ?_
  refine Rn.iast hM rfl rfl h.1 ?_
  refine Rn.seg (pc' := 19) (ls' := [(0, .ref 97), (1, .int x1), (2, .int x2), (3, .int x3), (4, .long x4)]) (st' := [.int x2, .int (σ.1 97 10), .ref 101]) (σ' := (s1 σ 100 (σ.1 97 10).toNatClampNeg x1)) hM 5 rfl ?_
  refine Rn.iast hM rfl rfl h.2.1 ?_
  refine Rn.seg (pc' := 29) (ls' := [(0, .ref 97), (1, .int x1), (2, .int x2), (3, .int x3), (4, .long x4)]) (st' := [.int x3, .int (σ.1 97 10), .ref 102]) (σ' := (s1 (s1 σ 100 (σ.1 97 10).toNatClampNeg x1) 101 (σ.1 97 10).toNatClampNeg x2)) hM 5 rfl ?_
  refine Rn.iast hM rfl rfl h.2.2.1 ?_
  refine Rn.seg (pc' := 40) (ls' := [(0, .ref 97), (1, .int x1), (2, .int x2), (3, .int x3), (4, .long x4)]) (st' := [.long x4, .int (σ.1 97 10), .ref 103]) (σ' := (s1 (s1 (s1 σ 100 (σ.1 97 10).toNatClampNeg x1) 101 (σ.1 97 10).toNatClampNeg x2) 102 (σ.1 97 10).toNatClampNeg x3)) hM 5 rfl ?_
  refine Rn.last hM rfl rfl h.2.2.2.1 ?_
  refine Rn.seg (pc' := 51) (ls' := [(0, .ref 97), (1, .int x1), (2, .int x2), (3, .int x3), (4, .long x4)]) (st' := []) (σ' := (s1 (s2 (s1 (s1 (s1 σ 100 (σ.1 97 10).toNatClampNeg x1) 101 (σ.1 97 10).toNatClampNeg x2) 102 (σ.1 97 10).toNatClampNeg x3) 103 (σ.1 97 10).toNatClampNeg x4) 97 10 ((σ.1 97 10) + (1 : Int32)))) hM 6 rfl ?_
  exact Rn.ret hM rfl rfl h.2.2.2.2
set_option maxRecDepth 100000 in
theorem w_187_0 {d : Nat} {Q : Option Value → Sg → Prop} (σ : Sg) (x1 x2 x3 : Int32) (h : ((x3 = (61 : Int32) → ((x2 = (61 : Int32) → Rn PRG (d + 1) 187 161 [(0, .ref 97), (1, .int x1), (4, .int (11 : Int32)), (5, .int (11 : Int32))] [] σ Q) ∧ (¬ x2 = (61 : Int32) → ((x2 = (33 : Int32) → Rn PRG (d + 1) 187 161 [(0, .ref 97), (1, .int x1), (4, .int (12 : Int32)), (5, .int (12 : Int32))] [] σ Q) ∧ (¬ x2 = (33 : Int32) → ((x2 = (60 : Int32) → Rn PRG (d + 1) 187 161 [(0, .ref 97), (1, .int x1), (4, .int (14 : Int32)), (5, .int (14 : Int32))] [] σ Q) ∧ (¬ x2 = (60 : Int32) → ((x2 = (59 : Int32) → Rn PRG (d + 1) 187 161 [(0, .ref 97), (1, .int x1), (4, .int (0 : Int32)), (5, .int (4 : Int32))] [] σ Q) ∧ (¬ x2 = (59 : Int32) → ((x2 = (40 : Int32) → Rn PRG (d + 1) 187 161 [(0, .ref 97), (1, .int x1), (4, .int (0 : Int32)), (5, .int (6 : Int32))] [] σ Q) ∧ (¬ x2 = (40 : Int32) → ((x2 = (41 : Int32) → Rn PRG (d + 1) 187 161 [(0, .ref 97), (1, .int x1), (4, .int (0 : Int32)), (5, .int (7 : Int32))] [] σ Q) ∧ (¬ x2 = (41 : Int32) → ((x2 = (43 : Int32) → Rn PRG (d + 1) 187 161 [(0, .ref 97), (1, .int x1), (4, .int (0 : Int32)), (5, .int (8 : Int32))] [] σ Q) ∧ (¬ x2 = (43 : Int32) → ((x2 = (45 : Int32) → Rn PRG (d + 1) 187 161 [(0, .ref 97), (1, .int x1), (4, .int (0 : Int32)), (5, .int (9 : Int32))] [] σ Q) ∧ (¬ x2 = (45 : Int32) → ((x2 = (42 : Int32) → Rn PRG (d + 1) 187 161 [(0, .ref 97), (1, .int x1), (4, .int (0 : Int32)), (5, .int (10 : Int32))] [] σ Q) ∧ (¬ x2 = (42 : Int32) → ((x2 = (60 : Int32) → Rn PRG (d + 1) 187 161 [(0, .ref 97), (1, .int x1), (4, .int (0 : Int32)), (5, .int (13 : Int32))] [] σ Q) ∧ (¬ x2 = (60 : Int32) → ((x2 = (47 : Int32) → Rn PRG (d + 1) 187 161 [(0, .ref 97), (1, .int x1), (4, .int (0 : Int32)), (5, .int (15 : Int32))] [] σ Q) ∧ (¬ x2 = (47 : Int32) → Rn PRG (d + 1) 187 161 [(0, .ref 97), (1, .int x1), (4, .int (0 : Int32)), (5, .int (3 : Int32))] [] σ Q))))))))))))))))))))))) ∧ (¬ x3 = (61 : Int32) → ((x2 = (59 : Int32) → Rn PRG (d + 1) 187 161 [(0, .ref 97), (1, .int x1), (4, .int (0 : Int32)), (5, .int (4 : Int32))] [] σ Q) ∧ (¬ x2 = (59 : Int32) → ((x2 = (40 : Int32) → Rn PRG (d + 1) 187 161 [(0, .ref 97), (1, .int x1), (4, .int (0 : Int32)), (5, .int (6 : Int32))] [] σ Q) ∧ (¬ x2 = (40 : Int32) → ((x2 = (41 : Int32) → Rn PRG (d + 1) 187 161 [(0, .ref 97), (1, .int x1), (4, .int (0 : Int32)), (5, .int (7 : Int32))] [] σ Q) ∧ (¬ x2 = (41 : Int32) → ((x2 = (43 : Int32) → Rn PRG (d + 1) 187 161 [(0, .ref 97), (1, .int x1), (4, .int (0 : Int32)), (5, .int (8 : Int32))] [] σ Q) ∧ (¬ x2 = (43 : Int32) → ((x2 = (45 : Int32) → Rn PRG (d + 1) 187 161 [(0, .ref 97), (1, .int x1), (4, .int (0 : Int32)), (5, .int (9 : Int32))] [] σ Q) ∧ (¬ x2 = (45 : Int32) → ((x2 = (42 : Int32) → Rn PRG (d + 1) 187 161 [(0, .ref 97), (1, .int x1), (4, .int (0 : Int32)), (5, .int (10 : Int32))] [] σ Q) ∧ (¬ x2 = (42 : Int32) → ((x2 = (60 : Int32) → Rn PRG (d + 1) 187 161 [(0, .ref 97), (1, .int x1), (4, .int (0 : Int32)), (5, .int (13 : Int32))] [] σ Q) ∧ (¬ x2 = (60 : Int32) → ((x2 = (47 : Int32) → Rn PRG (d + 1) 187 161 [(0, .ref 97), (1, .int x1), (4, .int (0 : Int32)), (5, .int (15 : Int32))] [] σ Q) ∧ (¬ x2 = (47 : Int32) → Rn PRG (d + 1) 187 161 [(0, .ref 97), (1, .int x1), (4, .int (0 : Int32)), (5, .int (3 : Int32))] [] σ Q))))))))))))))))))) : Rn PRG (d + 1) 187 0 [(0, .ref 97), (1, .int x1), (2, .int x2), (3, .int x3)] [] σ Q := by
  have hM : PRG[187]? = some M_187 := rfl
  refine Rn.br (c := x3 = (61 : Int32)) (a := 10) (b := 6) (ls' := [(0, .ref 97), (1, .int x1), (2, .int x2), (3, .int x3)]) (st' := []) (σ' := σ) hM 3 rfl (fun c => ?_) (fun c => ?_)
  · replace h := h.1 c
    refine Rn.brN (c := x2 = (61 : Int32)) (a := 21) (b := 16) (ls' := [(0, .ref 97), (1, .int x1), (2, .int x2), (3, .int x3)]) (st' := []) (σ' := σ) hM 3 rfl (fun c => ?_) (fun c => ?_)
    · replace h := h.2 c
      refine Rn.brN (c := x2 = (33 : Int32)) (a := 32) (b := 27) (ls' := [(0, .ref 97), (1, .int x1), (2, .int x2), (3, .int x3)]) (st' := []) (σ' := σ) hM 3 rfl (fun c => ?_) (fun c => ?_)
      · replace h := h.2 c
        refine Rn.brN (c := x2 = (60 : Int32)) (a := 43) (b := 38) (ls' := [(0, .ref 97), (1, .int x1), (2, .int x2), (3, .int x3)]) (st' := []) (σ' := σ) hM 3 rfl (fun c => ?_) (fun c => ?_)
        · replace h := h.2 c
          refine Rn.brN (c := x2 = (59 : Int32)) (a := 73) (b := 67) (ls' := [(5, .int (3 : Int32)), (4, .int (0 : Int32)), (0, .ref 97), (1, .int x1), (2, .int x2), (3, .int x3)]) (st' := []) (σ' := σ) hM 9 rfl (fun c => ?_) (fun c => ?_)
          · replace h := h.2 c
            refine Rn.brN (c := x2 = (40 : Int32)) (a := 86) (b := 79) (ls' := [(5, .int (3 : Int32)), (4, .int (0 : Int32)), (0, .ref 97), (1, .int x1), (2, .int x2), (3, .int x3)]) (st' := []) (σ' := σ) hM 3 rfl (fun c => ?_) (fun c => ?_)
            · replace h := h.2 c
              refine Rn.brN (c := x2 = (41 : Int32)) (a := 99) (b := 92) (ls' := [(5, .int (3 : Int32)), (4, .int (0 : Int32)), (0, .ref 97), (1, .int x1), (2, .int x2), (3, .int x3)]) (st' := []) (σ' := σ) hM 3 rfl (fun c => ?_) (fun c => ?_)
              · replace h := h.2 c
                refine Rn.brN (c := x2 = (43 : Int32)) (a := 112) (b := 105) (ls' := [(5, .int (3 : Int32)), (4, .int (0 : Int32)), (0, .ref 97), (1, .int x1), (2, .int x2), (3, .int x3)]) (st' := []) (σ' := σ) hM 3 rfl (fun c => ?_) (fun c => ?_)
                · replace h := h.2 c
                  refine Rn.brN (c := x2 = (45 : Int32)) (a := 125) (b := 118) (ls' := [(5, .int (3 : Int32)), (4, .int (0 : Int32)), (0, .ref 97), (1, .int x1), (2, .int x2), (3, .int x3)]) (st' := []) (σ' := σ) hM 3 rfl (fun c => ?_) (fun c => ?_)
                  · replace h := h.2 c
                    refine Rn.brN (c := x2 = (42 : Int32)) (a := 138) (b := 131) (ls' := [(5, .int (3 : Int32)), (4, .int (0 : Int32)), (0, .ref 97), (1, .int x1), (2, .int x2), (3, .int x3)]) (st' := []) (σ' := σ) hM 3 rfl (fun c => ?_) (fun c => ?_)
                    · replace h := h.2 c
                      refine Rn.brN (c := x2 = (60 : Int32)) (a := 151) (b := 144) (ls' := [(5, .int (3 : Int32)), (4, .int (0 : Int32)), (0, .ref 97), (1, .int x1), (2, .int x2), (3, .int x3)]) (st' := []) (σ' := σ) hM 3 rfl (fun c => ?_) (fun c => ?_)
                      · replace h := h.2 c
                        refine Rn.brN (c := x2 = (47 : Int32)) (a := 161) (b := 157) (ls' := [(5, .int (3 : Int32)), (4, .int (0 : Int32)), (0, .ref 97), (1, .int x1), (2, .int x2), (3, .int x3)]) (st' := []) (σ' := σ) hM 3 rfl (fun c => ?_) (fun c => ?_)
                        · replace h := h.2 c
                          refine Rn.seg (pc' := 161) (ls' := [(5, .int (3 : Int32)), (4, .int (0 : Int32)), (0, .ref 97), (1, .int x1), (2, .int x2), (3, .int x3)]) (st' := []) (σ' := σ) hM 0 rfl ?_
                          exact Rn.sub h (subL_cons rfl (subL_cons rfl (subL_cons rfl (subL_cons rfl subL_nil)))) (show ndL _ from (by decide : List.Nodup ([0, 1, 4, 5] : List Nat)))
                        · replace h := h.1 c
                          refine Rn.seg (pc' := 161) (ls' := [(5, .int (15 : Int32)), (4, .int (0 : Int32)), (0, .ref 97), (1, .int x1), (2, .int x2), (3, .int x3)]) (st' := []) (σ' := σ) hM 2 rfl ?_
                          exact Rn.sub h (subL_cons rfl (subL_cons rfl (subL_cons rfl (subL_cons rfl subL_nil)))) (show ndL _ from (by decide : List.Nodup ([0, 1, 4, 5] : List Nat)))
                      · replace h := h.1 c
                        refine Rn.seg (pc' := 161) (ls' := [(5, .int (13 : Int32)), (4, .int (0 : Int32)), (0, .ref 97), (1, .int x1), (2, .int x2), (3, .int x3)]) (st' := []) (σ' := σ) hM 3 rfl ?_
                        exact Rn.sub h (subL_cons rfl (subL_cons rfl (subL_cons rfl (subL_cons rfl subL_nil)))) (show ndL _ from (by decide : List.Nodup ([0, 1, 4, 5] : List Nat)))
                    · replace h := h.1 c
                      refine Rn.seg (pc' := 161) (ls' := [(5, .int (10 : Int32)), (4, .int (0 : Int32)), (0, .ref 97), (1, .int x1), (2, .int x2), (3, .int x3)]) (st' := []) (σ' := σ) hM 3 rfl ?_
                      exact Rn.sub h (subL_cons rfl (subL_cons rfl (subL_cons rfl (subL_cons rfl subL_nil)))) (show ndL _ from (by decide : List.Nodup ([0, 1, 4, 5] : List Nat)))
                  · replace h := h.1 c
                    refine Rn.seg (pc' := 161) (ls' := [(5, .int (9 : Int32)), (4, .int (0 : Int32)), (0, .ref 97), (1, .int x1), (2, .int x2), (3, .int x3)]) (st' := []) (σ' := σ) hM 3 rfl ?_
                    exact Rn.sub h (subL_cons rfl (subL_cons rfl (subL_cons rfl (subL_cons rfl subL_nil)))) (show ndL _ from (by decide : List.Nodup ([0, 1, 4, 5] : List Nat)))
                · replace h := h.1 c
                  refine Rn.seg (pc' := 161) (ls' := [(5, .int (8 : Int32)), (4, .int (0 : Int32)), (0, .ref 97), (1, .int x1), (2, .int x2), (3, .int x3)]) (st' := []) (σ' := σ) hM 3 rfl ?_
                  exact Rn.sub h (subL_cons rfl (subL_cons rfl (subL_cons rfl (subL_cons rfl subL_nil)))) (show ndL _ from (by decide : List.Nodup ([0, 1, 4, 5] : List Nat)))
              · replace h := h.1 c
                refine Rn.seg (pc' := 161) (ls' := [(5, .int (7 : Int32)), (4, .int (0 : Int32)), (0, .ref 97), (1, .int x1), (2, .int x2), (3, .int x3)]) (st' := []) (σ' := σ) hM 3 rfl ?_
                exact Rn.sub h (subL_cons rfl (subL_cons rfl (subL_cons rfl (subL_cons rfl subL_nil)))) (show ndL _ from (by decide : List.Nodup ([0, 1, 4, 5] : List Nat)))
            · replace h := h.1 c
              refine Rn.seg (pc' := 161) (ls' := [(5, .int (6 : Int32)), (4, .int (0 : Int32)), (0, .ref 97), (1, .int x1), (2, .int x2), (3, .int x3)]) (st' := []) (σ' := σ) hM 3 rfl ?_
              exact Rn.sub h (subL_cons rfl (subL_cons rfl (subL_cons rfl (subL_cons rfl subL_nil)))) (show ndL _ from (by decide : List.Nodup ([0, 1, 4, 5] : List Nat)))
          · replace h := h.1 c
            refine Rn.seg (pc' := 161) (ls' := [(5, .int (4 : Int32)), (4, .int (0 : Int32)), (0, .ref 97), (1, .int x1), (2, .int x2), (3, .int x3)]) (st' := []) (σ' := σ) hM 3 rfl ?_
            exact Rn.sub h (subL_cons rfl (subL_cons rfl (subL_cons rfl (subL_cons rfl subL_nil)))) (show ndL _ from (by decide : List.Nodup ([0, 1, 4, 5] : List Nat)))
        · replace h := h.1 c
          refine Rn.seg (pc' := 161) (ls' := [(5, .int (14 : Int32)), (4, .int (14 : Int32)), (0, .ref 97), (1, .int x1), (2, .int x2), (3, .int x3)]) (st' := []) (σ' := σ) hM 10 rfl ?_
          exact Rn.sub h (subL_cons rfl (subL_cons rfl (subL_cons rfl (subL_cons rfl subL_nil)))) (show ndL _ from (by decide : List.Nodup ([0, 1, 4, 5] : List Nat)))
      · replace h := h.1 c
        refine Rn.seg (pc' := 161) (ls' := [(5, .int (12 : Int32)), (4, .int (12 : Int32)), (0, .ref 97), (1, .int x1), (2, .int x2), (3, .int x3)]) (st' := []) (σ' := σ) hM 10 rfl ?_
        exact Rn.sub h (subL_cons rfl (subL_cons rfl (subL_cons rfl (subL_cons rfl subL_nil)))) (show ndL _ from (by decide : List.Nodup ([0, 1, 4, 5] : List Nat)))
    · replace h := h.1 c
      refine Rn.seg (pc' := 161) (ls' := [(5, .int (11 : Int32)), (4, .int (11 : Int32)), (0, .ref 97), (1, .int x1), (2, .int x2), (3, .int x3)]) (st' := []) (σ' := σ) hM 10 rfl ?_
      exact Rn.sub h (subL_cons rfl (subL_cons rfl (subL_cons rfl (subL_cons rfl subL_nil)))) (show ndL _ from (by decide : List.Nodup ([0, 1, 4, 5] : List Nat)))
  · replace h := h.2 c
    refine Rn.brN (c := x2 = (59 : Int32)) (a := 73) (b := 67) (ls' := [(5, .int (3 : Int32)), (4, .int (0 : Int32)), (0, .ref 97), (1, .int x1), (2, .int x2), (3, .int x3)]) (st' := []) (σ' := σ) hM 10 rfl (fun c => ?_) (fun c => ?_)
    · replace h := h.2 c
      refine Rn.brN (c := x2 = (40 : Int32)) (a := 86) (b := 79) (ls' := [(5, .int (3 : Int32)), (4, .int (0 : Int32)), (0, .ref 97), (1, .int x1), (2, .int x2), (3, .int x3)]) (st' := []) (σ' := σ) hM 3 rfl (fun c => ?_) (fun c => ?_)
      · replace h := h.2 c
        refine Rn.brN (c := x2 = (41 : Int32)) (a := 99) (b := 92) (ls' := [(5, .int (3 : Int32)), (4, .int (0 : Int32)), (0, .ref 97), (1, .int x1), (2, .int x2), (3, .int x3)]) (st' := []) (σ' := σ) hM 3 rfl (fun c => ?_) (fun c => ?_)
        · replace h := h.2 c
          refine Rn.brN (c := x2 = (43 : Int32)) (a := 112) (b := 105) (ls' := [(5, .int (3 : Int32)), (4, .int (0 : Int32)), (0, .ref 97), (1, .int x1), (2, .int x2), (3, .int x3)]) (st' := []) (σ' := σ) hM 3 rfl (fun c => ?_) (fun c => ?_)
          · replace h := h.2 c
            refine Rn.brN (c := x2 = (45 : Int32)) (a := 125) (b := 118) (ls' := [(5, .int (3 : Int32)), (4, .int (0 : Int32)), (0, .ref 97), (1, .int x1), (2, .int x2), (3, .int x3)]) (st' := []) (σ' := σ) hM 3 rfl (fun c => ?_) (fun c => ?_)
            · replace h := h.2 c
              refine Rn.brN (c := x2 = (42 : Int32)) (a := 138) (b := 131) (ls' := [(5, .int (3 : Int32)), (4, .int (0 : Int32)), (0, .ref 97), (1, .int x1), (2, .int x2), (3, .int x3)]) (st' := []) (σ' := σ) hM 3 rfl (fun c => ?_) (fun c => ?_)
              · replace h := h.2 c
                refine Rn.brN (c := x2 = (60 : Int32)) (a := 151) (b := 144) (ls' := [(5, .int (3 : Int32)), (4, .int (0 : Int32)), (0, .ref 97), (1, .int x1), (2, .int x2), (3, .int x3)]) (st' := []) (σ' := σ) hM 3 rfl (fun c => ?_) (fun c => ?_)
                · replace h := h.2 c
                  refine Rn.brN (c := x2 = (47 : Int32)) (a := 161) (b := 157) (ls' := [(5, .int (3 : Int32)), (4, .int (0 : Int32)), (0, .ref 97), (1, .int x1), (2, .int x2), (3, .int x3)]) (st' := []) (σ' := σ) hM 3 rfl (fun c => ?_) (fun c => ?_)
                  · replace h := h.2 c
                    refine Rn.seg (pc' := 161) (ls' := [(5, .int (3 : Int32)), (4, .int (0 : Int32)), (0, .ref 97), (1, .int x1), (2, .int x2), (3, .int x3)]) (st' := []) (σ' := σ) hM 0 rfl ?_
                    exact Rn.sub h (subL_cons rfl (subL_cons rfl (subL_cons rfl (subL_cons rfl subL_nil)))) (show ndL _ from (by decide : List.Nodup ([0, 1, 4, 5] : List Nat)))
                  · replace h := h.1 c
                    refine Rn.seg (pc' := 161) (ls' := [(5, .int (15 : Int32)), (4, .int (0 : Int32)), (0, .ref 97), (1, .int x1), (2, .int x2), (3, .int x3)]) (st' := []) (σ' := σ) hM 2 rfl ?_
                    exact Rn.sub h (subL_cons rfl (subL_cons rfl (subL_cons rfl (subL_cons rfl subL_nil)))) (show ndL _ from (by decide : List.Nodup ([0, 1, 4, 5] : List Nat)))
                · replace h := h.1 c
                  refine Rn.seg (pc' := 161) (ls' := [(5, .int (13 : Int32)), (4, .int (0 : Int32)), (0, .ref 97), (1, .int x1), (2, .int x2), (3, .int x3)]) (st' := []) (σ' := σ) hM 3 rfl ?_
                  exact Rn.sub h (subL_cons rfl (subL_cons rfl (subL_cons rfl (subL_cons rfl subL_nil)))) (show ndL _ from (by decide : List.Nodup ([0, 1, 4, 5] : List Nat)))
              · replace h := h.1 c
                refine Rn.seg (pc' := 161) (ls' := [(5, .int (10 : Int32)), (4, .int (0 : Int32)), (0, .ref 97), (1, .int x1), (2, .int x2), (3, .int x3)]) (st' := []) (σ' := σ) hM 3 rfl ?_
                exact Rn.sub h (subL_cons rfl (subL_cons rfl (subL_cons rfl (subL_cons rfl subL_nil)))) (show ndL _ from (by decide : List.Nodup ([0, 1, 4, 5] : List Nat)))
            · replace h := h.1 c
              refine Rn.seg (pc' := 161) (ls' := [(5, .int (9 : Int32)), (4, .int (0 : Int32)), (0, .ref 97), (1, .int x1), (2, .int x2), (3, .int x3)]) (st' := []) (σ' := σ) hM 3 rfl ?_
              exact Rn.sub h (subL_cons rfl (subL_cons rfl (subL_cons rfl (subL_cons rfl subL_nil)))) (show ndL _ from (by decide : List.Nodup ([0, 1, 4, 5] : List Nat)))
          · replace h := h.1 c
            refine Rn.seg (pc' := 161) (ls' := [(5, .int (8 : Int32)), (4, .int (0 : Int32)), (0, .ref 97), (1, .int x1), (2, .int x2), (3, .int x3)]) (st' := []) (σ' := σ) hM 3 rfl ?_
            exact Rn.sub h (subL_cons rfl (subL_cons rfl (subL_cons rfl (subL_cons rfl subL_nil)))) (show ndL _ from (by decide : List.Nodup ([0, 1, 4, 5] : List Nat)))
        · replace h := h.1 c
          refine Rn.seg (pc' := 161) (ls' := [(5, .int (7 : Int32)), (4, .int (0 : Int32)), (0, .ref 97), (1, .int x1), (2, .int x2), (3, .int x3)]) (st' := []) (σ' := σ) hM 3 rfl ?_
          exact Rn.sub h (subL_cons rfl (subL_cons rfl (subL_cons rfl (subL_cons rfl subL_nil)))) (show ndL _ from (by decide : List.Nodup ([0, 1, 4, 5] : List Nat)))
      · replace h := h.1 c
        refine Rn.seg (pc' := 161) (ls' := [(5, .int (6 : Int32)), (4, .int (0 : Int32)), (0, .ref 97), (1, .int x1), (2, .int x2), (3, .int x3)]) (st' := []) (σ' := σ) hM 3 rfl ?_
        exact Rn.sub h (subL_cons rfl (subL_cons rfl (subL_cons rfl (subL_cons rfl subL_nil)))) (show ndL _ from (by decide : List.Nodup ([0, 1, 4, 5] : List Nat)))
    · replace h := h.1 c
      refine Rn.seg (pc' := 161) (ls' := [(5, .int (4 : Int32)), (4, .int (0 : Int32)), (0, .ref 97), (1, .int x1), (2, .int x2), (3, .int x3)]) (st' := []) (σ' := σ) hM 3 rfl ?_
      exact Rn.sub h (subL_cons rfl (subL_cons rfl (subL_cons rfl (subL_cons rfl subL_nil)))) (show ndL _ from (by decide : List.Nodup ([0, 1, 4, 5] : List Nat)))
set_option maxRecDepth 100000 in
theorem w_187_161 {d : Nat} {Q : Option Value → Sg → Prop} (σ : Sg) (x1 x4 x5 : Int32) (h : (∃ Qc : Sg → Prop, OkV PRG d 186 [.ref 97, .int x5, .int x1, .int (0 : Int32), .long (0 : Int64)] σ Qc ∧ ∀ σ1, Qc σ1 → ((x4 ≤ 0 → Q (some (.int (1 : Int32))) σ1) ∧ (¬ x4 ≤ 0 → Q (some (.int (2 : Int32))) σ1)))) : Rn PRG (d + 1) 187 161 [(0, .ref 97), (1, .int x1), (4, .int x4), (5, .int x5)] [] σ Q := by
  have hM : PRG[187]? = some M_187 := rfl
  refine Rn.seg (pc' := 167) (ls' := [(0, .ref 97), (1, .int x1), (4, .int x4), (5, .int x5)]) (st' := [.long (0 : Int64), .int (0 : Int32), .int x1, .int x5, .ref 97]) (σ' := σ) hM 5 rfl ?_
  obtain ⟨Qc, hq, h⟩ := h
  refine Rn.cV hM rfl rfl (by decide) hq (fun σ1 hw => ?_)
  replace h := h σ1 hw
  refine Rn.br (c := x4 ≤ 0) (a := 179) (b := 175) (ls' := [(0, .ref 97), (1, .int x1), (4, .int x4), (5, .int x5)]) (st' := []) (σ' := σ1) hM 2 rfl (fun c => ?_) (fun c => ?_)
  · replace h := h.1 c
    refine Rn.seg (pc' := 180) (ls' := [(0, .ref 97), (1, .int x1), (4, .int x4), (5, .int x5)]) (st' := [.int (1 : Int32)]) (σ' := σ1) hM 1 rfl ?_
    exact Rn.ret hM rfl rfl h
  · replace h := h.2 c
    refine Rn.seg (pc' := 180) (ls' := [(0, .ref 97), (1, .int x1), (4, .int x4), (5, .int x5)]) (st' := [.int (2 : Int32)]) (σ' := σ1) hM 2 rfl ?_
    exact Rn.ret hM rfl rfl h
set_option maxRecDepth 100000 in
theorem w_181_0 {d : Nat} {Q : Option Value → Sg → Prop} (σ : Sg) (x1 : Int32) (h : (((σ.1 97 4) ≤ x1 → Q (some (.int (0 : Int32))) σ) ∧ (¬ (σ.1 97 4) ≤ x1 → (inR x1 2000 = true ∧ Q (some (.int ((σ.1 99 x1.toNatClampNeg) &&& (255 : Int32)))) σ)))) : Rn PRG d 181 0 [(0, .ref 97), (1, .int x1)] [] σ Q := by
  have hM : PRG[181]? = some M_181 := rfl
  refine Rn.br (c := (σ.1 97 4) ≤ x1) (a := 21) (b := 8) (ls' := [(0, .ref 97), (1, .int x1)]) (st' := []) (σ' := σ) hM 4 rfl (fun c => ?_) (fun c => ?_)
  · replace h := h.1 c
    refine Rn.seg (pc' := 22) (ls' := [(0, .ref 97), (1, .int x1)]) (st' := [.int (0 : Int32)]) (σ' := σ) hM 1 rfl ?_
    exact Rn.ret hM rfl rfl h
  · replace h := h.2 c
    refine Rn.seg (pc' := 13) (ls' := [(0, .ref 97), (1, .int x1)]) (st' := [.int x1, .ref 99]) (σ' := σ) hM 3 rfl ?_
    refine Rn.bald2 hM rfl rfl h.1 ?_
    refine Rn.seg (pc' := 22) (ls' := [(0, .ref 97), (1, .int x1)]) (st' := [.int ((σ.1 99 x1.toNatClampNeg) &&& (255 : Int32))]) (σ' := σ) hM 3 rfl ?_
    exact Rn.ret hM rfl rfl h.2
set_option maxRecDepth 100000 in
theorem w_182_0 {d : Nat} {Q : Option Value → Sg → Prop} (σ : Sg) (x0 : Int32) (h : ((x0 < (48 : Int32) → Rn PRG d 182 16 [] [] σ Q) ∧ (¬ x0 < (48 : Int32) → (((57 : Int32) < x0 → Rn PRG d 182 16 [] [] σ Q) ∧ (¬ (57 : Int32) < x0 → Q (some (.int (1 : Int32))) σ))))) : Rn PRG d 182 0 [(0, .int x0)] [] σ Q := by
  have hM : PRG[182]? = some M_182 := rfl
  refine Rn.br (c := x0 < (48 : Int32)) (a := 16) (b := 6) (ls' := [(0, .int x0)]) (st' := []) (σ' := σ) hM 3 rfl (fun c => ?_) (fun c => ?_)
  · replace h := h.1 c
    refine Rn.seg (pc' := 16) (ls' := [(0, .int x0)]) (st' := []) (σ' := σ) hM 0 rfl ?_
    exact Rn.sub h subL_nil (show ndL _ from (by decide : List.Nodup ([] : List Nat)))
  · replace h := h.2 c
    refine Rn.br (c := (57 : Int32) < x0) (a := 16) (b := 12) (ls' := [(0, .int x0)]) (st' := []) (σ' := σ) hM 3 rfl (fun c => ?_) (fun c => ?_)
    · replace h := h.1 c
      refine Rn.seg (pc' := 16) (ls' := [(0, .int x0)]) (st' := []) (σ' := σ) hM 0 rfl ?_
      exact Rn.sub h subL_nil (show ndL _ from (by decide : List.Nodup ([] : List Nat)))
    · replace h := h.2 c
      refine Rn.seg (pc' := 17) (ls' := [(0, .int x0)]) (st' := [.int (1 : Int32)]) (σ' := σ) hM 2 rfl ?_
      exact Rn.ret hM rfl rfl h
set_option maxRecDepth 100000 in
theorem w_182_16 {d : Nat} {Q : Option Value → Sg → Prop} (σ : Sg) (h : Q (some (.int (0 : Int32))) σ) : Rn PRG d 182 16 [] [] σ Q := by
  have hM : PRG[182]? = some M_182 := rfl
  refine Rn.seg (pc' := 17) (ls' := []) (st' := [.int (0 : Int32)]) (σ' := σ) hM 1 rfl ?_
  exact Rn.ret hM rfl rfl h
set_option maxRecDepth 100000 in
theorem w_183_0 {d : Nat} {Q : Option Value → Sg → Prop} (σ : Sg) (x0 : Int32) (h : ((x0 < (97 : Int32) → Rn PRG d 183 16 [] [] σ Q) ∧ (¬ x0 < (97 : Int32) → (((122 : Int32) < x0 → Rn PRG d 183 16 [] [] σ Q) ∧ (¬ (122 : Int32) < x0 → Q (some (.int (1 : Int32))) σ))))) : Rn PRG d 183 0 [(0, .int x0)] [] σ Q := by
  have hM : PRG[183]? = some M_183 := rfl
  refine Rn.br (c := x0 < (97 : Int32)) (a := 16) (b := 6) (ls' := [(0, .int x0)]) (st' := []) (σ' := σ) hM 3 rfl (fun c => ?_) (fun c => ?_)
  · replace h := h.1 c
    refine Rn.seg (pc' := 16) (ls' := [(0, .int x0)]) (st' := []) (σ' := σ) hM 0 rfl ?_
    exact Rn.sub h subL_nil (show ndL _ from (by decide : List.Nodup ([] : List Nat)))
  · replace h := h.2 c
    refine Rn.br (c := (122 : Int32) < x0) (a := 16) (b := 12) (ls' := [(0, .int x0)]) (st' := []) (σ' := σ) hM 3 rfl (fun c => ?_) (fun c => ?_)
    · replace h := h.1 c
      refine Rn.seg (pc' := 16) (ls' := [(0, .int x0)]) (st' := []) (σ' := σ) hM 0 rfl ?_
      exact Rn.sub h subL_nil (show ndL _ from (by decide : List.Nodup ([] : List Nat)))
    · replace h := h.2 c
      refine Rn.seg (pc' := 17) (ls' := [(0, .int x0)]) (st' := [.int (1 : Int32)]) (σ' := σ) hM 2 rfl ?_
      exact Rn.ret hM rfl rfl h
set_option maxRecDepth 100000 in
theorem w_183_16 {d : Nat} {Q : Option Value → Sg → Prop} (σ : Sg) (h : Q (some (.int (0 : Int32))) σ) : Rn PRG d 183 16 [] [] σ Q := by
  have hM : PRG[183]? = some M_183 := rfl
  refine Rn.seg (pc' := 17) (ls' := []) (st' := [.int (0 : Int32)]) (σ' := σ) hM 1 rfl ?_
  exact Rn.ret hM rfl rfl h
set_option maxRecDepth 100000 in
theorem w_184_0 {d : Nat} {Q : Option Value → Sg → Prop} (σ : Sg) (x2 : Int32) (x0 : Int64) (h : ((x2 = 0 → Q (some (.long x0)) σ) ∧ (¬ x2 = 0 → Q (some (.long (((Int64.ofNat 27) * x0) + ((x2 - (97 : Int32)) + (1 : Int32)).toInt64))) σ))) : Rn PRG d 184 0 [(0, .long x0), (2, .int x2)] [] σ Q := by
  have hM : PRG[184]? = some M_184 := rfl
  refine Rn.brN (c := x2 = 0) (a := 8) (b := 4) (ls' := [(0, .long x0), (2, .int x2)]) (st' := []) (σ' := σ) hM 2 rfl (fun c => ?_) (fun c => ?_)
  · replace h := h.2 c
    refine Rn.seg (pc' := 21) (ls' := [(0, .long x0), (2, .int x2)]) (st' := [.long (((Int64.ofNat 27) * x0) + ((x2 - (97 : Int32)) + (1 : Int32)).toInt64)]) (σ' := σ) hM 10 rfl ?_
    exact Rn.ret hM rfl rfl h
  · replace h := h.1 c
    refine Rn.seg (pc' := 21) (ls' := [(0, .long x0), (2, .int x2)]) (st' := [.long x0]) (σ' := σ) hM 2 rfl ?_
    exact Rn.ret hM rfl rfl h
set_option maxRecDepth 100000 in
theorem w_188_0 {d : Nat} {Q : Option Value → Sg → Prop} (σ : Sg) (h : Rn PRG (d + 1) 188 7 [(0, .ref 97), (1, .int (0 : Int32))] [] (s1 σ 97 10 (0 : Int32)) Q) : Rn PRG (d + 1) 188 0 [(0, .ref 97)] [] σ Q := by
  have hM : PRG[188]? = some M_188 := rfl
  refine Rn.seg (pc' := 7) (ls' := [(1, .int (0 : Int32)), (0, .ref 97)]) (st' := []) (σ' := (s1 σ 97 10 (0 : Int32))) hM 5 rfl ?_
  exact Rn.sub h (subL_cons rfl (subL_cons rfl subL_nil)) (show ndL _ from (by decide : List.Nodup ([0, 1] : List Nat)))
set_option maxRecDepth 100000 in
theorem w_188_7 {d : Nat} {Q : Option Value → Sg → Prop} (σ : Sg) (x1 : Int32) (h : (((400 : Int32) < (σ.1 97 10) → Q none σ) ∧ (¬ (400 : Int32) < (σ.1 97 10) → (∃ Qc : Int32 → Sg → Prop, OkI PRG d 181 [.ref 97, .int x1] σ Qc ∧ ∀ w2 σ1, Qc w2 σ1 → ((x1 < (σ1.1 97 4) → ((w2 = (9 : Int32) → Rn PRG (d + 1) 188 7 [(0, .ref 97), (1, .int (x1 + (1 : Int32)))] [] σ1 Q) ∧ (¬ w2 = (9 : Int32) → ((w2 = (10 : Int32) → Rn PRG (d + 1) 188 7 [(0, .ref 97), (1, .int (x1 + (1 : Int32)))] [] σ1 Q) ∧ (¬ w2 = (10 : Int32) → ((w2 = (13 : Int32) → Rn PRG (d + 1) 188 7 [(0, .ref 97), (1, .int (x1 + (1 : Int32)))] [] σ1 Q) ∧ (¬ w2 = (13 : Int32) → ((w2 = (32 : Int32) → Rn PRG (d + 1) 188 7 [(0, .ref 97), (1, .int (x1 + (1 : Int32)))] [] σ1 Q) ∧ (¬ w2 = (32 : Int32) → (∃ Qc : Int32 → Sg → Prop, OkI PRG d 183 [.int w2] σ1 Qc ∧ ∀ w4 σ3, Qc w4 σ3 → ((w4 = 0 → (∃ Qc : Int32 → Sg → Prop, OkI PRG d 182 [.int w2] σ3 Qc ∧ ∀ w6 σ5, Qc w6 σ5 → ((w6 = 0 → (∃ Qc : Int32 → Sg → Prop, OkI PRG d 181 [.ref 97, .int (x1 + (1 : Int32))] σ5 Qc ∧ ∀ w8 σ7, Qc w8 σ7 → (∃ Qc : Int32 → Sg → Prop, OkI PRG d 187 [.ref 97, .int x1, .int w2, .int w8] σ7 Qc ∧ ∀ w10 σ9, Qc w10 σ9 → Rn PRG (d + 1) 188 7 [(0, .ref 97), (1, .int (x1 + w10))] [] σ9 Q))) ∧ (¬ w6 = 0 → Rn PRG (d + 1) 188 208 [(0, .ref 97), (1, .int x1), (3, .int (0 : Int32)), (4, .int (0 : Int32))] [] σ5 Q)))) ∧ (¬ w4 = 0 → Rn PRG (d + 1) 188 85 [(0, .ref 97), (1, .int x1), (3, .int (0 : Int32)), (4, .long (0 : Int64))] [] σ3 Q)))))))))))) ∧ (¬ x1 < (σ1.1 97 4) → (∃ Qc : Sg → Prop, OkV PRG d 186 [.ref 97, .int (0 : Int32), .int (σ1.1 97 4), .int (0 : Int32), .long (0 : Int64)] σ1 Qc ∧ ∀ σ11, Qc σ11 → Q none σ11))))))) : Rn PRG (d + 1) 188 7 [(0, .ref 97), (1, .int x1)] [] σ Q := by
  have hM : PRG[188]? = some M_188 := rfl
  refine Rn.br (c := (400 : Int32) < (σ.1 97 10)) (a := 294) (b := 17) (ls' := [(0, .ref 97), (1, .int x1)]) (st' := []) (σ' := σ) hM 4 rfl (fun c => ?_) (fun c => ?_)
  · replace h := h.1 c
    refine Rn.seg (pc' := 294) (ls' := [(0, .ref 97), (1, .int x1)]) (st' := []) (σ' := σ) hM 0 rfl ?_
    exact Rn.ret hM rfl rfl h
  · replace h := h.2 c
    refine Rn.seg (pc' := 19) (ls' := [(0, .ref 97), (1, .int x1)]) (st' := [.int x1, .ref 97]) (σ' := σ) hM 2 rfl ?_
    obtain ⟨Qc, hq, h⟩ := h
    refine Rn.cI hM rfl rfl (by decide) hq (fun w2 σ1 hw => ?_)
    replace h := h w2 σ1 hw
    refine Rn.br (c := x1 < (σ1.1 97 4)) (a := 43) (b := 31) (ls' := [(2, .int w2), (0, .ref 97), (1, .int x1)]) (st' := []) (σ' := σ1) hM 5 rfl (fun c => ?_) (fun c => ?_)
    · replace h := h.1 c
      refine Rn.br (c := w2 = (9 : Int32)) (a := 67) (b := 49) (ls' := [(2, .int w2), (0, .ref 97), (1, .int x1)]) (st' := []) (σ' := σ1) hM 3 rfl (fun c => ?_) (fun c => ?_)
      · replace h := h.1 c
        refine Rn.seg (pc' := 7) (ls' := [(1, .int (x1 + (1 : Int32))), (2, .int w2), (0, .ref 97)]) (st' := []) (σ' := σ1) hM 3 rfl ?_
        exact Rn.sub h (subL_cons rfl (subL_cons rfl subL_nil)) (show ndL _ from (by decide : List.Nodup ([0, 1] : List Nat)))
      · replace h := h.2 c
        refine Rn.br (c := w2 = (10 : Int32)) (a := 67) (b := 55) (ls' := [(2, .int w2), (0, .ref 97), (1, .int x1)]) (st' := []) (σ' := σ1) hM 3 rfl (fun c => ?_) (fun c => ?_)
        · replace h := h.1 c
          refine Rn.seg (pc' := 7) (ls' := [(1, .int (x1 + (1 : Int32))), (2, .int w2), (0, .ref 97)]) (st' := []) (σ' := σ1) hM 3 rfl ?_
          exact Rn.sub h (subL_cons rfl (subL_cons rfl subL_nil)) (show ndL _ from (by decide : List.Nodup ([0, 1] : List Nat)))
        · replace h := h.2 c
          refine Rn.br (c := w2 = (13 : Int32)) (a := 67) (b := 61) (ls' := [(2, .int w2), (0, .ref 97), (1, .int x1)]) (st' := []) (σ' := σ1) hM 3 rfl (fun c => ?_) (fun c => ?_)
          · replace h := h.1 c
            refine Rn.seg (pc' := 7) (ls' := [(1, .int (x1 + (1 : Int32))), (2, .int w2), (0, .ref 97)]) (st' := []) (σ' := σ1) hM 3 rfl ?_
            exact Rn.sub h (subL_cons rfl (subL_cons rfl subL_nil)) (show ndL _ from (by decide : List.Nodup ([0, 1] : List Nat)))
          · replace h := h.2 c
            refine Rn.brN (c := w2 = (32 : Int32)) (a := 73) (b := 67) (ls' := [(2, .int w2), (0, .ref 97), (1, .int x1)]) (st' := []) (σ' := σ1) hM 3 rfl (fun c => ?_) (fun c => ?_)
            · replace h := h.2 c
              refine Rn.seg (pc' := 74) (ls' := [(2, .int w2), (0, .ref 97), (1, .int x1)]) (st' := [.int w2]) (σ' := σ1) hM 1 rfl ?_
              obtain ⟨Qc, hq, h⟩ := h
              refine Rn.cI hM rfl rfl (by decide) hq (fun w4 σ3 hw => ?_)
              replace h := h w4 σ3 hw
              refine Rn.br (c := w4 = 0) (a := 196) (b := 80) (ls' := [(2, .int w2), (0, .ref 97), (1, .int x1)]) (st' := []) (σ' := σ3) hM 1 rfl (fun c => ?_) (fun c => ?_)
              · replace h := h.1 c
                refine Rn.seg (pc' := 197) (ls' := [(2, .int w2), (0, .ref 97), (1, .int x1)]) (st' := [.int w2]) (σ' := σ3) hM 1 rfl ?_
                obtain ⟨Qc, hq, h⟩ := h
                refine Rn.cI hM rfl rfl (by decide) hq (fun w6 σ5 hw => ?_)
                replace h := h w6 σ5 hw
                refine Rn.br (c := w6 = 0) (a := 275) (b := 203) (ls' := [(2, .int w2), (0, .ref 97), (1, .int x1)]) (st' := []) (σ' := σ5) hM 1 rfl (fun c => ?_) (fun c => ?_)
                · replace h := h.1 c
                  refine Rn.seg (pc' := 283) (ls' := [(2, .int w2), (0, .ref 97), (1, .int x1)]) (st' := [.int (x1 + (1 : Int32)), .ref 97, .int w2, .int x1, .ref 97, .int x1]) (σ' := σ5) hM 8 rfl ?_
                  obtain ⟨Qc, hq, h⟩ := h
                  refine Rn.cI hM rfl rfl (by decide) hq (fun w8 σ7 hw => ?_)
                  replace h := h w8 σ7 hw
                  refine Rn.seg (pc' := 286) (ls' := [(2, .int w2), (0, .ref 97), (1, .int x1)]) (st' := [.int w8, .int w2, .int x1, .ref 97, .int x1]) (σ' := σ7) hM 0 rfl ?_
                  obtain ⟨Qc, hq, h⟩ := h
                  refine Rn.cI hM rfl rfl (by decide) hq (fun w10 σ9 hw => ?_)
                  replace h := h w10 σ9 hw
                  refine Rn.seg (pc' := 7) (ls' := [(1, .int (x1 + w10)), (2, .int w2), (0, .ref 97)]) (st' := []) (σ' := σ9) hM 3 rfl ?_
                  exact Rn.sub h (subL_cons rfl (subL_cons rfl subL_nil)) (show ndL _ from (by decide : List.Nodup ([0, 1] : List Nat)))
                · replace h := h.2 c
                  refine Rn.seg (pc' := 208) (ls' := [(4, .int (0 : Int32)), (3, .int (0 : Int32)), (2, .int w2), (0, .ref 97), (1, .int x1)]) (st' := []) (σ' := σ5) hM 4 rfl ?_
                  exact Rn.sub h (subL_cons rfl (subL_cons rfl (subL_cons rfl (subL_cons rfl subL_nil)))) (show ndL _ from (by decide : List.Nodup ([0, 1, 3, 4] : List Nat)))
              · replace h := h.2 c
                refine Rn.seg (pc' := 85) (ls' := [(4, .long (0 : Int64)), (3, .int (0 : Int32)), (2, .int w2), (0, .ref 97), (1, .int x1)]) (st' := []) (σ' := σ3) hM 4 rfl ?_
                exact Rn.sub h (subL_cons rfl (subL_cons rfl (subL_cons rfl (subL_cons rfl subL_nil)))) (show ndL _ from (by decide : List.Nodup ([0, 1, 3, 4] : List Nat)))
            · replace h := h.1 c
              refine Rn.seg (pc' := 7) (ls' := [(1, .int (x1 + (1 : Int32))), (2, .int w2), (0, .ref 97)]) (st' := []) (σ' := σ1) hM 3 rfl ?_
              exact Rn.sub h (subL_cons rfl (subL_cons rfl subL_nil)) (show ndL _ from (by decide : List.Nodup ([0, 1] : List Nat)))
    · replace h := h.2 c
      refine Rn.seg (pc' := 39) (ls' := [(2, .int w2), (0, .ref 97), (1, .int x1)]) (st' := [.long (0 : Int64), .int (0 : Int32), .int (σ1.1 97 4), .int (0 : Int32), .ref 97]) (σ' := σ1) hM 6 rfl ?_
      obtain ⟨Qc, hq, h⟩ := h
      refine Rn.cV hM rfl rfl (by decide) hq (fun σ11 hw => ?_)
      replace h := h σ11 hw
      refine Rn.seg (pc' := 42) (ls' := [(2, .int w2), (0, .ref 97), (1, .int x1)]) (st' := []) (σ' := σ11) hM 0 rfl ?_
      exact Rn.ret hM rfl rfl h
set_option maxRecDepth 100000 in
theorem w_188_208 {d : Nat} {Q : Option Value → Sg → Prop} (σ : Sg) (x1 x3 x4 : Int32) (h : (∃ Qc : Int32 → Sg → Prop, OkI PRG d 181 [.ref 97, .int (x1 + x3)] σ Qc ∧ ∀ w2 σ1, Qc w2 σ1 → (∃ Qc : Int32 → Sg → Prop, OkI PRG d 182 [.int w2] σ1 Qc ∧ ∀ w4 σ3, Qc w4 σ3 → ((w4 = 0 → ((x3 ≤ (4 : Int32) → (∃ Qc : Sg → Prop, OkV PRG d 186 [.ref 97, .int (2 : Int32), .int x1, .int x4, .long (0 : Int64)] σ3 Qc ∧ ∀ σ5, Qc σ5 → Rn PRG (d + 1) 188 7 [(0, .ref 97), (1, .int (x1 + x3))] [] σ5 Q)) ∧ (¬ x3 ≤ (4 : Int32) → (∃ Qc : Sg → Prop, OkV PRG d 186 [.ref 97, .int (3 : Int32), .int x1, .int x4, .long (0 : Int64)] σ3 Qc ∧ ∀ σ6, Qc σ6 → Rn PRG (d + 1) 188 7 [(0, .ref 97), (1, .int (x1 + x3))] [] σ6 Q)))) ∧ (¬ w4 = 0 → (((4 : Int32) ≤ x3 → Rn PRG (d + 1) 188 208 [(0, .ref 97), (1, .int x1), (3, .int (x3 + (1 : Int32))), (4, .int x4)] [] σ3 Q) ∧ (¬ (4 : Int32) ≤ x3 → (∃ Qc : Int32 → Sg → Prop, OkI PRG d 181 [.ref 97, .int (x1 + x3)] σ3 Qc ∧ ∀ w8 σ7, Qc w8 σ7 → Rn PRG (d + 1) 188 208 [(0, .ref 97), (1, .int x1), (3, .int (x3 + (1 : Int32))), (4, .int ((((10 : Int32) * x4) + w8) - (48 : Int32)))] [] σ7 Q)))))))) : Rn PRG (d + 1) 188 208 [(0, .ref 97), (1, .int x1), (3, .int x3), (4, .int x4)] [] σ Q := by
  have hM : PRG[188]? = some M_188 := rfl
  refine Rn.seg (pc' := 212) (ls' := [(0, .ref 97), (1, .int x1), (3, .int x3), (4, .int x4)]) (st' := [.int (x1 + x3), .ref 97]) (σ' := σ) hM 4 rfl ?_
  obtain ⟨Qc, hq, h⟩ := h
  refine Rn.cI hM rfl rfl (by decide) hq (fun w2 σ1 hw => ?_)
  replace h := h w2 σ1 hw
  refine Rn.seg (pc' := 215) (ls' := [(0, .ref 97), (1, .int x1), (3, .int x3), (4, .int x4)]) (st' := [.int w2]) (σ' := σ1) hM 0 rfl ?_
  obtain ⟨Qc, hq, h⟩ := h
  refine Rn.cI hM rfl rfl (by decide) hq (fun w4 σ3 hw => ?_)
  replace h := h w4 σ3 hw
  refine Rn.br (c := w4 = 0) (a := 250) (b := 221) (ls' := [(0, .ref 97), (1, .int x1), (3, .int x3), (4, .int x4)]) (st' := []) (σ' := σ3) hM 1 rfl (fun c => ?_) (fun c => ?_)
  · replace h := h.1 c
    refine Rn.br (c := x3 ≤ (4 : Int32)) (a := 260) (b := 256) (ls' := [(0, .ref 97), (1, .int x1), (3, .int x3), (4, .int x4)]) (st' := [.ref 97]) (σ' := σ3) hM 4 rfl (fun c => ?_) (fun c => ?_)
    · replace h := h.1 c
      refine Rn.seg (pc' := 265) (ls' := [(0, .ref 97), (1, .int x1), (3, .int x3), (4, .int x4)]) (st' := [.long (0 : Int64), .int x4, .int x1, .int (2 : Int32), .ref 97]) (σ' := σ3) hM 4 rfl ?_
      obtain ⟨Qc, hq, h⟩ := h
      refine Rn.cV hM rfl rfl (by decide) hq (fun σ5 hw => ?_)
      replace h := h σ5 hw
      refine Rn.seg (pc' := 7) (ls' := [(1, .int (x1 + x3)), (0, .ref 97), (3, .int x3), (4, .int x4)]) (st' := []) (σ' := σ5) hM 6 rfl ?_
      exact Rn.sub h (subL_cons rfl (subL_cons rfl subL_nil)) (show ndL _ from (by decide : List.Nodup ([0, 1] : List Nat)))
    · replace h := h.2 c
      refine Rn.seg (pc' := 265) (ls' := [(0, .ref 97), (1, .int x1), (3, .int x3), (4, .int x4)]) (st' := [.long (0 : Int64), .int x4, .int x1, .int (3 : Int32), .ref 97]) (σ' := σ3) hM 5 rfl ?_
      obtain ⟨Qc, hq, h⟩ := h
      refine Rn.cV hM rfl rfl (by decide) hq (fun σ6 hw => ?_)
      replace h := h σ6 hw
      refine Rn.seg (pc' := 7) (ls' := [(1, .int (x1 + x3)), (0, .ref 97), (3, .int x3), (4, .int x4)]) (st' := []) (σ' := σ6) hM 6 rfl ?_
      exact Rn.sub h (subL_cons rfl (subL_cons rfl subL_nil)) (show ndL _ from (by decide : List.Nodup ([0, 1] : List Nat)))
  · replace h := h.2 c
    refine Rn.br (c := (4 : Int32) ≤ x3) (a := 244) (b := 226) (ls' := [(0, .ref 97), (1, .int x1), (3, .int x3), (4, .int x4)]) (st' := []) (σ' := σ3) hM 3 rfl (fun c => ?_) (fun c => ?_)
    · replace h := h.1 c
      refine Rn.seg (pc' := 208) (ls' := [(3, .int (x3 + (1 : Int32))), (0, .ref 97), (1, .int x1), (4, .int x4)]) (st' := []) (σ' := σ3) hM 2 rfl ?_
      exact Rn.sub h (subL_cons rfl (subL_cons rfl (subL_cons rfl (subL_cons rfl subL_nil)))) (show ndL _ from (by decide : List.Nodup ([0, 1, 3, 4] : List Nat)))
    · replace h := h.2 c
      refine Rn.seg (pc' := 235) (ls' := [(0, .ref 97), (1, .int x1), (3, .int x3), (4, .int x4)]) (st' := [.int (x1 + x3), .ref 97, .int ((10 : Int32) * x4)]) (σ' := σ3) hM 7 rfl ?_
      obtain ⟨Qc, hq, h⟩ := h
      refine Rn.cI hM rfl rfl (by decide) hq (fun w8 σ7 hw => ?_)
      replace h := h w8 σ7 hw
      refine Rn.seg (pc' := 208) (ls' := [(3, .int (x3 + (1 : Int32))), (4, .int ((((10 : Int32) * x4) + w8) - (48 : Int32))), (0, .ref 97), (1, .int x1)]) (st' := []) (σ' := σ7) hM 6 rfl ?_
      exact Rn.sub h (subL_cons rfl (subL_cons rfl (subL_cons rfl (subL_cons rfl subL_nil)))) (show ndL _ from (by decide : List.Nodup ([0, 1, 3, 4] : List Nat)))
set_option maxRecDepth 100000 in
theorem w_188_85 {d : Nat} {Q : Option Value → Sg → Prop} (σ : Sg) (x1 x3 : Int32) (x4 : Int64) (h : (∃ Qc : Int32 → Sg → Prop, OkI PRG d 181 [.ref 97, .int (x1 + x3)] σ Qc ∧ ∀ w2 σ1, Qc w2 σ1 → (∃ Qc : Int32 → Sg → Prop, OkI PRG d 183 [.int w2] σ1 Qc ∧ ∀ w4 σ3, Qc w4 σ3 → ((w4 = 0 → ((x3 ≤ (8 : Int32) → (((7 : Int32) < x3 → (∃ Qc : Sg → Prop, OkV PRG d 186 [.ref 97, .int (1 : Int32), .int x1, .int (0 : Int32), .long x4] σ3 Qc ∧ ∀ σ5, Qc σ5 → Rn PRG (d + 1) 188 7 [(0, .ref 97), (1, .int (x1 + x3))] [] σ5 Q)) ∧ (¬ (7 : Int32) < x3 → Rn PRG (d + 1) 188 146 [(0, .ref 97), (1, .int x1), (3, .int x3), (4, .long x4), (6, .int (1 : Int32)), (7, .int (0 : Int32))] [] σ3 Q))) ∧ (¬ x3 ≤ (8 : Int32) → (((7 : Int32) < x3 → (∃ Qc : Sg → Prop, OkV PRG d 186 [.ref 97, .int (3 : Int32), .int x1, .int (0 : Int32), .long x4] σ3 Qc ∧ ∀ σ6, Qc σ6 → Rn PRG (d + 1) 188 7 [(0, .ref 97), (1, .int (x1 + x3))] [] σ6 Q)) ∧ (¬ (7 : Int32) < x3 → Rn PRG (d + 1) 188 146 [(0, .ref 97), (1, .int x1), (3, .int x3), (4, .long x4), (6, .int (3 : Int32)), (7, .int (0 : Int32))] [] σ3 Q))))) ∧ (¬ w4 = 0 → (((8 : Int32) ≤ x3 → Rn PRG (d + 1) 188 85 [(0, .ref 97), (1, .int x1), (3, .int (x3 + (1 : Int32))), (4, .long x4)] [] σ3 Q) ∧ (¬ (8 : Int32) ≤ x3 → (∃ Qc : Int32 → Sg → Prop, OkI PRG d 181 [.ref 97, .int (x1 + x3)] σ3 Qc ∧ ∀ w8 σ7, Qc w8 σ7 → (∃ Qc : Int64 → Sg → Prop, OkJ PRG d 184 [.long x4, .int w8] σ7 Qc ∧ ∀ w10 σ9, Qc w10 σ9 → Rn PRG (d + 1) 188 85 [(0, .ref 97), (1, .int x1), (3, .int (x3 + (1 : Int32))), (4, .long w10)] [] σ9 Q))))))))) : Rn PRG (d + 1) 188 85 [(0, .ref 97), (1, .int x1), (3, .int x3), (4, .long x4)] [] σ Q := by
  have hM : PRG[188]? = some M_188 := rfl
  refine Rn.seg (pc' := 89) (ls' := [(0, .ref 97), (1, .int x1), (3, .int x3), (4, .long x4)]) (st' := [.int (x1 + x3), .ref 97]) (σ' := σ) hM 4 rfl ?_
  obtain ⟨Qc, hq, h⟩ := h
  refine Rn.cI hM rfl rfl (by decide) hq (fun w2 σ1 hw => ?_)
  replace h := h w2 σ1 hw
  refine Rn.seg (pc' := 92) (ls' := [(0, .ref 97), (1, .int x1), (3, .int x3), (4, .long x4)]) (st' := [.int w2]) (σ' := σ1) hM 0 rfl ?_
  obtain ⟨Qc, hq, h⟩ := h
  refine Rn.cI hM rfl rfl (by decide) hq (fun w4 σ3 hw => ?_)
  replace h := h w4 σ3 hw
  refine Rn.br (c := w4 = 0) (a := 124) (b := 98) (ls' := [(0, .ref 97), (1, .int x1), (3, .int x3), (4, .long x4)]) (st' := []) (σ' := σ3) hM 1 rfl (fun c => ?_) (fun c => ?_)
  · replace h := h.1 c
    refine Rn.br (c := x3 ≤ (8 : Int32)) (a := 134) (b := 130) (ls' := [(0, .ref 97), (1, .int x1), (3, .int x3), (4, .long x4)]) (st' := []) (σ' := σ3) hM 3 rfl (fun c => ?_) (fun c => ?_)
    · replace h := h.1 c
      refine Rn.br (c := (7 : Int32) < x3) (a := 179) (b := 143) (ls' := [(6, .int (1 : Int32)), (0, .ref 97), (1, .int x1), (3, .int x3), (4, .long x4)]) (st' := []) (σ' := σ3) hM 5 rfl (fun c => ?_) (fun c => ?_)
      · replace h := h.1 c
        refine Rn.seg (pc' := 186) (ls' := [(6, .int (1 : Int32)), (0, .ref 97), (1, .int x1), (3, .int x3), (4, .long x4)]) (st' := [.long x4, .int (0 : Int32), .int x1, .int (1 : Int32), .ref 97]) (σ' := σ3) hM 5 rfl ?_
        obtain ⟨Qc, hq, h⟩ := h
        refine Rn.cV hM rfl rfl (by decide) hq (fun σ5 hw => ?_)
        replace h := h σ5 hw
        refine Rn.seg (pc' := 7) (ls' := [(1, .int (x1 + x3)), (6, .int (1 : Int32)), (0, .ref 97), (3, .int x3), (4, .long x4)]) (st' := []) (σ' := σ5) hM 6 rfl ?_
        exact Rn.sub h (subL_cons rfl (subL_cons rfl subL_nil)) (show ndL _ from (by decide : List.Nodup ([0, 1] : List Nat)))
      · replace h := h.2 c
        refine Rn.seg (pc' := 146) (ls' := [(7, .int (0 : Int32)), (6, .int (1 : Int32)), (0, .ref 97), (1, .int x1), (3, .int x3), (4, .long x4)]) (st' := []) (σ' := σ3) hM 2 rfl ?_
        exact Rn.sub h (subL_cons rfl (subL_cons rfl (subL_cons rfl (subL_cons rfl (subL_cons rfl (subL_cons rfl subL_nil)))))) (show ndL _ from (by decide : List.Nodup ([0, 1, 3, 4, 6, 7] : List Nat)))
    · replace h := h.2 c
      refine Rn.br (c := (7 : Int32) < x3) (a := 179) (b := 143) (ls' := [(6, .int (3 : Int32)), (0, .ref 97), (1, .int x1), (3, .int x3), (4, .long x4)]) (st' := []) (σ' := σ3) hM 6 rfl (fun c => ?_) (fun c => ?_)
      · replace h := h.1 c
        refine Rn.seg (pc' := 186) (ls' := [(6, .int (3 : Int32)), (0, .ref 97), (1, .int x1), (3, .int x3), (4, .long x4)]) (st' := [.long x4, .int (0 : Int32), .int x1, .int (3 : Int32), .ref 97]) (σ' := σ3) hM 5 rfl ?_
        obtain ⟨Qc, hq, h⟩ := h
        refine Rn.cV hM rfl rfl (by decide) hq (fun σ6 hw => ?_)
        replace h := h σ6 hw
        refine Rn.seg (pc' := 7) (ls' := [(1, .int (x1 + x3)), (6, .int (3 : Int32)), (0, .ref 97), (3, .int x3), (4, .long x4)]) (st' := []) (σ' := σ6) hM 6 rfl ?_
        exact Rn.sub h (subL_cons rfl (subL_cons rfl subL_nil)) (show ndL _ from (by decide : List.Nodup ([0, 1] : List Nat)))
      · replace h := h.2 c
        refine Rn.seg (pc' := 146) (ls' := [(7, .int (0 : Int32)), (6, .int (3 : Int32)), (0, .ref 97), (1, .int x1), (3, .int x3), (4, .long x4)]) (st' := []) (σ' := σ3) hM 2 rfl ?_
        exact Rn.sub h (subL_cons rfl (subL_cons rfl (subL_cons rfl (subL_cons rfl (subL_cons rfl (subL_cons rfl subL_nil)))))) (show ndL _ from (by decide : List.Nodup ([0, 1, 3, 4, 6, 7] : List Nat)))
  · replace h := h.2 c
    refine Rn.br (c := (8 : Int32) ≤ x3) (a := 118) (b := 104) (ls' := [(0, .ref 97), (1, .int x1), (3, .int x3), (4, .long x4)]) (st' := []) (σ' := σ3) hM 3 rfl (fun c => ?_) (fun c => ?_)
    · replace h := h.1 c
      refine Rn.seg (pc' := 85) (ls' := [(3, .int (x3 + (1 : Int32))), (0, .ref 97), (1, .int x1), (4, .long x4)]) (st' := []) (σ' := σ3) hM 2 rfl ?_
      exact Rn.sub h (subL_cons rfl (subL_cons rfl (subL_cons rfl (subL_cons rfl subL_nil)))) (show ndL _ from (by decide : List.Nodup ([0, 1, 3, 4] : List Nat)))
    · replace h := h.2 c
      refine Rn.seg (pc' := 110) (ls' := [(0, .ref 97), (1, .int x1), (3, .int x3), (4, .long x4)]) (st' := [.int (x1 + x3), .ref 97, .long x4]) (σ' := σ3) hM 5 rfl ?_
      obtain ⟨Qc, hq, h⟩ := h
      refine Rn.cI hM rfl rfl (by decide) hq (fun w8 σ7 hw => ?_)
      replace h := h w8 σ7 hw
      refine Rn.seg (pc' := 113) (ls' := [(0, .ref 97), (1, .int x1), (3, .int x3), (4, .long x4)]) (st' := [.int w8, .long x4]) (σ' := σ7) hM 0 rfl ?_
      obtain ⟨Qc, hq, h⟩ := h
      refine Rn.cJ hM rfl rfl (by decide) hq (fun w10 σ9 hw => ?_)
      replace h := h w10 σ9 hw
      refine Rn.seg (pc' := 85) (ls' := [(3, .int (x3 + (1 : Int32))), (4, .long w10), (0, .ref 97), (1, .int x1)]) (st' := []) (σ' := σ9) hM 3 rfl ?_
      exact Rn.sub h (subL_cons rfl (subL_cons rfl (subL_cons rfl (subL_cons rfl subL_nil)))) (show ndL _ from (by decide : List.Nodup ([0, 1, 3, 4] : List Nat)))
set_option maxRecDepth 100000 in
theorem w_188_146 {d : Nat} {Q : Option Value → Sg → Prop} (σ : Sg) (x1 x3 x6 x7 : Int32) (x4 : Int64) (h : (((22 : Int32) ≤ x7 → (∃ Qc : Sg → Prop, OkV PRG d 186 [.ref 97, .int x6, .int x1, .int (0 : Int32), .long x4] σ Qc ∧ ∀ σ1, Qc σ1 → Rn PRG (d + 1) 188 7 [(0, .ref 97), (1, .int (x1 + x3))] [] σ1 Q)) ∧ (¬ (22 : Int32) ≤ x7 → (inR x7 22 = true ∧ (((lg_cmp (σ.2 104 x7.toNatClampNeg) x4) = 0 → Rn PRG (d + 1) 188 146 [(0, .ref 97), (1, .int x1), (3, .int x3), (4, .long x4), (6, .int ((20 : Int32) + x7)), (7, .int (x7 + (1 : Int32)))] [] σ Q) ∧ (¬ (lg_cmp (σ.2 104 x7.toNatClampNeg) x4) = 0 → Rn PRG (d + 1) 188 146 [(0, .ref 97), (1, .int x1), (3, .int x3), (4, .long x4), (6, .int x6), (7, .int (x7 + (1 : Int32)))] [] σ Q)))))) : Rn PRG (d + 1) 188 146 [(0, .ref 97), (1, .int x1), (3, .int x3), (4, .long x4), (6, .int x6), (7, .int x7)] [] σ Q := by
  have hM : PRG[188]? = some M_188 := rfl
  refine Rn.br (c := (22 : Int32) ≤ x7) (a := 179) (b := 153) (ls' := [(0, .ref 97), (1, .int x1), (3, .int x3), (4, .long x4), (6, .int x6), (7, .int x7)]) (st' := []) (σ' := σ) hM 3 rfl (fun c => ?_) (fun c => ?_)
  · replace h := h.1 c
    refine Rn.seg (pc' := 186) (ls' := [(0, .ref 97), (1, .int x1), (3, .int x3), (4, .long x4), (6, .int x6), (7, .int x7)]) (st' := [.long x4, .int (0 : Int32), .int x1, .int x6, .ref 97]) (σ' := σ) hM 5 rfl ?_
    obtain ⟨Qc, hq, h⟩ := h
    refine Rn.cV hM rfl rfl (by decide) hq (fun σ1 hw => ?_)
    replace h := h σ1 hw
    refine Rn.seg (pc' := 7) (ls' := [(1, .int (x1 + x3)), (0, .ref 97), (3, .int x3), (4, .long x4), (6, .int x6), (7, .int x7)]) (st' := []) (σ' := σ1) hM 6 rfl ?_
    exact Rn.sub h (subL_cons rfl (subL_cons rfl subL_nil)) (show ndL _ from (by decide : List.Nodup ([0, 1] : List Nat)))
  · replace h := h.2 c
    refine Rn.seg (pc' := 159) (ls' := [(0, .ref 97), (1, .int x1), (3, .int x3), (4, .long x4), (6, .int x6), (7, .int x7)]) (st' := [.int x7, .ref 104]) (σ' := σ) hM 3 rfl ?_
    refine Rn.lald hM rfl rfl h.1 ?_
    refine Rn.brN (c := (lg_cmp (σ.2 104 x7.toNatClampNeg) x4) = 0) (a := 173) (b := 166) (ls' := [(0, .ref 97), (1, .int x1), (3, .int x3), (4, .long x4), (6, .int x6), (7, .int x7)]) (st' := []) (σ' := σ) hM 3 rfl (fun c => ?_) (fun c => ?_)
    · replace h := h.2.2 c
      refine Rn.seg (pc' := 146) (ls' := [(7, .int (x7 + (1 : Int32))), (0, .ref 97), (1, .int x1), (3, .int x3), (4, .long x4), (6, .int x6)]) (st' := []) (σ' := σ) hM 2 rfl ?_
      exact Rn.sub h (subL_cons rfl (subL_cons rfl (subL_cons rfl (subL_cons rfl (subL_cons rfl (subL_cons rfl subL_nil)))))) (show ndL _ from (by decide : List.Nodup ([0, 1, 3, 4, 6, 7] : List Nat)))
    · replace h := h.2.1 c
      refine Rn.seg (pc' := 146) (ls' := [(7, .int (x7 + (1 : Int32))), (6, .int ((20 : Int32) + x7)), (0, .ref 97), (1, .int x1), (3, .int x3), (4, .long x4)]) (st' := []) (σ' := σ) hM 6 rfl ?_
      exact Rn.sub h (subL_cons rfl (subL_cons rfl (subL_cons rfl (subL_cons rfl (subL_cons rfl (subL_cons rfl subL_nil)))))) (show ndL _ from (by decide : List.Nodup ([0, 1, 3, 4, 6, 7] : List Nat)))
/-! cutting a text into tokens -/
def mdCut : List (Nat × Nat × Nat) := [(12, 10, 10), (56, 0, 402), (57, 0, 402), (58, 0, 402)]
theorem token_OK {d k : Nat} {x1 x2 x3 : Int32} {x4 : Int64} {σ : Sg} (ht : typed TYP σ) (hk : (σ.1 97 10).toInt = (k : Int)) (hk4 : k ≤ 400) (h1 : 0 ≤ x1.toInt ∧ x1.toInt ≤ 41) (h3 : 0 ≤ x3.toInt ∧ x3.toInt ≤ 9999) : OkV PRG d 186 [.ref 97, .int x1, .int x2, .int x3, .long x4] σ (fun σ' => Gl mdCut σ σ') := by
  have hin : inR (σ.1 97 10) 403 = true := inR_ok (by omega) (by omega)
  refine ⟨M_186, rfl, Nat.le_of_ble_eq_true rfl, w_186_0 σ x1 x2 x3 x4 ⟨hin, hin, hin, hin, rfl, ?_⟩⟩
  rw [cn_of hk]
  have e1 : ((σ.1 97 10) + (1 : Int32)).toInt = (k : Int) + 1 := add_lit hk (by decide) (by unfold FL; omega) (by unfold FH; omega)
  have g1 : Gl mdCut σ (s1 σ 100 k x1) := wrG (κ := 56) (a := 0) (b := 402) (vl := 0) (vh := 41) rfl rfl (Gl.refl ht) rfl (Nat.zero_le _) (by clear e1; omega) h1.1 h1.2
  have g2 := wrG (x := x2) (q := 101) (k := k) (κ := 57) (a := 0) (b := 402) (vl := FL) (vh := FH) rfl rfl g1 rfl (Nat.zero_le _) (by clear e1; omega) (w_lo _) (w_hi _)
  have g3 := wrG (x := x3) (q := 102) (k := k) (κ := 58) (a := 0) (b := 402) (vl := 0) (vh := 9999) rfl rfl g2 rfl (Nat.zero_le _) (by clear e1; omega) h3.1 h3.2
  have g4 : Gl mdCut σ (s2 (s1 (s1 (s1 σ 100 k x1) 101 k x2) 102 k x3) 103 k x4) := Gl.long g3
  exact wrG (x := (σ.1 97 10) + (1 : Int32)) (q := 97) (k := 10) (κ := 12) (a := 10) (b := 10) (vl := 0) (vh := 402) rfl rfl g4 rfl (Nat.le_refl _) (Nat.le_refl _) (by omega) (by omega)
theorem sign_OK {d k : Nat} {x1 x2 x3 : Int32} {σ : Sg} (ht : typed TYP σ) (hk : (σ.1 97 10).toInt = (k : Int)) (hk4 : k ≤ 400) : OkI PRG (d + 1) 187 [.ref 97, .int x1, .int x2, .int x3] σ (fun w σ' => Gl mdCut σ σ' ∧ 1 ≤ w.toInt ∧ w.toInt ≤ 2) := by
  have fin : ∀ a b : Int32, (0 ≤ b.toInt ∧ b.toInt ≤ 41) → Rn PRG (d + 1) 187 161 [(0, .ref 97), (1, .int x1), (4, .int a), (5, .int b)] [] σ (fun v σ' => ∃ w : Int32, v = some (.int w) ∧ Gl mdCut σ σ' ∧ 1 ≤ w.toInt ∧ w.toInt ≤ 2) := by
    intro a b hb
    refine w_187_161 σ x1 a b ⟨_, token_OK ht hk hk4 hb (by decide), fun σ1 hq => ⟨fun _ => ⟨_, rfl, hq, by decide, by decide⟩, fun _ => ⟨_, rfl, hq, by decide, by decide⟩⟩⟩
  refine ⟨M_187, rfl, Nat.le_of_ble_eq_true rfl, w_187_0 σ x1 x2 x3 ?_⟩
  repeat' (first | exact fin _ _ (by decide) | refine ⟨fun _ => ?_, fun _ => ?_⟩)
/-- the byte at a place, 0 behind the text -/
def BA (σ : Sg) (x : Int32) : Int32 := if (σ.1 97 4) ≤ x then 0 else (σ.1 99 x.toNatClampNeg) &&& (255 : Int32)
theorem size_rg {σ : Sg} (ht : typed TYP σ) : 0 ≤ (σ.1 97 4).toInt ∧ (σ.1 97 4).toInt ≤ 2000 := tyF ht (q := 97) (κ := 12) (k := 4) (lo := 0) (hi := 2000) rfl rfl
theorem byteAt_OK {d : Nat} {x1 : Int32} {σ : Sg} (ht : typed TYP σ) (h0 : 0 ≤ x1.toInt) : OkI PRG d 181 [.ref 97, .int x1] σ (fun w σ' => σ' = σ ∧ w = BA σ x1) := by
  have hs := size_rg ht
  refine ⟨M_181, rfl, Nat.le_of_ble_eq_true rfl, w_181_0 σ x1 ⟨fun c => ⟨_, rfl, rfl, by unfold BA; rw [if_pos c]⟩, fun c => ⟨inR_ok h0 ?_, _, rfl, rfl, by unfold BA; rw [if_neg c]⟩⟩⟩
  rw [Int32.le_iff_toInt_le] at c
  omega
theorem BA_lt {x : Int32} {σ : Sg} (h : ¬ (BA σ x).toInt = 0) : x.toInt < (σ.1 97 4).toInt := by
  unfold BA at h
  split at h
  · exact absurd (by decide) h
  · rename_i c
    rw [Int32.le_iff_toInt_le] at c
    omega
theorem isDigit_OK {d : Nat} {x : Int32} {σ : Sg} : OkI PRG d 182 [.int x] σ (fun w σ' => σ' = σ ∧ ((w = 1 ∧ 48 ≤ x.toInt ∧ x.toInt ≤ 57) ∨ (w = 0 ∧ ¬ (48 ≤ x.toInt ∧ x.toInt ≤ 57)))) := by
  have k1 : (48 : Int32).toInt = 48 := by decide
  have k2 : (57 : Int32).toInt = 57 := by decide
  refine ⟨M_182, rfl, Nat.le_of_ble_eq_true rfl, w_182_0 σ x ⟨fun c => w_182_16 σ ⟨_, rfl, rfl, Or.inr ⟨rfl, ?_⟩⟩, fun c => ⟨fun c2 => w_182_16 σ ⟨_, rfl, rfl, Or.inr ⟨rfl, ?_⟩⟩, fun c2 => ⟨_, rfl, rfl, Or.inl ⟨rfl, ?_⟩⟩⟩⟩⟩
  · rw [lt_i rfl k1] at c; omega
  · rw [lt_i k2 rfl] at c2; omega
  · rw [lt_i rfl k1] at c; rw [lt_i k2 rfl] at c2; omega
theorem isLetter_OK {d : Nat} {x : Int32} {σ : Sg} : OkI PRG d 183 [.int x] σ (fun w σ' => σ' = σ ∧ ((w = 1 ∧ 97 ≤ x.toInt ∧ x.toInt ≤ 122) ∨ (w = 0 ∧ ¬ (97 ≤ x.toInt ∧ x.toInt ≤ 122)))) := by
  have k1 : (97 : Int32).toInt = 97 := by decide
  have k2 : (122 : Int32).toInt = 122 := by decide
  refine ⟨M_183, rfl, Nat.le_of_ble_eq_true rfl, w_183_0 σ x ⟨fun c => w_183_16 σ ⟨_, rfl, rfl, Or.inr ⟨rfl, ?_⟩⟩, fun c => ⟨fun c2 => w_183_16 σ ⟨_, rfl, rfl, Or.inr ⟨rfl, ?_⟩⟩, fun c2 => ⟨_, rfl, rfl, Or.inl ⟨rfl, ?_⟩⟩⟩⟩⟩
  · rw [lt_i rfl k1] at c; omega
  · rw [lt_i k2 rfl] at c2; omega
  · rw [lt_i rfl k1] at c; rw [lt_i k2 rfl] at c2; omega
theorem appends_OK {d : Nat} {x : Int64} {y : Int32} {σ : Sg} : OkJ PRG d 184 [.long x, .int y] σ (fun _ σ' => σ' = σ) :=
  ⟨M_184, rfl, Nat.le_of_ble_eq_true rfl, w_184_0 σ y x ⟨fun _ => ⟨_, rfl, rfl⟩, fun _ => ⟨_, rfl, rfl⟩⟩⟩
/-- the most that the first n digits make -/
def dgB (n : Nat) : Int := if n = 0 then 0 else if n = 1 then 9 else if n = 2 then 99 else if n = 3 then 999 else 9999
theorem dgB_mono {n : Nat} : dgB n ≤ dgB (n + 1) ∧ dgB n ≤ 9999 ∧ 0 ≤ dgB n := by
  unfold dgB
  repeat' split
  all_goals omega
theorem dgB_step {n : Nat} (h : n < 4) : 10 * dgB n + 9 ≤ dgB (n + 1) ∧ dgB n ≤ 999 := by
  have : n = 0 ∨ n = 1 ∨ n = 2 ∨ n = 3 := by omega
  rcases this with rfl | rfl | rfl | rfl <;> decide
section Cut
variable {d i : Nat} {x1 : Int32} {σ : Sg} {Q : Option Value → Sg → Prop}
theorem cut_208 (ht : typed TYP σ) (h1 : x1.toInt = (i : Int)) (h2 : 48 ≤ (BA σ x1).toInt ∧ (BA σ x1).toInt ≤ 57) (K : ∀ (n : Nat) (x3 k v : Int32), x3.toInt = (n : Int) → 1 ≤ n → i + n ≤ 2000 → (0 ≤ k.toInt ∧ k.toInt ≤ 41) → (0 ≤ v.toInt ∧ v.toInt ≤ 9999) → ∃ Qc : Sg → Prop, OkV PRG d 186 [.ref 97, .int k, .int x1, .int v, .long (0 : Int64)] σ Qc ∧ ∀ σ5, Qc σ5 → Rn PRG (d + 1) 188 7 [(0, .ref 97), (1, .int (x1 + x3))] [] σ5 Q) : ∀ (m n : Nat) (x3 x4 : Int32), 2001 - (i + n) ≤ m → x3.toInt = (n : Int) → i + n ≤ 2000 → (0 ≤ x4.toInt ∧ x4.toInt ≤ dgB n) → Rn PRG (d + 1) 188 208 [(0, .ref 97), (1, .int x1), (3, .int x3), (4, .int x4)] [] σ Q := by
  have hs := size_rg ht
  have four : (4 : Int32).toInt = 4 := by decide
  have ten : (10 : Int32).toInt = 10 := by decide
  have k48 : (48 : Int32).toInt = 48 := by decide
  intro m
  induction m with
  | zero => intro n x3 x4 hm h3 hin h4; omega
  | succ m ih =>
    intro n x3 x4 hm h3 hin h4
    have hb := dgB_mono (n := n)
    have ex : (x1 + x3).toInt = ((i + n : Nat) : Int) := by
      rw [add_ex (by rw [h1, h3]; unfold FL; omega) (by rw [h1, h3]; unfold FH; omega), h1, h3]; push_cast; rfl
    refine w_188_208 σ x1 x3 x4 ⟨_, byteAt_OK ht (by omega), fun w2 σ1 hq => ?_⟩
    obtain ⟨e1, hw2⟩ := hq
    rw [e1]
    refine ⟨_, isDigit_OK, fun w4 σ3 hq => ?_⟩
    obtain ⟨e3, hw4⟩ := hq
    rw [e3]
    refine ⟨fun hz => ?_, fun hne => ?_⟩
    · have hn1 : 1 ≤ n := by
        apply Nat.one_le_iff_ne_zero.mpr
        intro h0
        rcases hw4 with ⟨h, -⟩ | ⟨-, h⟩
        · rw [h] at hz; exact absurd hz (by decide)
        · have exx : x1 + x3 = x1 := Int32.toInt_inj.mp (by rw [ex, h0, h1]; rfl)
          rw [hw2, exx] at h
          exact h h2
      exact ⟨fun _ => K n x3 2 x4 h3 hn1 hin (by decide) ⟨h4.1, by omega⟩, fun _ => K n x3 3 x4 h3 hn1 hin (by decide) ⟨h4.1, by omega⟩⟩
    · have hd : 48 ≤ w2.toInt ∧ w2.toInt ≤ 57 := by
        rcases hw4 with ⟨-, h⟩ | ⟨h, -⟩
        · exact h
        · exact absurd h hne
      have hlt : (x1 + x3).toInt < (σ.1 97 4).toInt := BA_lt (by rw [← hw2]; omega)
      have hx3 : (x3 + (1 : Int32)).toInt = ((n + 1 : Nat) : Int) := by
        rw [add_lit (k := 1) h3 (by decide) (by unfold FL; omega) (by unfold FH; omega)]; push_cast; rfl
      have hin' : i + (n + 1) ≤ 2000 := by clear hx3; omega
      refine ⟨fun _ => ih (n + 1) _ x4 (by omega) hx3 hin' ⟨h4.1, by omega⟩, fun c => ⟨_, byteAt_OK ht (by clear hx3; omega), fun w8 σ7 hq => ?_⟩⟩
      obtain ⟨e7, hw8⟩ := hq
      rw [e7]
      rw [le_i four h3] at c
      have hst := dgB_step (n := n) (by clear hx3; omega)
      have hw82 : w8.toInt = w2.toInt := by rw [hw8, hw2]
      have ea : ((10 : Int32) * x4).toInt = 10 * x4.toInt := mul_lit ten (by unfold FL; clear hx3; omega) (by unfold FH; clear hx3; omega)
      have eb : (((10 : Int32) * x4) + w8).toInt = 10 * x4.toInt + w2.toInt := by
        rw [add_ex (by rw [ea, hw82]; unfold FL; clear hx3 ea; omega) (by rw [ea, hw82]; unfold FH; clear hx3 ea; omega), ea, hw82]
      have ec : ((((10 : Int32) * x4) + w8) - (48 : Int32)).toInt = 10 * x4.toInt + w2.toInt - 48 := by
        rw [sub_ex (by rw [eb, k48]; unfold FL; clear hx3 ea eb; omega) (by rw [eb, k48]; unfold FH; clear hx3 ea eb; omega), eb, k48]
      exact ih (n + 1) _ _ (by clear ea eb ec; omega) hx3 hin' ⟨by rw [ec]; clear ea eb ec hx3; omega, by rw [ec]; clear ea eb ec hx3; omega⟩
theorem cut_146 {n : Nat} {x3 : Int32} {x4 : Int64} (K : ∀ k : Int32, (0 ≤ k.toInt ∧ k.toInt ≤ 41) → ∃ Qc : Sg → Prop, OkV PRG d 186 [.ref 97, .int k, .int x1, .int (0 : Int32), .long x4] σ Qc ∧ ∀ σ5, Qc σ5 → Rn PRG (d + 1) 188 7 [(0, .ref 97), (1, .int (x1 + x3))] [] σ5 Q) : ∀ (m k : Nat) (x6 x7 : Int32), k + m = 22 → x7.toInt = (k : Int) → (0 ≤ x6.toInt ∧ x6.toInt ≤ 41) → Rn PRG (d + 1) 188 146 [(0, .ref 97), (1, .int x1), (3, .int x3), (4, .long x4), (6, .int x6), (7, .int x7)] [] σ Q := by
  have k22 : (22 : Int32).toInt = 22 := by decide
  have k20 : (20 : Int32).toInt = 20 := by decide
  intro m
  induction m with
  | zero =>
    intro k x6 x7 hk h7 h6
    exact w_188_146 σ x1 x3 x6 x7 x4 ⟨fun _ => K x6 h6, fun c => absurd (by rw [le_i k22 h7]; omega) c⟩
  | succ m ih =>
    intro k x6 x7 hk h7 h6
    have hx7 : (x7 + (1 : Int32)).toInt = ((k + 1 : Nat) : Int) := by
      rw [add_lit (k := 1) h7 (by decide) (by unfold FL; omega) (by unfold FH; omega)]; push_cast; rfl
    have e20 : ((20 : Int32) + x7).toInt = 20 + (k : Int) := by
      rw [add_ex (by rw [k20, h7]; unfold FL; clear hx7; omega) (by rw [k20, h7]; unfold FH; clear hx7; omega), k20, h7]
    exact w_188_146 σ x1 x3 x6 x7 x4 ⟨fun _ => K x6 h6, fun _ => ⟨inR_ok (by clear hx7; omega) (by clear hx7; omega), fun _ => ih (k + 1) _ _ (by omega) hx7 ⟨by rw [e20]; clear hx7 e20; omega, by rw [e20]; clear hx7 e20; omega⟩, fun _ => ih (k + 1) _ _ (by omega) hx7 h6⟩⟩
theorem cut_85 (ht : typed TYP σ) (h1 : x1.toInt = (i : Int)) (h2 : 97 ≤ (BA σ x1).toInt ∧ (BA σ x1).toInt ≤ 122) (K : ∀ (n : Nat) (x3 k : Int32) (nm : Int64), x3.toInt = (n : Int) → 1 ≤ n → i + n ≤ 2000 → (0 ≤ k.toInt ∧ k.toInt ≤ 41) → ∃ Qc : Sg → Prop, OkV PRG d 186 [.ref 97, .int k, .int x1, .int (0 : Int32), .long nm] σ Qc ∧ ∀ σ5, Qc σ5 → Rn PRG (d + 1) 188 7 [(0, .ref 97), (1, .int (x1 + x3))] [] σ5 Q) : ∀ (m n : Nat) (x3 : Int32) (x4 : Int64), 2001 - (i + n) ≤ m → x3.toInt = (n : Int) → i + n ≤ 2000 → Rn PRG (d + 1) 188 85 [(0, .ref 97), (1, .int x1), (3, .int x3), (4, .long x4)] [] σ Q := by
  have hs := size_rg ht
  intro m
  induction m with
  | zero => intro n x3 x4 hm h3 hin; omega
  | succ m ih =>
    intro n x3 x4 hm h3 hin
    have ex : (x1 + x3).toInt = ((i + n : Nat) : Int) := by
      rw [add_ex (by rw [h1, h3]; unfold FL; omega) (by rw [h1, h3]; unfold FH; omega), h1, h3]; push_cast; rfl
    refine w_188_85 σ x1 x3 x4 ⟨_, byteAt_OK ht (by omega), fun w2 σ1 hq => ?_⟩
    obtain ⟨e1, hw2⟩ := hq
    rw [e1]
    refine ⟨_, isLetter_OK, fun w4 σ3 hq => ?_⟩
    obtain ⟨e3, hw4⟩ := hq
    rw [e3]
    refine ⟨fun hz => ?_, fun hne => ?_⟩
    · have hn1 : 1 ≤ n := by
        apply Nat.one_le_iff_ne_zero.mpr
        intro h0
        rcases hw4 with ⟨h, -⟩ | ⟨-, h⟩
        · rw [h] at hz; exact absurd hz (by decide)
        · have exx : x1 + x3 = x1 := Int32.toInt_inj.mp (by rw [ex, h0, h1]; rfl)
          rw [hw2, exx] at h
          exact h h2
      exact ⟨fun _ => ⟨fun _ => K n x3 1 x4 h3 hn1 hin (by decide), fun _ => cut_146 (n := n) (fun k hk => K n x3 k x4 h3 hn1 hin hk) 22 0 1 0 rfl rfl (by decide)⟩, fun _ => ⟨fun _ => K n x3 3 x4 h3 hn1 hin (by decide), fun _ => cut_146 (n := n) (fun k hk => K n x3 k x4 h3 hn1 hin hk) 22 0 3 0 rfl rfl (by decide)⟩⟩
    · have hd : 97 ≤ w2.toInt ∧ w2.toInt ≤ 122 := by
        rcases hw4 with ⟨-, h⟩ | ⟨h, -⟩
        · exact h
        · exact absurd h hne
      have hlt : (x1 + x3).toInt < (σ.1 97 4).toInt := BA_lt (by rw [← hw2]; omega)
      have hx3 : (x3 + (1 : Int32)).toInt = ((n + 1 : Nat) : Int) := by
        rw [add_lit (k := 1) h3 (by decide) (by unfold FL; omega) (by unfold FH; omega)]; push_cast; rfl
      have hin' : i + (n + 1) ≤ 2000 := by clear hx3; omega
      refine ⟨fun _ => ih (n + 1) _ x4 (by omega) hx3 hin', fun _ => ⟨_, byteAt_OK ht (by clear hx3; omega), fun w8 σ7 hq => ?_⟩⟩
      rw [hq.1]
      refine ⟨_, appends_OK, fun w10 σ9 hq => ?_⟩
      rw [hq]
      exact ih (n + 1) _ _ (by omega) hx3 hin'
end Cut
theorem cut_7 {d : Nat} {σ0 : Sg} : ∀ (m i : Nat) (x1 : Int32) (σ : Sg), 2002 - i ≤ m → i ≤ 2001 → x1.toInt = (i : Int) → Gl mdCut σ0 σ → Rn PRG (d + 1 + 1) 188 7 [(0, .ref 97), (1, .int x1)] [] σ (fun v σ' => v = none ∧ Gl mdCut σ0 σ') := by
  have k4 : (400 : Int32).toInt = 400 := by decide
  intro m
  induction m with
  | zero => intro i x1 σ hm hi; omega
  | succ m ih =>
    intro i x1 σ hm hi h1 hG
    have ht := hG.1
    have hs := size_rg ht
    have htk := tyF ht (q := 97) (κ := 12) (k := 10) (lo := 0) (hi := 402) rfl rfl
    refine w_188_7 σ x1 ⟨fun _ => ⟨rfl, hG⟩, fun c4 => ⟨_, byteAt_OK ht (by omega), fun w2 σ1 hq => ?_⟩⟩
    obtain ⟨e1, hw2⟩ := hq
    rw [e1]
    rw [lt_i k4 rfl] at c4
    have hk : (σ.1 97 10).toInt = (((σ.1 97 10).toInt.toNat : Nat) : Int) := by omega
    have hk4 : (σ.1 97 10).toInt.toNat ≤ 400 := by omega
    refine ⟨fun cs => ?_, fun _ => ⟨_, token_OK ht hk hk4 (by decide) (by decide), fun σ11 hq => ⟨rfl, hG.trans hq rfl⟩⟩⟩
    rw [Int32.lt_iff_toInt_lt] at cs
    have hx1 : (x1 + (1 : Int32)).toInt = ((i + 1 : Nat) : Int) := by
      rw [add_lit (k := 1) h1 (by decide) (by unfold FL; omega) (by unfold FH; omega)]; push_cast; rfl
    have blank : Rn PRG (d + 1 + 1) 188 7 [(0, .ref 97), (1, .int (x1 + (1 : Int32)))] [] σ (fun v σ' => v = none ∧ Gl mdCut σ0 σ') := ih (i + 1) _ σ (by omega) (by clear hx1; omega) hx1 hG
    have on : ∀ (n : Nat) (x3 : Int32) (σ5 : Sg), x3.toInt = (n : Int) → 1 ≤ n → i + n ≤ 2001 → Gl mdCut σ σ5 → Rn PRG (d + 1 + 1) 188 7 [(0, .ref 97), (1, .int (x1 + x3))] [] σ5 (fun v σ' => v = none ∧ Gl mdCut σ0 σ') := by
      intro n x3 σ5 h3 hn hin g5
      have ex : (x1 + x3).toInt = ((i + n : Nat) : Int) := by
        rw [add_ex (by rw [h1, h3]; unfold FL; clear hx1; omega) (by rw [h1, h3]; unfold FH; clear hx1; omega), h1, h3]; push_cast; rfl
      exact ih (i + n) _ σ5 (by omega) hin ex (hG.trans g5 rfl)
    refine ⟨fun _ => blank, fun _ => ⟨fun _ => blank, fun _ => ⟨fun _ => blank, fun _ => ⟨fun _ => blank, fun _ => ⟨_, isLetter_OK, fun w4 σ3 hq => ?_⟩⟩⟩⟩⟩
    obtain ⟨e3, hw4⟩ := hq
    rw [e3]
    refine ⟨fun _ => ⟨_, isDigit_OK, fun w6 σ5 hq => ?_⟩, fun hne => ?_⟩
    · obtain ⟨e5, hw6⟩ := hq
      rw [e5]
      refine ⟨fun _ => ⟨_, byteAt_OK ht (by clear hw6 hw4; omega), fun w8 σ7 hq => ?_⟩, fun hne => ?_⟩
      · rw [hq.1]
        refine ⟨_, sign_OK (d := d) ht hk hk4, fun w10 σ9 hq => ?_⟩
        obtain ⟨g9, a, b⟩ := hq
        exact on w10.toInt.toNat w10 σ9 (by clear hx1; omega) (by clear hx1; omega) (by clear hx1; omega) g9
      · have hd : 48 ≤ (BA σ x1).toInt ∧ (BA σ x1).toInt ≤ 57 := by
          rcases hw6 with ⟨-, h⟩ | ⟨h, -⟩
          · rw [← hw2]; exact h
          · exact absurd h hne
        exact cut_208 ht h1 hd (fun n x3 k v a1 a2 a3 a4 a5 => ⟨_, token_OK ht hk hk4 a4 a5, fun σ5 hq => on n x3 σ5 a1 a2 (by omega) hq⟩) 2001 0 0 0 (by clear hx1; omega) rfl (by clear hx1; omega) (by decide)
    · have hd : 97 ≤ (BA σ x1).toInt ∧ (BA σ x1).toInt ≤ 122 := by
        rcases hw4 with ⟨-, h⟩ | ⟨h, -⟩
        · rw [← hw2]; exact h
        · exact absurd h hne
      exact cut_85 ht h1 hd (fun n x3 k nm a1 a2 a3 a4 => ⟨_, token_OK ht hk hk4 a4 (by decide), fun σ5 hq => on n x3 σ5 a1 a2 (by omega) hq⟩) 2001 0 0 0 (by clear hx1; omega) rfl (by clear hx1; omega)
theorem cut_OK {d : Nat} {σ : Sg} (ht : typed TYP σ) : OkV PRG (d + 1 + 1) 188 [.ref 97] σ (fun σ' => Gl mdCut σ σ') := by
  have g : Gl mdCut σ (s1 σ 97 10 (0 : Int32)) := wrG (κ := 12) (a := 10) (b := 10) (vl := 0) (vh := 402) rfl rfl (Gl.refl ht) rfl (Nat.le_refl _) (Nat.le_refl _) (by decide) (by decide)
  exact ⟨M_188, rfl, Nat.le_of_ble_eq_true rfl, w_188_0 σ (cut_7 2002 0 0 _ (Nat.le_refl _) (by omega) rfl g)⟩
