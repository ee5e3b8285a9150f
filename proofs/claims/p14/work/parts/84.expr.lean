/-! expressions: what must hold -/
set_option maxRecDepth 100000 in
theorem w_199_0 {d : Nat} {Q : Option Value → Sg → Prop} (σ : Sg) (h : Rn PRG (d + 1) 199 12 [(0, .ref 97), (1, .int (σ.1 97 12)), (2, .int (1 : Int32))] [] (s1 σ 97 41 (0 : Int32)) Q) : Rn PRG (d + 1) 199 0 [(0, .ref 97)] [] σ Q := by
  have hM : PRG[199]? = some M_199 := rfl
  refine Rn.seg (pc' := 12) (ls' := [(2, .int (1 : Int32)), (1, .int (σ.1 97 12)), (0, .ref 97)]) (st' := []) (σ' := (s1 σ 97 41 (0 : Int32))) hM 8 rfl ?_
  exact Rn.sub h (subL_cons rfl (subL_cons rfl (subL_cons rfl subL_nil))) (show ndL _ from (by decide : List.Nodup ([0, 1, 2] : List Nat)))
set_option maxRecDepth 100000 in
theorem w_199_12 {d : Nat} {Q : Option Value → Sg → Prop} (σ : Sg) (x1 x2 : Int32) (h : ((x2 = 0 → Rn PRG (d + 1) 199 272 [] [] σ Q) ∧ (¬ x2 = 0 → (((σ.1 97 13) = 0 → Rn PRG (d + 1) 199 23 [(0, .ref 97), (1, .int x1)] [] σ Q) ∧ (¬ (σ.1 97 13) = 0 → Rn PRG (d + 1) 199 272 [] [] σ Q))))) : Rn PRG (d + 1) 199 12 [(0, .ref 97), (1, .int x1), (2, .int x2)] [] σ Q := by
  have hM : PRG[199]? = some M_199 := rfl
  refine Rn.br (c := x2 = 0) (a := 272) (b := 16) (ls' := [(0, .ref 97), (1, .int x1), (2, .int x2)]) (st' := []) (σ' := σ) hM 2 rfl (fun c => ?_) (fun c => ?_)
  · replace h := h.1 c
    refine Rn.seg (pc' := 272) (ls' := [(0, .ref 97), (1, .int x1), (2, .int x2)]) (st' := []) (σ' := σ) hM 0 rfl ?_
    exact Rn.sub h subL_nil (show ndL _ from (by decide : List.Nodup ([] : List Nat)))
  · replace h := h.2 c
    refine Rn.brN (c := (σ.1 97 13) = 0) (a := 272) (b := 23) (ls' := [(0, .ref 97), (1, .int x1), (2, .int x2)]) (st' := []) (σ' := σ) hM 3 rfl (fun c => ?_) (fun c => ?_)
    · replace h := h.2 c
      refine Rn.seg (pc' := 272) (ls' := [(0, .ref 97), (1, .int x1), (2, .int x2)]) (st' := []) (σ' := σ) hM 0 rfl ?_
      exact Rn.sub h subL_nil (show ndL _ from (by decide : List.Nodup ([] : List Nat)))
    · replace h := h.1 c
      refine Rn.seg (pc' := 23) (ls' := [(0, .ref 97), (1, .int x1), (2, .int x2)]) (st' := []) (σ' := σ) hM 0 rfl ?_
      exact Rn.sub h (subL_cons rfl (subL_cons rfl subL_nil)) (show ndL _ from (by decide : List.Nodup ([0, 1] : List Nat)))
set_option maxRecDepth 100000 in
theorem w_199_272 {d : Nat} {Q : Option Value → Sg → Prop} (σ : Sg) (h : Q none σ) : Rn PRG (d + 1) 199 272 [] [] σ Q := by
  have hM : PRG[199]? = some M_199 := rfl
  refine Rn.seg (pc' := 272) (ls' := []) (st' := []) (σ' := σ) hM 0 rfl ?_
  exact Rn.ret hM rfl rfl h
set_option maxRecDepth 100000 in
theorem w_199_23 {d : Nat} {Q : Option Value → Sg → Prop} (σ : Sg) (x1 : Int32) (h : (∃ Qc : Int32 → Sg → Prop, OkI PRG d 189 [.ref 97, .int (6 : Int32)] σ Qc ∧ ∀ w2 σ1, Qc w2 σ1 → ((w2 = 0 → (∃ Qc : Sg → Prop, OkV PRG d 197 [.ref 97] σ1 Qc ∧ ∀ σ3, Qc σ3 → (((σ3.1 97 13) ≤ 0 → Rn PRG (d + 1) 199 96 [(0, .ref 97), (1, .int x1)] [] σ3 Q) ∧ (¬ (σ3.1 97 13) ≤ 0 → Q none σ3)))) ∧ (¬ w2 = 0 → (((σ1.1 97 12) = (6 : Int32) → (∃ Qc : Sg → Prop, OkV PRG d 190 [.ref 97, .int (2 : Int32)] σ1 Qc ∧ ∀ σ4, Qc σ4 → Rn PRG (d + 1) 199 46 [(0, .ref 97), (1, .int x1)] [] σ4 Q)) ∧ (¬ (σ1.1 97 12) = (6 : Int32) → Rn PRG (d + 1) 199 46 [(0, .ref 97), (1, .int x1)] [] σ1 Q)))))) : Rn PRG (d + 1) 199 23 [(0, .ref 97), (1, .int x1)] [] σ Q := by
  have hM : PRG[199]? = some M_199 := rfl
  refine Rn.seg (pc' := 26) (ls' := [(0, .ref 97), (1, .int x1)]) (st' := [.int (6 : Int32), .ref 97]) (σ' := σ) hM 2 rfl ?_
  obtain ⟨Qc, hq, h⟩ := h
  refine Rn.cI hM rfl rfl (by decide) hq (fun w2 σ1 hw => ?_)
  replace h := h w2 σ1 hw
  refine Rn.br (c := w2 = 0) (a := 84) (b := 32) (ls' := [(0, .ref 97), (1, .int x1)]) (st' := []) (σ' := σ1) hM 1 rfl (fun c => ?_) (fun c => ?_)
  · replace h := h.1 c
    refine Rn.seg (pc' := 85) (ls' := [(0, .ref 97), (1, .int x1)]) (st' := [.ref 97]) (σ' := σ1) hM 1 rfl ?_
    obtain ⟨Qc, hq, h⟩ := h
    refine Rn.cV hM rfl rfl (by decide) hq (fun σ3 hw => ?_)
    replace h := h σ3 hw
    refine Rn.br (c := (σ3.1 97 13) ≤ 0) (a := 96) (b := 95) (ls' := [(0, .ref 97), (1, .int x1)]) (st' := []) (σ' := σ3) hM 3 rfl (fun c => ?_) (fun c => ?_)
    · replace h := h.1 c
      refine Rn.seg (pc' := 96) (ls' := [(0, .ref 97), (1, .int x1)]) (st' := []) (σ' := σ3) hM 0 rfl ?_
      exact Rn.sub h (subL_cons rfl (subL_cons rfl subL_nil)) (show ndL _ from (by decide : List.Nodup ([0, 1] : List Nat)))
    · replace h := h.2 c
      refine Rn.seg (pc' := 95) (ls' := [(0, .ref 97), (1, .int x1)]) (st' := []) (σ' := σ3) hM 0 rfl ?_
      exact Rn.ret hM rfl rfl h
  · replace h := h.2 c
    refine Rn.brN (c := (σ1.1 97 12) = (6 : Int32)) (a := 46) (b := 41) (ls' := [(0, .ref 97), (1, .int x1)]) (st' := []) (σ' := σ1) hM 4 rfl (fun c => ?_) (fun c => ?_)
    · replace h := h.2 c
      refine Rn.seg (pc' := 46) (ls' := [(0, .ref 97), (1, .int x1)]) (st' := []) (σ' := σ1) hM 0 rfl ?_
      exact Rn.sub h (subL_cons rfl (subL_cons rfl subL_nil)) (show ndL _ from (by decide : List.Nodup ([0, 1] : List Nat)))
    · replace h := h.1 c
      refine Rn.seg (pc' := 43) (ls' := [(0, .ref 97), (1, .int x1)]) (st' := [.int (2 : Int32), .ref 97]) (σ' := σ1) hM 2 rfl ?_
      obtain ⟨Qc, hq, h⟩ := h
      refine Rn.cV hM rfl rfl (by decide) hq (fun σ4 hw => ?_)
      replace h := h σ4 hw
      refine Rn.seg (pc' := 46) (ls' := [(0, .ref 97), (1, .int x1)]) (st' := []) (σ' := σ4) hM 0 rfl ?_
      exact Rn.sub h (subL_cons rfl (subL_cons rfl subL_nil)) (show ndL _ from (by decide : List.Nodup ([0, 1] : List Nat)))
set_option maxRecDepth 100000 in
theorem w_199_96 {d : Nat} {Q : Option Value → Sg → Prop} (σ : Sg) (x1 : Int32) (h : (∃ Qc : Int32 → Sg → Prop, OkI PRG d 189 [.ref 97, .int (7 : Int32)] σ Qc ∧ ∀ w2 σ1, Qc w2 σ1 → ((w2 = 0 → Rn PRG (d + 1) 199 145 [(0, .ref 97), (1, .int x1)] [] σ1 Q) ∧ (¬ w2 = 0 → (((σ1.1 97 12) ≤ x1 → Rn PRG (d + 1) 199 145 [(0, .ref 97), (1, .int x1)] [] σ1 Q) ∧ (¬ (σ1.1 97 12) ≤ x1 → (∃ Qc : Sg → Prop, OkV PRG d 198 [.ref 97, .int (0 : Int32)] σ1 Qc ∧ ∀ σ3, Qc σ3 → (∃ Qc : Sg → Prop, OkV PRG d 192 [.ref 97] (s1 (s1 σ3 97 41 ((σ3.1 97 41) - (1 : Int32))) 97 12 ((σ3.1 97 12) - (1 : Int32))) Qc ∧ ∀ σ4, Qc σ4 → Rn PRG (d + 1) 199 96 [(0, .ref 97), (1, .int x1)] [] σ4 Q)))))))) : Rn PRG (d + 1) 199 96 [(0, .ref 97), (1, .int x1)] [] σ Q := by
  have hM : PRG[199]? = some M_199 := rfl
  refine Rn.seg (pc' := 99) (ls' := [(0, .ref 97), (1, .int x1)]) (st' := [.int (7 : Int32), .ref 97]) (σ' := σ) hM 2 rfl ?_
  obtain ⟨Qc, hq, h⟩ := h
  refine Rn.cI hM rfl rfl (by decide) hq (fun w2 σ1 hw => ?_)
  replace h := h w2 σ1 hw
  refine Rn.br (c := w2 = 0) (a := 145) (b := 105) (ls' := [(0, .ref 97), (1, .int x1)]) (st' := []) (σ' := σ1) hM 1 rfl (fun c => ?_) (fun c => ?_)
  · replace h := h.1 c
    refine Rn.seg (pc' := 145) (ls' := [(0, .ref 97), (1, .int x1)]) (st' := []) (σ' := σ1) hM 0 rfl ?_
    exact Rn.sub h (subL_cons rfl (subL_cons rfl subL_nil)) (show ndL _ from (by decide : List.Nodup ([0, 1] : List Nat)))
  · replace h := h.2 c
    refine Rn.br (c := (σ1.1 97 12) ≤ x1) (a := 145) (b := 113) (ls' := [(0, .ref 97), (1, .int x1)]) (st' := []) (σ' := σ1) hM 4 rfl (fun c => ?_) (fun c => ?_)
    · replace h := h.1 c
      refine Rn.seg (pc' := 145) (ls' := [(0, .ref 97), (1, .int x1)]) (st' := []) (σ' := σ1) hM 0 rfl ?_
      exact Rn.sub h (subL_cons rfl (subL_cons rfl subL_nil)) (show ndL _ from (by decide : List.Nodup ([0, 1] : List Nat)))
    · replace h := h.2 c
      refine Rn.seg (pc' := 115) (ls' := [(0, .ref 97), (1, .int x1)]) (st' := [.int (0 : Int32), .ref 97]) (σ' := σ1) hM 2 rfl ?_
      obtain ⟨Qc, hq, h⟩ := h
      refine Rn.cV hM rfl rfl (by decide) hq (fun σ3 hw => ?_)
      replace h := h σ3 hw
      refine Rn.seg (pc' := 139) (ls' := [(0, .ref 97), (1, .int x1)]) (st' := [.ref 97]) (σ' := (s1 (s1 σ3 97 41 ((σ3.1 97 41) - (1 : Int32))) 97 12 ((σ3.1 97 12) - (1 : Int32)))) hM 13 rfl ?_
      obtain ⟨Qc, hq, h⟩ := h
      refine Rn.cV hM rfl rfl (by decide) hq (fun σ4 hw => ?_)
      replace h := h σ4 hw
      refine Rn.seg (pc' := 96) (ls' := [(0, .ref 97), (1, .int x1)]) (st' := []) (σ' := σ4) hM 1 rfl ?_
      exact Rn.sub h (subL_cons rfl (subL_cons rfl subL_nil)) (show ndL _ from (by decide : List.Nodup ([0, 1] : List Nat)))
set_option maxRecDepth 100000 in
theorem w_199_46 {d : Nat} {Q : Option Value → Sg → Prop} (σ : Sg) (x1 : Int32) (h : (∃ Qc : Sg → Prop, OkV PRG d 192 [.ref 97] (s1 σ 97 12 ((σ.1 97 12) + (1 : Int32))) Qc ∧ ∀ σ1, Qc σ1 → (inR (σ1.1 97 41) 64 = true ∧ Rn PRG (d + 1) 199 23 [(0, .ref 97), (1, .int x1)] [] (s1 (s1 σ1 122 (σ1.1 97 41).toNatClampNeg (6 : Int32)) 97 41 ((σ1.1 97 41) + (1 : Int32))) Q))) : Rn PRG (d + 1) 199 46 [(0, .ref 97), (1, .int x1)] [] σ Q := by
  have hM : PRG[199]? = some M_199 := rfl
  refine Rn.seg (pc' := 57) (ls' := [(0, .ref 97), (1, .int x1)]) (st' := [.ref 97]) (σ' := (s1 σ 97 12 ((σ.1 97 12) + (1 : Int32)))) hM 7 rfl ?_
  obtain ⟨Qc, hq, h⟩ := h
  refine Rn.cV hM rfl rfl (by decide) hq (fun σ1 hw => ?_)
  replace h := h σ1 hw
  refine Rn.seg (pc' := 70) (ls' := [(0, .ref 97), (1, .int x1)]) (st' := [.int (6 : Int32), .int (σ1.1 97 41), .ref 122]) (σ' := σ1) hM 5 rfl ?_
  refine Rn.iast hM rfl rfl h.1 ?_
  refine Rn.seg (pc' := 23) (ls' := [(0, .ref 97), (1, .int x1)]) (st' := []) (σ' := (s1 (s1 σ1 122 (σ1.1 97 41).toNatClampNeg (6 : Int32)) 97 41 ((σ1.1 97 41) + (1 : Int32)))) hM 7 rfl ?_
  exact Rn.sub h.2 (subL_cons rfl (subL_cons rfl subL_nil)) (show ndL _ from (by decide : List.Nodup ([0, 1] : List Nat)))
set_option maxRecDepth 100000 in
theorem w_199_145 {d : Nat} {Q : Option Value → Sg → Prop} (σ : Sg) (x1 : Int32) (h : (∃ Qc : Int32 → Sg → Prop, OkI PRG d 189 [.ref 97, .int (8 : Int32)] σ Qc ∧ ∀ w2 σ1, Qc w2 σ1 → ((w2 = 0 → (∃ Qc : Int32 → Sg → Prop, OkI PRG d 189 [.ref 97, .int (9 : Int32)] σ1 Qc ∧ ∀ w4 σ3, Qc w4 σ3 → ((w4 = 0 → (∃ Qc : Int32 → Sg → Prop, OkI PRG d 189 [.ref 97, .int (10 : Int32)] σ3 Qc ∧ ∀ w6 σ5, Qc w6 σ5 → ((w6 = 0 → (∃ Qc : Int32 → Sg → Prop, OkI PRG d 189 [.ref 97, .int (15 : Int32)] σ5 Qc ∧ ∀ w8 σ7, Qc w8 σ7 → ((w8 = 0 → (((σ7.1 97 12) ≤ x1 → Rn PRG (d + 1) 199 204 [(0, .ref 97)] [] σ7 Q) ∧ (¬ (σ7.1 97 12) ≤ x1 → (∃ Qc : Sg → Prop, OkV PRG d 190 [.ref 97, .int (1 : Int32)] σ7 Qc ∧ ∀ σ9, Qc σ9 → Rn PRG (d + 1) 199 204 [(0, .ref 97)] [] σ9 Q)))) ∧ (¬ w8 = 0 → Rn PRG (d + 1) 199 181 [(0, .ref 97), (1, .int x1)] [] σ7 Q)))) ∧ (¬ w6 = 0 → Rn PRG (d + 1) 199 181 [(0, .ref 97), (1, .int x1)] [] σ5 Q)))) ∧ (¬ w4 = 0 → Rn PRG (d + 1) 199 181 [(0, .ref 97), (1, .int x1)] [] σ3 Q)))) ∧ (¬ w2 = 0 → Rn PRG (d + 1) 199 181 [(0, .ref 97), (1, .int x1)] [] σ1 Q)))) : Rn PRG (d + 1) 199 145 [(0, .ref 97), (1, .int x1)] [] σ Q := by
  have hM : PRG[199]? = some M_199 := rfl
  refine Rn.seg (pc' := 148) (ls' := [(0, .ref 97), (1, .int x1)]) (st' := [.int (8 : Int32), .ref 97]) (σ' := σ) hM 2 rfl ?_
  obtain ⟨Qc, hq, h⟩ := h
  refine Rn.cI hM rfl rfl (by decide) hq (fun w2 σ1 hw => ?_)
  replace h := h w2 σ1 hw
  refine Rn.brN (c := w2 = 0) (a := 181) (b := 154) (ls' := [(0, .ref 97), (1, .int x1)]) (st' := []) (σ' := σ1) hM 1 rfl (fun c => ?_) (fun c => ?_)
  · replace h := h.2 c
    refine Rn.seg (pc' := 181) (ls' := [(0, .ref 97), (1, .int x1)]) (st' := []) (σ' := σ1) hM 0 rfl ?_
    exact Rn.sub h (subL_cons rfl (subL_cons rfl subL_nil)) (show ndL _ from (by decide : List.Nodup ([0, 1] : List Nat)))
  · replace h := h.1 c
    refine Rn.seg (pc' := 157) (ls' := [(0, .ref 97), (1, .int x1)]) (st' := [.int (9 : Int32), .ref 97]) (σ' := σ1) hM 2 rfl ?_
    obtain ⟨Qc, hq, h⟩ := h
    refine Rn.cI hM rfl rfl (by decide) hq (fun w4 σ3 hw => ?_)
    replace h := h w4 σ3 hw
    refine Rn.brN (c := w4 = 0) (a := 181) (b := 163) (ls' := [(0, .ref 97), (1, .int x1)]) (st' := []) (σ' := σ3) hM 1 rfl (fun c => ?_) (fun c => ?_)
    · replace h := h.2 c
      refine Rn.seg (pc' := 181) (ls' := [(0, .ref 97), (1, .int x1)]) (st' := []) (σ' := σ3) hM 0 rfl ?_
      exact Rn.sub h (subL_cons rfl (subL_cons rfl subL_nil)) (show ndL _ from (by decide : List.Nodup ([0, 1] : List Nat)))
    · replace h := h.1 c
      refine Rn.seg (pc' := 166) (ls' := [(0, .ref 97), (1, .int x1)]) (st' := [.int (10 : Int32), .ref 97]) (σ' := σ3) hM 2 rfl ?_
      obtain ⟨Qc, hq, h⟩ := h
      refine Rn.cI hM rfl rfl (by decide) hq (fun w6 σ5 hw => ?_)
      replace h := h w6 σ5 hw
      refine Rn.brN (c := w6 = 0) (a := 181) (b := 172) (ls' := [(0, .ref 97), (1, .int x1)]) (st' := []) (σ' := σ5) hM 1 rfl (fun c => ?_) (fun c => ?_)
      · replace h := h.2 c
        refine Rn.seg (pc' := 181) (ls' := [(0, .ref 97), (1, .int x1)]) (st' := []) (σ' := σ5) hM 0 rfl ?_
        exact Rn.sub h (subL_cons rfl (subL_cons rfl subL_nil)) (show ndL _ from (by decide : List.Nodup ([0, 1] : List Nat)))
      · replace h := h.1 c
        refine Rn.seg (pc' := 175) (ls' := [(0, .ref 97), (1, .int x1)]) (st' := [.int (15 : Int32), .ref 97]) (σ' := σ5) hM 2 rfl ?_
        obtain ⟨Qc, hq, h⟩ := h
        refine Rn.cI hM rfl rfl (by decide) hq (fun w8 σ7 hw => ?_)
        replace h := h w8 σ7 hw
        refine Rn.br (c := w8 = 0) (a := 185) (b := 181) (ls' := [(0, .ref 97), (1, .int x1)]) (st' := []) (σ' := σ7) hM 1 rfl (fun c => ?_) (fun c => ?_)
        · replace h := h.1 c
          refine Rn.br (c := (σ7.1 97 12) ≤ x1) (a := 204) (b := 199) (ls' := [(2, .int (0 : Int32)), (0, .ref 97), (1, .int x1)]) (st' := []) (σ' := σ7) hM 8 rfl (fun c => ?_) (fun c => ?_)
          · replace h := h.1 c
            refine Rn.seg (pc' := 204) (ls' := [(2, .int (0 : Int32)), (0, .ref 97), (1, .int x1)]) (st' := []) (σ' := σ7) hM 0 rfl ?_
            exact Rn.sub h (subL_cons rfl subL_nil) (show ndL _ from (by decide : List.Nodup ([0] : List Nat)))
          · replace h := h.2 c
            refine Rn.seg (pc' := 201) (ls' := [(2, .int (0 : Int32)), (0, .ref 97), (1, .int x1)]) (st' := [.int (1 : Int32), .ref 97]) (σ' := σ7) hM 2 rfl ?_
            obtain ⟨Qc, hq, h⟩ := h
            refine Rn.cV hM rfl rfl (by decide) hq (fun σ9 hw => ?_)
            replace h := h σ9 hw
            refine Rn.seg (pc' := 204) (ls' := [(2, .int (0 : Int32)), (0, .ref 97), (1, .int x1)]) (st' := []) (σ' := σ9) hM 0 rfl ?_
            exact Rn.sub h (subL_cons rfl subL_nil) (show ndL _ from (by decide : List.Nodup ([0] : List Nat)))
        · replace h := h.2 c
          refine Rn.seg (pc' := 181) (ls' := [(0, .ref 97), (1, .int x1)]) (st' := []) (σ' := σ7) hM 0 rfl ?_
          exact Rn.sub h (subL_cons rfl (subL_cons rfl subL_nil)) (show ndL _ from (by decide : List.Nodup ([0, 1] : List Nat)))
set_option maxRecDepth 100000 in
theorem w_199_181 {d : Nat} {Q : Option Value → Sg → Prop} (σ : Sg) (x1 : Int32) (h : (∃ Qc : Int32 → Sg → Prop, OkI PRG d 189 [.ref 97, .int (10 : Int32)] σ Qc ∧ ∀ w2 σ1, Qc w2 σ1 → ((w2 = 0 → (∃ Qc : Int32 → Sg → Prop, OkI PRG d 189 [.ref 97, .int (15 : Int32)] σ1 Qc ∧ ∀ w6 σ5, Qc w6 σ5 → ((w6 = 0 → (∃ Qc : Sg → Prop, OkV PRG d 198 [.ref 97, .int (0 : Int32)] σ5 Qc ∧ ∀ σ7, Qc σ7 → (inR (σ7.1 97 11) 403 = true ∧ (inR (σ7.1 97 41) 64 = true ∧ (∃ Qc : Sg → Prop, OkV PRG d 192 [.ref 97] (s1 (s1 σ7 122 (σ7.1 97 41).toNatClampNeg (σ7.1 100 (σ7.1 97 11).toNatClampNeg)) 97 41 ((σ7.1 97 41) + (1 : Int32))) Qc ∧ ∀ σ8, Qc σ8 → Rn PRG (d + 1) 199 12 [(0, .ref 97), (1, .int x1), (2, .int (1 : Int32))] [] σ8 Q))))) ∧ (¬ w6 = 0 → (∃ Qc : Sg → Prop, OkV PRG d 198 [.ref 97, .int (1 : Int32)] σ5 Qc ∧ ∀ σ9, Qc σ9 → (inR (σ9.1 97 11) 403 = true ∧ (inR (σ9.1 97 41) 64 = true ∧ (∃ Qc : Sg → Prop, OkV PRG d 192 [.ref 97] (s1 (s1 σ9 122 (σ9.1 97 41).toNatClampNeg (σ9.1 100 (σ9.1 97 11).toNatClampNeg)) 97 41 ((σ9.1 97 41) + (1 : Int32))) Qc ∧ ∀ σ10, Qc σ10 → Rn PRG (d + 1) 199 12 [(0, .ref 97), (1, .int x1), (2, .int (1 : Int32))] [] σ10 Q)))))))) ∧ (¬ w2 = 0 → (∃ Qc : Sg → Prop, OkV PRG d 198 [.ref 97, .int (1 : Int32)] σ1 Qc ∧ ∀ σ3, Qc σ3 → (inR (σ3.1 97 11) 403 = true ∧ (inR (σ3.1 97 41) 64 = true ∧ (∃ Qc : Sg → Prop, OkV PRG d 192 [.ref 97] (s1 (s1 σ3 122 (σ3.1 97 41).toNatClampNeg (σ3.1 100 (σ3.1 97 11).toNatClampNeg)) 97 41 ((σ3.1 97 41) + (1 : Int32))) Qc ∧ ∀ σ4, Qc σ4 → Rn PRG (d + 1) 199 12 [(0, .ref 97), (1, .int x1), (2, .int (1 : Int32))] [] σ4 Q)))))))) : Rn PRG (d + 1) 199 181 [(0, .ref 97), (1, .int x1)] [] σ Q := by
  have hM : PRG[199]? = some M_199 := rfl
  refine Rn.seg (pc' := 214) (ls' := [(2, .int (1 : Int32)), (0, .ref 97), (1, .int x1)]) (st' := [.int (10 : Int32), .ref 97, .ref 97]) (σ' := σ) hM 8 rfl ?_
  obtain ⟨Qc, hq, h⟩ := h
  refine Rn.cI hM rfl rfl (by decide) hq (fun w2 σ1 hw => ?_)
  replace h := h w2 σ1 hw
  refine Rn.brN (c := w2 = 0) (a := 229) (b := 220) (ls' := [(2, .int (1 : Int32)), (0, .ref 97), (1, .int x1)]) (st' := [.ref 97]) (σ' := σ1) hM 1 rfl (fun c => ?_) (fun c => ?_)
  · replace h := h.2 c
    refine Rn.seg (pc' := 234) (ls' := [(2, .int (1 : Int32)), (0, .ref 97), (1, .int x1)]) (st' := [.int (1 : Int32), .ref 97]) (σ' := σ1) hM 2 rfl ?_
    obtain ⟨Qc, hq, h⟩ := h
    refine Rn.cV hM rfl rfl (by decide) hq (fun σ3 hw => ?_)
    replace h := h σ3 hw
    refine Rn.seg (pc' := 253) (ls' := [(2, .int (1 : Int32)), (0, .ref 97), (1, .int x1)]) (st' := [.int (σ3.1 97 11), .ref 100, .int (σ3.1 97 41), .ref 122]) (σ' := σ3) hM 8 rfl ?_
    refine Rn.iald hM rfl rfl h.1 ?_
    refine Rn.seg (pc' := 254) (ls' := [(2, .int (1 : Int32)), (0, .ref 97), (1, .int x1)]) (st' := [.int (σ3.1 100 (σ3.1 97 11).toNatClampNeg), .int (σ3.1 97 41), .ref 122]) (σ' := σ3) hM 0 rfl ?_
    refine Rn.iast hM rfl rfl h.2.1 ?_
    refine Rn.seg (pc' := 266) (ls' := [(2, .int (1 : Int32)), (0, .ref 97), (1, .int x1)]) (st' := [.ref 97]) (σ' := (s1 (s1 σ3 122 (σ3.1 97 41).toNatClampNeg (σ3.1 100 (σ3.1 97 11).toNatClampNeg)) 97 41 ((σ3.1 97 41) + (1 : Int32)))) hM 7 rfl ?_
    obtain ⟨Qc, hq, h⟩ := h.2.2
    refine Rn.cV hM rfl rfl (by decide) hq (fun σ4 hw => ?_)
    replace h := h σ4 hw
    refine Rn.seg (pc' := 12) (ls' := [(2, .int (1 : Int32)), (0, .ref 97), (1, .int x1)]) (st' := []) (σ' := σ4) hM 1 rfl ?_
    exact Rn.sub h (subL_cons rfl (subL_cons rfl (subL_cons rfl subL_nil))) (show ndL _ from (by decide : List.Nodup ([0, 1, 2] : List Nat)))
  · replace h := h.1 c
    refine Rn.seg (pc' := 223) (ls' := [(2, .int (1 : Int32)), (0, .ref 97), (1, .int x1)]) (st' := [.int (15 : Int32), .ref 97, .ref 97]) (σ' := σ1) hM 2 rfl ?_
    obtain ⟨Qc, hq, h⟩ := h
    refine Rn.cI hM rfl rfl (by decide) hq (fun w6 σ5 hw => ?_)
    replace h := h w6 σ5 hw
    refine Rn.br (c := w6 = 0) (a := 233) (b := 229) (ls' := [(2, .int (1 : Int32)), (0, .ref 97), (1, .int x1)]) (st' := [.ref 97]) (σ' := σ5) hM 1 rfl (fun c => ?_) (fun c => ?_)
    · replace h := h.1 c
      refine Rn.seg (pc' := 234) (ls' := [(2, .int (1 : Int32)), (0, .ref 97), (1, .int x1)]) (st' := [.int (0 : Int32), .ref 97]) (σ' := σ5) hM 1 rfl ?_
      obtain ⟨Qc, hq, h⟩ := h
      refine Rn.cV hM rfl rfl (by decide) hq (fun σ7 hw => ?_)
      replace h := h σ7 hw
      refine Rn.seg (pc' := 253) (ls' := [(2, .int (1 : Int32)), (0, .ref 97), (1, .int x1)]) (st' := [.int (σ7.1 97 11), .ref 100, .int (σ7.1 97 41), .ref 122]) (σ' := σ7) hM 8 rfl ?_
      refine Rn.iald hM rfl rfl h.1 ?_
      refine Rn.seg (pc' := 254) (ls' := [(2, .int (1 : Int32)), (0, .ref 97), (1, .int x1)]) (st' := [.int (σ7.1 100 (σ7.1 97 11).toNatClampNeg), .int (σ7.1 97 41), .ref 122]) (σ' := σ7) hM 0 rfl ?_
      refine Rn.iast hM rfl rfl h.2.1 ?_
      refine Rn.seg (pc' := 266) (ls' := [(2, .int (1 : Int32)), (0, .ref 97), (1, .int x1)]) (st' := [.ref 97]) (σ' := (s1 (s1 σ7 122 (σ7.1 97 41).toNatClampNeg (σ7.1 100 (σ7.1 97 11).toNatClampNeg)) 97 41 ((σ7.1 97 41) + (1 : Int32)))) hM 7 rfl ?_
      obtain ⟨Qc, hq, h⟩ := h.2.2
      refine Rn.cV hM rfl rfl (by decide) hq (fun σ8 hw => ?_)
      replace h := h σ8 hw
      refine Rn.seg (pc' := 12) (ls' := [(2, .int (1 : Int32)), (0, .ref 97), (1, .int x1)]) (st' := []) (σ' := σ8) hM 1 rfl ?_
      exact Rn.sub h (subL_cons rfl (subL_cons rfl (subL_cons rfl subL_nil))) (show ndL _ from (by decide : List.Nodup ([0, 1, 2] : List Nat)))
    · replace h := h.2 c
      refine Rn.seg (pc' := 234) (ls' := [(2, .int (1 : Int32)), (0, .ref 97), (1, .int x1)]) (st' := [.int (1 : Int32), .ref 97]) (σ' := σ5) hM 2 rfl ?_
      obtain ⟨Qc, hq, h⟩ := h
      refine Rn.cV hM rfl rfl (by decide) hq (fun σ9 hw => ?_)
      replace h := h σ9 hw
      refine Rn.seg (pc' := 253) (ls' := [(2, .int (1 : Int32)), (0, .ref 97), (1, .int x1)]) (st' := [.int (σ9.1 97 11), .ref 100, .int (σ9.1 97 41), .ref 122]) (σ' := σ9) hM 8 rfl ?_
      refine Rn.iald hM rfl rfl h.1 ?_
      refine Rn.seg (pc' := 254) (ls' := [(2, .int (1 : Int32)), (0, .ref 97), (1, .int x1)]) (st' := [.int (σ9.1 100 (σ9.1 97 11).toNatClampNeg), .int (σ9.1 97 41), .ref 122]) (σ' := σ9) hM 0 rfl ?_
      refine Rn.iast hM rfl rfl h.2.1 ?_
      refine Rn.seg (pc' := 266) (ls' := [(2, .int (1 : Int32)), (0, .ref 97), (1, .int x1)]) (st' := [.ref 97]) (σ' := (s1 (s1 σ9 122 (σ9.1 97 41).toNatClampNeg (σ9.1 100 (σ9.1 97 11).toNatClampNeg)) 97 41 ((σ9.1 97 41) + (1 : Int32)))) hM 7 rfl ?_
      obtain ⟨Qc, hq, h⟩ := h.2.2
      refine Rn.cV hM rfl rfl (by decide) hq (fun σ10 hw => ?_)
      replace h := h σ10 hw
      refine Rn.seg (pc' := 12) (ls' := [(2, .int (1 : Int32)), (0, .ref 97), (1, .int x1)]) (st' := []) (σ' := σ10) hM 1 rfl ?_
      exact Rn.sub h (subL_cons rfl (subL_cons rfl (subL_cons rfl subL_nil))) (show ndL _ from (by decide : List.Nodup ([0, 1, 2] : List Nat)))
set_option maxRecDepth 100000 in
theorem w_199_204 {d : Nat} {Q : Option Value → Sg → Prop} (σ : Sg) (h : (∃ Qc : Sg → Prop, OkV PRG d 198 [.ref 97, .int (0 : Int32)] σ Qc ∧ ∀ σ1, Qc σ1 → Q none σ1)) : Rn PRG (d + 1) 199 204 [(0, .ref 97)] [] σ Q := by
  have hM : PRG[199]? = some M_199 := rfl
  refine Rn.seg (pc' := 206) (ls' := [(0, .ref 97)]) (st' := [.int (0 : Int32), .ref 97]) (σ' := σ) hM 2 rfl ?_
  obtain ⟨Qc, hq, h⟩ := h
  refine Rn.cV hM rfl rfl (by decide) hq (fun σ1 hw => ?_)
  replace h := h σ1 hw
  refine Rn.seg (pc' := 209) (ls' := [(0, .ref 97)]) (st' := []) (σ' := σ1) hM 0 rfl ?_
  exact Rn.ret hM rfl rfl h
/-! expressions -/
def mdExp : List (Nat × Nat × Nat) := [(12, 11, 16), (12, 37, 37), (12, 41, 41), (76, 0, 839), (77, 0, 839), (78, 0, 63)]
/-- tokens left, while nothing is at fault -/
def muT (σ : Sg) : Nat := if (σ.1 97 13).toInt = 0 then (401 - (σ.1 97 11).toInt).toNat else 0
theorem muT_lt {σ σ' : Sg} (ht : typed TYP σ) (h0 : (σ.1 97 13).toInt = 0) (h : (σ'.1 97 13).toInt = 0 → (σ.1 97 11).toInt + 1 ≤ (σ'.1 97 11).toInt) : muT σ' < muT σ := by
  have := t_rg ht
  unfold muT
  rw [if_pos h0]
  by_cases h1 : (σ'.1 97 13).toInt = 0
  · rw [if_pos h1]; have := h h1; omega
  · rw [if_neg h1]; omega
theorem muT_le {σ σ' : Sg} (h : ST σ σ') : muT σ' ≤ muT σ := by
  unfold muT
  by_cases h1 : (σ'.1 97 13).toInt = 0
  · rw [if_pos h1, if_pos (h.2.2.1 h1)]; have := h.2.1; omega
  · rw [if_neg h1]; omega
/-- within an expression: m wait, c codes are there -/
def EX (s a b : Nat) (σ0 : Sg) (m c : Nat) (σ : Sg) : Prop := Gl mdExp σ0 σ ∧ ST σ0 σ ∧ WV m σ ∧ (σ.1 97 37).toInt = (c : Int) ∧ a ≤ c ∧ (∃ o : Nat, (σ.1 97 12).toInt = (o : Int) ∧ o ≤ 7 ∧ opn σ m + b = o ∧ ((σ.1 97 13).toInt = 0 → o ≤ 6)) ∧ ((c + (m - opn σ m) : Nat) : Int) ≤ 420 * (s : Int) + (σ.1 97 11).toInt + 1 ∧ ((σ.1 97 13).toInt = 0 → ((c + (m - opn σ m) : Nat) : Int) ≤ 420 * (s : Int) + (σ.1 97 11).toInt) ∧ ∀ j, j < a ∨ 420 * s + 402 ≤ j → σ.1 120 j = σ0.1 120 j ∧ σ.1 121 j = σ0.1 121 j
/-- behind an expression -/
def XP (s a : Nat) (σ0 σ : Sg) : Prop := Gl mdExp σ0 σ ∧ ST σ0 σ ∧ ∃ c : Nat, (σ.1 97 37).toInt = (c : Int) ∧ a ≤ c ∧ (c : Int) ≤ 420 * (s : Int) + (σ.1 97 11).toInt + 1 ∧ ((σ.1 97 13).toInt = 0 → (c : Int) ≤ 420 * (s : Int) + (σ.1 97 11).toInt) ∧ (∃ o : Nat, (σ.1 97 12).toInt = (o : Int) ∧ o ≤ 7 ∧ ((σ.1 97 13).toInt = 0 → o ≤ 6)) ∧ (∀ j, j < a ∨ 420 * s + 402 ≤ j → σ.1 120 j = σ0.1 120 j ∧ σ.1 121 j = σ0.1 121 j) ∧ ((σ.1 97 13).toInt = 0 → (σ0.1 97 11).toInt + 1 ≤ (σ.1 97 11).toInt ∧ CODE σ a c 1)
theorem EX.len {s a b m c : Nat} {σ0 σ : Sg} (h : EX s a b σ0 m c σ) : m ≤ 23 ∧ opn σ m ≤ m := by
  obtain ⟨-, -, hW, -, -, ⟨o, h1, h2, h3, h4⟩, -⟩ := h
  have := hW.le
  exact ⟨by omega, opn_le σ m⟩
theorem EX.top {s a b m c : Nat} {σ0 σ : Sg} (hs : s ≤ 1) (h : EX s a b σ0 m c σ) : c + (m - opn σ m) ≤ 420 * s + 401 := by
  obtain ⟨hG, -, -, -, -, -, h7, -⟩ := h
  have := t_rg hG.1
  omega
/-- tokens only have gone on -/
theorem EX.tok {s a b m c : Nat} {σ0 σ σ' : Sg} (h : EX s a b σ0 m c σ) (g : Gl mdTok σ σ') (st : ST σ σ') : EX s a b σ0 m c σ' := by
  obtain ⟨hG, hS, hW, hc, hac, ⟨o, h1, h2, h3, h4⟩, h7, h8, h9⟩ := h
  have e12 : σ'.1 97 12 = σ.1 97 12 := g.get (q := 97) (κ := 12) rfl rfl
  have e37 : σ'.1 97 37 = σ.1 97 37 := g.get (q := 97) (κ := 12) rfl rfl
  have e41 : σ'.1 97 41 = σ.1 97 41 := g.get (q := 97) (κ := 12) rfl rfl
  have e122 : ∀ j, σ'.1 122 j = σ.1 122 j := fun j => g.get (q := 122) (κ := 78) rfl rfl
  have e120 : ∀ j, σ'.1 120 j = σ.1 120 j := fun j => g.get (q := 120) (κ := 76) rfl rfl
  have e121 : ∀ j, σ'.1 121 j = σ.1 121 j := fun j => g.get (q := 121) (κ := 77) rfl rfl
  have eo : opn σ' m = opn σ m := opn_frame (fun j _ => e122 j)
  have hT := st.2.1
  refine ⟨hG.trans g rfl, hS.trans st, hW.cut (Nat.le_refl _) (by rw [e41]; exact hW.1) (fun j _ => e122 j), by rw [e37]; exact hc, hac, ⟨o, by rw [e12]; exact h1, h2, by rw [eo]; exact h3, fun hh => h4 (st.2.2.1 hh)⟩, by rw [eo]; omega, fun hh => ?_, fun j hj => by rw [e120, e121]; exact h9 j hj⟩
  have := h8 (st.2.2.1 hh)
  rw [eo]
  omega
/-- operators have come out -/
theorem EX.co {s a b m c : Nat} {x1 : Int32} {σ0 σ σ' : Sg} (h : EX s a b σ0 m c σ) (hs : s ≤ 1) (hco : CO x1 m c σ σ') : ∃ m' c', EX s a b σ0 m' c' σ' ∧ Gl mdCO σ σ' ∧ m' ≤ m ∧ opn σ' m' = opn σ m ∧ (m' = 0 ∨ σ'.1 122 (m' - 1) = 6 ∨ (¬ x1 = 0 ∧ (σ'.1 122 (m' - 1) = 8 ∨ σ'.1 122 (m' - 1) = 9))) ∧ (CODE σ a c (m - opn σ m + 1) → CODE σ' a c' (m' - opn σ' m' + 1)) := by
  have htop := h.top hs
  obtain ⟨hG, hS, hW, hc, hac, ⟨o, h1, h2, h3, h4⟩, h7, h8, h9⟩ := h
  obtain ⟨m', k1, g, k3, k4, k5, k6, k7, k8⟩ := hco
  have e11 : σ'.1 97 11 = σ.1 97 11 := g.get (q := 97) (κ := 12) rfl rfl
  have e12 : σ'.1 97 12 = σ.1 97 12 := g.get (q := 97) (κ := 12) rfl rfl
  have e13 : σ'.1 97 13 = σ.1 97 13 := g.get (q := 97) (κ := 12) rfl rfl
  have e15 : σ'.1 97 15 = σ.1 97 15 := g.get (q := 97) (κ := 12) rfl rfl
  have e122 : ∀ j, σ'.1 122 j = σ.1 122 j := fun j => g.get (q := 122) (κ := 78) rfl rfl
  have eo : ∀ n, opn σ' n = opn σ n := fun n => opn_frame (fun j _ => e122 j)
  have l1 := opn_le σ m
  have l2 := opn_le σ m'
  have sum : c + (m - m') + (m' - opn σ m') = c + (m - opn σ m) := by omega
  refine ⟨m', c + (m - m'), ⟨hG.trans g rfl, hS.trans (ST.of hS.1 e11 e13 e15), hW.cut k1 k3 (fun j _ => e122 j), k4, by omega, ⟨o, by rw [e12]; exact h1, h2, by rw [eo, k5]; exact h3, by rw [e13]; exact h4⟩, by rw [eo, e11, sum]; exact h7, by rw [eo, e11, e13, sum]; exact h8, fun j hj => ?_⟩, g, k1, by rw [eo]; exact k5, by rw [e122]; exact k7, fun hcode => by rw [eo]; exact k8 a hac hcode⟩
  have := k6 j (by omega)
  rw [this.1, this.2]
  exact h9 j hj
theorem ex_204 {s a b m c : Nat} {σ0 σ : Sg} (hs : s ≤ 1) (h : EX s a b σ0 m c σ) (hcode : CODE σ a c (m - opn σ m + 1)) (h0 : (σ.1 97 13).toInt = 0 → opn σ m = 0 ∧ (σ0.1 97 11).toInt + 1 ≤ (σ.1 97 11).toInt) : Rn PRG (3 + 1) 199 204 [(0, .ref 97)] [] σ (fun v σ' => v = none ∧ XP s a σ0 σ') := by
  have hl := h.len
  have htop := h.top hs
  refine w_199_204 σ ⟨_, comesOut_OK (d := 2) h.1.1 h.2.2.1 (by omega) h.2.2.2.1 (by omega), fun σ1 hq => ⟨rfl, ?_⟩⟩
  obtain ⟨m', c', hE, g, hm, ho, hst, hcd⟩ := h.co hs hq
  have e11 : σ1.1 97 11 = σ.1 97 11 := g.get (q := 97) (κ := 12) rfl rfl
  have e13 : σ1.1 97 13 = σ.1 97 13 := g.get (q := 97) (κ := 12) rfl rfl
  obtain ⟨hG, hS, hW, hc, hac, ⟨o, h1, h2, h3, h4⟩, h7, h8, h9⟩ := hE
  refine ⟨hG, hS, c', hc, hac, by omega, fun hh => by have := h8 hh; omega, ⟨o, h1, h2, h4⟩, h9, fun hh => ?_⟩
  rw [e13] at hh
  obtain ⟨z1, z2⟩ := h0 hh
  refine ⟨by rw [e11]; exact z2, ?_⟩
  have hm0 : m' = 0 := by
    rcases hst with hst | hst | hst
    · exact hst
    · by_cases hz : m' = 0
      · exact hz
      · have := opn_succ σ1 (m' - 1)
        rw [show m' - 1 + 1 = m' by omega, if_pos hst] at this
        omega
    · exact absurd rfl hst.1
  have := hcd hcode
  rw [hm0] at this
  exact this
/-- one more waits: an operator, or an open bracket -/
theorem EX.push {s a b m c : Nat} {x : Int32} {σ0 σ : Sg} (h : EX s a b σ0 m c σ) (hs : s ≤ 1) (hF : (σ.1 97 13).toInt = 0) (hk : x = 8 ∨ x = 9 ∨ x = 10 ∨ x = 15) (hp : m = 0 ∨ σ.1 122 (m - 1) = 6 ∨ ((σ.1 122 (m - 1) = 8 ∨ σ.1 122 (m - 1) = 9) ∧ (x = 10 ∨ x = 15))) (hcode : CODE σ a c (m - opn σ m + 1)) : inR (σ.1 97 41) 64 = true ∧ ∃ Qc : Sg → Prop, OkV PRG 3 192 [.ref 97] (s1 (s1 σ 122 (σ.1 97 41).toNatClampNeg x) 97 41 ((σ.1 97 41) + (1 : Int32))) Qc ∧ ∀ σ', Qc σ' → EX s a b σ0 (m + 1) c σ' ∧ ((σ'.1 97 13).toInt = 0 → CODE σ' a c (m + 1 - opn σ' (m + 1))) ∧ ((σ'.1 97 13).toInt = 0 → (σ.1 97 11).toInt + 1 ≤ (σ'.1 97 11).toInt) := by
  have hl := h.len
  obtain ⟨hG, hS, hW, hc, hac, ⟨o, h1, h2, h3, h4⟩, h7, h8, h9⟩ := h
  have hx6 : ¬ x = 6 := by rcases hk with rfl | rfl | rfl | rfl <;> decide
  have hcn : (σ.1 97 41).toNatClampNeg = m := cn_of hW.1
  have e1 : ((σ.1 97 41) + (1 : Int32)).toInt = ((m + 1 : Nat) : Int) := by
    rw [add_lit (k := 1) hW.1 (by decide) (by unfold FL; omega) (by unfold FH; omega)]; push_cast; rfl
  refine ⟨inR_ok (by rw [hW.1]; omega) (by rw [hW.1]; omega), ?_⟩
  rw [hcn]
  have k1 : Gl mdExp σ (s1 σ 122 m x) := wrG (κ := 78) (a := 0) (b := 63) (vl := FL) (vh := FH) rfl rfl (Gl.refl hG.1) rfl (Nat.zero_le _) (by clear e1; omega) (w_lo _) (w_hi _)
  have k2 := wrG (x := (σ.1 97 41) + (1 : Int32)) (q := 97) (k := 41) (κ := 12) (a := 41) (b := 41) (vl := FL) (vh := FH) rfl rfl k1 rfl (Nat.le_refl _) (Nat.le_refl _) (w_lo _) (w_hi _)
  have e11 : (s1 (s1 σ 122 m x) 97 41 ((σ.1 97 41) + (1 : Int32))).1 97 11 = σ.1 97 11 := by rw [s1_off (by omega), s1_off (by omega)]
  have e12 : (s1 (s1 σ 122 m x) 97 41 ((σ.1 97 41) + (1 : Int32))).1 97 12 = σ.1 97 12 := by rw [s1_off (by omega), s1_off (by omega)]
  have e13 : (s1 (s1 σ 122 m x) 97 41 ((σ.1 97 41) + (1 : Int32))).1 97 13 = σ.1 97 13 := by rw [s1_off (by omega), s1_off (by omega)]
  have e15 : (s1 (s1 σ 122 m x) 97 41 ((σ.1 97 41) + (1 : Int32))).1 97 15 = σ.1 97 15 := by rw [s1_off (by omega), s1_off (by omega)]
  have e37 : (s1 (s1 σ 122 m x) 97 41 ((σ.1 97 41) + (1 : Int32))).1 97 37 = σ.1 97 37 := by rw [s1_off (by omega), s1_off (by omega)]
  have e41 : ((s1 (s1 σ 122 m x) 97 41 ((σ.1 97 41) + (1 : Int32))).1 97 41).toInt = ((m + 1 : Nat) : Int) := by rw [s1_on]; exact e1
  have e120 : ∀ j, (s1 (s1 σ 122 m x) 97 41 ((σ.1 97 41) + (1 : Int32))).1 120 j = σ.1 120 j := fun j => by rw [s1_off (by omega), s1_off (by omega)]
  have e121 : ∀ j, (s1 (s1 σ 122 m x) 97 41 ((σ.1 97 41) + (1 : Int32))).1 121 j = σ.1 121 j := fun j => by rw [s1_off (by omega), s1_off (by omega)]
  have e122 : ∀ j, j < m → (s1 (s1 σ 122 m x) 97 41 ((σ.1 97 41) + (1 : Int32))).1 122 j = σ.1 122 j := fun j hj => by rw [s1_off (by omega), s1_off (fun e => by have := e.2; omega)]
  have e122m : (s1 (s1 σ 122 m x) 97 41 ((σ.1 97 41) + (1 : Int32))).1 122 m = x := by rw [s1_off (by omega), s1_on]
  generalize s1 (s1 σ 122 m x) 97 41 ((σ.1 97 41) + (1 : Int32)) = σ2 at k2 e11 e12 e13 e15 e37 e41 e120 e121 e122 e122m ⊢
  clear e1
  have st2 : ST σ σ2 := ST.of hS.1 e11 e13 e15
  refine ⟨_, goesOn_OK (d := 2) k2.1 st2.1, fun σ' hq => ?_⟩
  obtain ⟨g, st, ng⟩ := hq
  have f12 : σ'.1 97 12 = σ2.1 97 12 := g.get (q := 97) (κ := 12) rfl rfl
  have f37 : σ'.1 97 37 = σ2.1 97 37 := g.get (q := 97) (κ := 12) rfl rfl
  have f41 : σ'.1 97 41 = σ2.1 97 41 := g.get (q := 97) (κ := 12) rfl rfl
  have f120 : ∀ j, σ'.1 120 j = σ.1 120 j := fun j => by rw [g.get (q := 120) (κ := 76) rfl rfl, e120]
  have f121 : ∀ j, σ'.1 121 j = σ.1 121 j := fun j => by rw [g.get (q := 121) (κ := 77) rfl rfl, e121]
  have f122 : ∀ j, σ'.1 122 j = σ2.1 122 j := fun j => g.get (q := 122) (κ := 78) rfl rfl
  have om : opn σ' m = opn σ m := opn_frame (fun j hj => by rw [f122, e122 j hj])
  have om1 : opn σ' (m + 1) = opn σ m := by rw [opn_succ, om, f122, e122m, if_neg hx6]; rfl
  have hsum := h8 hF
  have hT := st.2.1
  rw [e11] at hT
  refine ⟨⟨(hG.trans k2 rfl).trans g rfl, (hS.trans st2).trans st, hW.push (by rw [f41]; exact e41) (fun j hj => by rw [f122, e122 j hj]) (by rw [f122]; exact e122m) (Or.inr hk) (Or.inr hp), by rw [f37, e37]; exact hc, hac, ⟨o, by rw [f12, e12]; exact h1, h2, by rw [om1]; exact h3, fun hh => ?_⟩, ?_, fun hh => ?_, fun j hj => by rw [f120, f121]; exact h9 j hj⟩, fun hh => ?_, fun hh => ?_⟩
  · have := st.2.2.1 hh
    rw [e13] at this
    exact h4 this
  · rw [om1]
    have : c + (m + 1 - opn σ m) = c + (m - opn σ m) + 1 := by omega
    rw [this]; push_cast; omega
  · have := ng hh
    rw [e11] at this
    rw [om1]
    have e : c + (m + 1 - opn σ m) = c + (m - opn σ m) + 1 := by omega
    rw [e]; push_cast; omega
  · have := hcode.frame (σ' := σ') (fun j _ _ => ⟨f120 j, f121 j⟩)
    rw [om1, show m + 1 - opn σ m = m - opn σ m + 1 by omega]
    exact this
  · have := ng hh
    rw [e11] at this
    omega
theorem ex_181 {s a b m c : Nat} {x1 : Int32} {σ0 σ : Sg} {Q : Option Value → Sg → Prop} (hs : s ≤ 1) (h : EX s a b σ0 m c σ) (hF : (σ.1 97 13).toInt = 0) (hk : tkn σ = 8 ∨ tkn σ = 9 ∨ tkn σ = 10 ∨ tkn σ = 15) (hcode : CODE σ a c (m - opn σ m + 1)) (K : ∀ (m' c' : Nat) (σ' : Sg), EX s a b σ0 m' c' σ' → ((σ'.1 97 13).toInt = 0 → CODE σ' a c' (m' - opn σ' m')) → muT σ' < muT σ → Rn PRG (3 + 1) 199 12 [(0, .ref 97), (1, .int x1), (2, .int (1 : Int32))] [] σ' Q) : Rn PRG (3 + 1) 199 181 [(0, .ref 97), (1, .int x1)] [] σ Q := by
  have hl := h.len
  have htop := h.top hs
  have go : ∀ y : Int32, (¬ y = 0 → tkn σ = 10 ∨ tkn σ = 15) → ∃ Qc : Sg → Prop, OkV PRG 3 198 [.ref 97, .int y] σ Qc ∧ ∀ σ7, Qc σ7 → (inR (σ7.1 97 11) 403 = true ∧ (inR (σ7.1 97 41) 64 = true ∧ (∃ Qc : Sg → Prop, OkV PRG 3 192 [.ref 97] (s1 (s1 σ7 122 (σ7.1 97 41).toNatClampNeg (σ7.1 100 (σ7.1 97 11).toNatClampNeg)) 97 41 ((σ7.1 97 41) + (1 : Int32))) Qc ∧ ∀ σ8, Qc σ8 → Rn PRG (3 + 1) 199 12 [(0, .ref 97), (1, .int x1), (2, .int (1 : Int32))] [] σ8 Q))) := by
    intro y hy
    refine ⟨_, comesOut_OK (d := 2) h.1.1 h.2.2.1 (by omega) h.2.2.2.1 (by omega), fun σ7 hq => ?_⟩
    obtain ⟨m', c', hE, g, hm, ho, hst, hcd⟩ := h.co hs hq
    have e11 : σ7.1 97 11 = σ.1 97 11 := g.get (q := 97) (κ := 12) rfl rfl
    have e13 : σ7.1 97 13 = σ.1 97 13 := g.get (q := 97) (κ := 12) rfl rfl
    have ek : σ7.1 100 (σ7.1 97 11).toNatClampNeg = tkn σ := by
      rw [e11]
      exact g.get (q := 100) (κ := 56) rfl rfl
    rw [ek]
    have hp : m' = 0 ∨ σ7.1 122 (m' - 1) = 6 ∨ ((σ7.1 122 (m' - 1) = 8 ∨ σ7.1 122 (m' - 1) = 9) ∧ (tkn σ = 10 ∨ tkn σ = 15)) := by
      rcases hst with h1 | h1 | h1
      · exact Or.inl h1
      · exact Or.inr (Or.inl h1)
      · exact Or.inr (Or.inr ⟨h1.2, hy h1.1⟩)
    obtain ⟨i1, Qc, i2, i3⟩ := hE.push hs (by rw [e13]; exact hF) hk hp (hcd hcode)
    refine ⟨t_in g.1, i1, Qc, i2, fun σ8 hq8 => ?_⟩
    obtain ⟨j1, j2, j3⟩ := i3 σ8 hq8
    exact K (m' + 1) c' σ8 j1 j2 (muT_lt h.1.1 hF (fun hh => by have := j3 hh; rw [e11] at this; exact this))
  refine w_199_181 σ x1 ⟨_, is_OK h.1.1, fun w2 σ1 hq => ?_⟩
  obtain ⟨e1, hw⟩ := hq
  rw [e1]
  refine ⟨fun c2 => ⟨_, is_OK h.1.1, fun w6 σ5 hq => ?_⟩, fun c2 => go 1 (fun _ => ?_)⟩
  · obtain ⟨e5, hw5⟩ := hq
    rw [e5]
    refine ⟨fun c6 => go 0 (fun h => absurd rfl h), fun c6 => go 1 (fun _ => ?_)⟩
    rcases hw5 with h5 | h5
    · exact Or.inr h5.2.2
    · exact absurd h5.1 c6
  · rcases hw with h1 | h1
    · exact Or.inl h1.2.2
    · exact absurd h1.1 c2
theorem ex_145 {s a b m c : Nat} {x1 : Int32} {σ0 σ : Sg} (hs : s ≤ 1) (hx1 : x1.toInt = (b : Int)) (h : EX s a b σ0 m c σ) (hcode : CODE σ a c (m - opn σ m + 1)) (ht0 : (σ.1 97 13).toInt = 0 → (σ0.1 97 11).toInt + 1 ≤ (σ.1 97 11).toInt) (K : ∀ (m' c' : Nat) (σ' : Sg), EX s a b σ0 m' c' σ' → ((σ'.1 97 13).toInt = 0 → CODE σ' a c' (m' - opn σ' m')) → muT σ' < muT σ → Rn PRG (3 + 1) 199 12 [(0, .ref 97), (1, .int x1), (2, .int (1 : Int32))] [] σ' (fun v σ' => v = none ∧ XP s a σ0 σ')) : Rn PRG (3 + 1) 199 145 [(0, .ref 97), (1, .int x1)] [] σ (fun v σ' => v = none ∧ XP s a σ0 σ') := by
  have ht := h.1.1
  have hit : ∀ (k w : Int32), (w = 1 ∧ (σ.1 97 13).toInt = 0 ∧ tkn σ = k) ∨ (w = 0 ∧ ¬ ((σ.1 97 13).toInt = 0 ∧ tkn σ = k)) → ¬ w = 0 → (k = 8 ∨ k = 9 ∨ k = 10 ∨ k = 15) → Rn PRG (3 + 1) 199 181 [(0, .ref 97), (1, .int x1)] [] σ (fun v σ' => v = none ∧ XP s a σ0 σ') := by
    intro k w hw hne hk
    rcases hw with ⟨-, h1, h2⟩ | ⟨h1, -⟩
    · exact ex_181 hs h h1 (by rw [h2]; exact hk) hcode K
    · exact absurd h1 hne
  refine w_199_145 σ x1 ⟨_, is_OK ht, fun w2 σ1 hq => ?_⟩
  obtain ⟨e1, hw1⟩ := hq
  rw [e1]
  refine ⟨fun _ => ⟨_, is_OK ht, fun w4 σ3 hq => ?_⟩, fun c2 => hit 8 w2 hw1 c2 (by decide)⟩
  obtain ⟨e3, hw3⟩ := hq
  rw [e3]
  refine ⟨fun _ => ⟨_, is_OK ht, fun w6 σ5 hq => ?_⟩, fun c2 => hit 9 w4 hw3 c2 (by decide)⟩
  obtain ⟨e5, hw5⟩ := hq
  rw [e5]
  refine ⟨fun _ => ⟨_, is_OK ht, fun w8 σ7 hq => ?_⟩, fun c2 => hit 10 w6 hw5 c2 (by decide)⟩
  obtain ⟨e7, hw7⟩ := hq
  rw [e7]
  refine ⟨fun _ => ⟨fun co => ?_, fun _ => ⟨_, fail_OK ht h.2.1.1 (by decide), fun σ9 hq => ?_⟩⟩, fun c2 => hit 15 w8 hw7 c2 (by decide)⟩
  · refine ex_204 hs h hcode (fun hh => ⟨?_, ht0 hh⟩)
    obtain ⟨-, -, -, -, -, ⟨o, h1, h2, h3, h4⟩, -⟩ := h
    rw [le_i h1 hx1] at co
    omega
  · obtain ⟨g, st, nf⟩ := hq
    have h9 := h.tok g st
    have eo : opn σ9 m = opn σ m := opn_frame (fun j _ => g.get (q := 122) (κ := 78) rfl rfl)
    exact ex_204 hs h9 (by rw [eo]; exact hcode.frame (fun j _ _ => ⟨g.get (q := 120) (κ := 76) rfl rfl, g.get (q := 121) (κ := 77) rfl rfl⟩)) (fun hh => absurd hh nf)
theorem ex_96 {s a b : Nat} {x1 : Int32} {σ0 : Sg} (hs : s ≤ 1) (hx1 : x1.toInt = (b : Int)) : ∀ (M m c : Nat) (σ : Sg), muT σ ≤ M → EX s a b σ0 m c σ → CODE σ a c (m - opn σ m + 1) → ((σ.1 97 13).toInt = 0 → (σ0.1 97 11).toInt + 1 ≤ (σ.1 97 11).toInt) → (∀ (m' c' : Nat) (σ' : Sg), EX s a b σ0 m' c' σ' → ((σ'.1 97 13).toInt = 0 → CODE σ' a c' (m' - opn σ' m')) → muT σ' < muT σ → Rn PRG (3 + 1) 199 12 [(0, .ref 97), (1, .int x1), (2, .int (1 : Int32))] [] σ' (fun v σ' => v = none ∧ XP s a σ0 σ')) → Rn PRG (3 + 1) 199 96 [(0, .ref 97), (1, .int x1)] [] σ (fun v σ' => v = none ∧ XP s a σ0 σ') := by
  intro M
  induction M with
  | zero =>
    intro m c σ hM h hcode ht0 K
    refine w_199_96 σ x1 ⟨_, is_OK h.1.1, fun w2 σ1 hq => ?_⟩
    obtain ⟨e1, hw⟩ := hq
    rw [e1]
    refine ⟨fun _ => ex_145 hs hx1 h hcode ht0 K, fun hne => ?_⟩
    rcases hw with ⟨-, h1, -⟩ | ⟨h1, -⟩
    · have := t_rg h.1.1
      unfold muT at hM
      rw [if_pos h1] at hM
      omega
    · exact absurd h1 hne
  | succ M ih =>
    intro m c σ hM h hcode ht0 K
    refine w_199_96 σ x1 ⟨_, is_OK h.1.1, fun w2 σ1 hq => ?_⟩
    obtain ⟨e1, hw⟩ := hq
    rw [e1]
    refine ⟨fun _ => ex_145 hs hx1 h hcode ht0 K, fun hne => ⟨fun _ => ex_145 hs hx1 h hcode ht0 K, fun co => ?_⟩⟩
    have hF : (σ.1 97 13).toInt = 0 := by
      rcases hw with ⟨-, h1, -⟩ | ⟨h1, -⟩
      · exact h1
      · exact absurd h1 hne
    have hl := h.len
    have htop := h.top hs
    have one : (1 : Int32).toInt = 1 := by decide
    refine ⟨_, comesOut_OK (d := 2) h.1.1 h.2.2.1 (by omega) h.2.2.2.1 (by omega), fun σ3 hq => ?_⟩
    obtain ⟨m', c', hE, g, hm, ho, hst, hcd⟩ := h.co hs hq
    have hopos : 0 < opn σ m := by
      obtain ⟨-, -, -, -, -, ⟨o, h1, h2, h3, h4⟩, -⟩ := h
      rw [le_i h1 hx1] at co
      omega
    have hl' := opn_le σ3 m'
    have hm1 : 1 ≤ m' := by omega
    have h6 : σ3.1 122 (m' - 1) = 6 := by
      rcases hst with h1 | h1 | h1
      · omega
      · exact h1
      · exact absurd rfl h1.1
    have hcode3 := hcd hcode
    have e11 : σ3.1 97 11 = σ.1 97 11 := g.get (q := 97) (κ := 12) rfl rfl
    have e13 : σ3.1 97 13 = σ.1 97 13 := g.get (q := 97) (κ := 12) rfl rfl
    have osucc := opn_succ σ3 (m' - 1)
    rw [show m' - 1 + 1 = m' by omega, if_pos h6] at osucc
    obtain ⟨hG, hS, hW, hc, hac, ⟨o, h1, h2, h3, h4⟩, h7, h8, h9⟩ := hE
    -- the bracket goes
    have d41 : ((σ3.1 97 41) - (1 : Int32)).toInt = ((m' - 1 : Nat) : Int) := by
      rw [sub_ex (by rw [hW.1, one]; unfold FL; omega) (by rw [hW.1, one]; unfold FH; omega), hW.1, one]; omega
    have d12 : ((σ3.1 97 12) - (1 : Int32)).toInt = ((o - 1 : Nat) : Int) := by
      rw [sub_ex (by rw [h1, one]; unfold FL; omega) (by rw [h1, one]; unfold FH; omega), h1, one]; omega
    have k1 : Gl mdExp σ3 (s1 σ3 97 41 ((σ3.1 97 41) - (1 : Int32))) := wrG (κ := 12) (a := 41) (b := 41) (vl := FL) (vh := FH) rfl rfl (Gl.refl hG.1) rfl (Nat.le_refl _) (Nat.le_refl _) (w_lo _) (w_hi _)
    have k2 := wrG (x := (σ3.1 97 12) - (1 : Int32)) (q := 97) (k := 12) (κ := 12) (a := 12) (b := 12) (vl := FL) (vh := FH) rfl rfl k1 rfl (Nat.le_refl _) (Nat.le_refl _) (w_lo _) (w_hi _)
    have f11 : (s1 (s1 σ3 97 41 ((σ3.1 97 41) - (1 : Int32))) 97 12 ((σ3.1 97 12) - (1 : Int32))).1 97 11 = σ3.1 97 11 := by rw [s1_off (by omega), s1_off (by omega)]
    have f12 : ((s1 (s1 σ3 97 41 ((σ3.1 97 41) - (1 : Int32))) 97 12 ((σ3.1 97 12) - (1 : Int32))).1 97 12).toInt = ((o - 1 : Nat) : Int) := by rw [s1_on]; exact d12
    have f13 : (s1 (s1 σ3 97 41 ((σ3.1 97 41) - (1 : Int32))) 97 12 ((σ3.1 97 12) - (1 : Int32))).1 97 13 = σ3.1 97 13 := by rw [s1_off (by omega), s1_off (by omega)]
    have f15 : (s1 (s1 σ3 97 41 ((σ3.1 97 41) - (1 : Int32))) 97 12 ((σ3.1 97 12) - (1 : Int32))).1 97 15 = σ3.1 97 15 := by rw [s1_off (by omega), s1_off (by omega)]
    have f37 : (s1 (s1 σ3 97 41 ((σ3.1 97 41) - (1 : Int32))) 97 12 ((σ3.1 97 12) - (1 : Int32))).1 97 37 = σ3.1 97 37 := by rw [s1_off (by omega), s1_off (by omega)]
    have f41 : ((s1 (s1 σ3 97 41 ((σ3.1 97 41) - (1 : Int32))) 97 12 ((σ3.1 97 12) - (1 : Int32))).1 97 41).toInt = ((m' - 1 : Nat) : Int) := by rw [s1_off (by omega), s1_on]; exact d41
    have f120 : ∀ j, (s1 (s1 σ3 97 41 ((σ3.1 97 41) - (1 : Int32))) 97 12 ((σ3.1 97 12) - (1 : Int32))).1 120 j = σ3.1 120 j := fun j => by rw [s1_off (by omega), s1_off (by omega)]
    have f121 : ∀ j, (s1 (s1 σ3 97 41 ((σ3.1 97 41) - (1 : Int32))) 97 12 ((σ3.1 97 12) - (1 : Int32))).1 121 j = σ3.1 121 j := fun j => by rw [s1_off (by omega), s1_off (by omega)]
    have f122 : ∀ j, (s1 (s1 σ3 97 41 ((σ3.1 97 41) - (1 : Int32))) 97 12 ((σ3.1 97 12) - (1 : Int32))).1 122 j = σ3.1 122 j := fun j => by rw [s1_off (by omega), s1_off (by omega)]
    generalize s1 (s1 σ3 97 41 ((σ3.1 97 41) - (1 : Int32))) 97 12 ((σ3.1 97 12) - (1 : Int32)) = σ4 at k2 f11 f12 f13 f15 f37 f41 f120 f121 f122 ⊢
    clear d41 d12
    have eo : ∀ n, opn σ4 n = opn σ3 n := fun n => opn_frame (fun j _ => f122 j)
    have est : m' - 1 - opn σ3 (m' - 1) = m' - opn σ3 m' := by omega
    have st4 : ST σ3 σ4 := ST.of hS.1 f11 f13 f15
    have hE4 : EX s a b σ0 (m' - 1) c' σ4 := ⟨hG.trans k2 rfl, hS.trans st4, hW.cut (by omega) f41 (fun j _ => f122 j), by rw [f37]; exact hc, hac, ⟨o - 1, f12, by omega, by rw [eo]; omega, fun hh => by rw [f13] at hh; have := h4 hh; omega⟩, by rw [eo, est, f11]; exact h7, fun hh => by rw [eo, est, f11]; rw [f13] at hh; exact h8 hh, fun j hj => by rw [f120, f121]; exact h9 j hj⟩
    refine ⟨_, goesOn_OK (d := 2) hE4.1.1 hE4.2.1.1, fun σ5 hq => ?_⟩
    obtain ⟨g5, st5, n5⟩ := hq
    have hE5 := hE4.tok g5 st5
    have eo5 : ∀ n, opn σ5 n = opn σ3 n := fun n => by rw [opn_frame (σ := σ4) (fun j _ => g5.get (q := 122) (κ := 78) rfl rfl), eo]
    have hcode5 : CODE σ5 a c' (m' - 1 - opn σ5 (m' - 1) + 1) := by
      rw [eo5, est]
      exact hcode3.frame (fun j _ _ => ⟨by rw [g5.get (q := 120) (κ := 76) rfl rfl, f120], by rw [g5.get (q := 121) (κ := 77) rfl rfl, f121]⟩)
    have hlt : muT σ5 < muT σ := muT_lt h.1.1 hF (fun hh => by have := n5 hh; rw [f11, e11] at this; omega)
    refine ih (m' - 1) c' σ5 (by omega) hE5 hcode5 (fun hh => ?_) (fun m2 c2 σ2 a1 a2 a3 => K m2 c2 σ2 a1 a2 (by omega))
    have := n5 hh
    rw [f11, e11] at this
    have := ht0 hF
    omega
theorem ex_23 {s a b : Nat} {x1 : Int32} {σ0 : Sg} (hs : s ≤ 1) (hx1 : x1.toInt = (b : Int)) : ∀ (M m c : Nat) (σ : Sg), muT σ ≤ M → EX s a b σ0 m c σ → ((σ.1 97 13).toInt = 0 → CODE σ a c (m - opn σ m)) → (∀ (m' c' : Nat) (σ' : Sg), EX s a b σ0 m' c' σ' → ((σ'.1 97 13).toInt = 0 → CODE σ' a c' (m' - opn σ' m')) → muT σ' < muT σ → Rn PRG (3 + 1) 199 12 [(0, .ref 97), (1, .int x1), (2, .int (1 : Int32))] [] σ' (fun v σ' => v = none ∧ XP s a σ0 σ')) → Rn PRG (3 + 1) 199 23 [(0, .ref 97), (1, .int x1)] [] σ (fun v σ' => v = none ∧ XP s a σ0 σ') := by
  -- a unit
  have un : ∀ (m c : Nat) (σ : Sg), EX s a b σ0 m c σ → ((σ.1 97 13).toInt = 0 → CODE σ a c (m - opn σ m)) → (∀ (m' c' : Nat) (σ' : Sg), EX s a b σ0 m' c' σ' → ((σ'.1 97 13).toInt = 0 → CODE σ' a c' (m' - opn σ' m')) → muT σ' < muT σ → Rn PRG (3 + 1) 199 12 [(0, .ref 97), (1, .int x1), (2, .int (1 : Int32))] [] σ' (fun v σ' => v = none ∧ XP s a σ0 σ')) → ∃ Qc : Sg → Prop, OkV PRG 3 197 [.ref 97] σ Qc ∧ ∀ σ3, Qc σ3 → (((σ3.1 97 13) ≤ 0 → Rn PRG (3 + 1) 199 96 [(0, .ref 97), (1, .int x1)] [] σ3 (fun v σ' => v = none ∧ XP s a σ0 σ')) ∧ (¬ (σ3.1 97 13) ≤ 0 → ((none : Option Value) = none ∧ XP s a σ0 σ3))) := by
    intro m c σ h hcode K
    have hl := h.len
    have htop := h.top hs
    obtain ⟨hG, hS, hW, hc, hac, ⟨o, h1, h2, h3, h4⟩, h7, h8, h9⟩ := h
    refine ⟨_, unit_OK (d := 0) hG.1 hS.1 hc (by omega), fun σ3 hq => ?_⟩
    obtain ⟨g, st, hu⟩ := hq
    have e12 : σ3.1 97 12 = σ.1 97 12 := g.get (q := 97) (κ := 12) rfl rfl
    have e41 : σ3.1 97 41 = σ.1 97 41 := g.get (q := 97) (κ := 12) rfl rfl
    have e122 : ∀ j, σ3.1 122 j = σ.1 122 j := fun j => g.get (q := 122) (κ := 78) rfl rfl
    have eo : ∀ n, opn σ3 n = opn σ n := fun n => opn_frame (fun j _ => e122 j)
    have hT := st.2.1
    have hr := t_rg hG.1
    have hG3 : Gl mdExp σ0 σ3 := hG.trans g rfl
    have hS3 := hS.trans st
    refine ⟨fun cc => ?_, fun cc => ⟨rfl, ?_⟩⟩
    · rw [le0_i] at cc
      have hF3 : (σ3.1 97 13).toInt = 0 := by have := st.1.1; omega
      have hF := st.2.2.1 hF3
      rcases hu with ⟨nf, -⟩ | ⟨-, u1, u2, u3, u4⟩
      · exact absurd hF3 nf
      have u2 := u2 hF3
      have h8 := h8 hF
      have eU : c + 1 + (m - opn σ m) = c + (m - opn σ m) + 1 := by omega
      refine ex_96 hs hx1 (muT σ3) m (c + 1) σ3 (Nat.le_refl _) ⟨hG3, hS3, hW.cut (Nat.le_refl _) (by rw [e41]; exact hW.1) (fun j _ => e122 j), u1, by omega, ⟨o, by rw [e12]; exact h1, h2, by rw [eo]; exact h3, fun hh => h4 hF⟩, by rw [eo, eU]; push_cast; omega, fun _ => by rw [eo, eU]; push_cast; omega, fun j hj => ?_⟩ ?_ (fun _ => by have := hS.2.1; omega) (fun m' c' σ' a1 a2 a3 => K m' c' σ' a1 a2 (by have := muT_le st; omega))
      · have := u4 j (by omega)
        rw [this.1, this.2]
        exact h9 j hj
      · rw [eo]
        exact (hcode hF).push hac (by omega) (fun j _ j2 => u4 j (by omega)) u3.1 u3.2.1 u3.2.2
    · have hF3 : ¬ (σ3.1 97 13).toInt = 0 := fun e => cc (le0_i.mpr (by omega))
      rcases hu with ⟨-, u1, u2⟩ | ⟨hF, u1, -, -, u4⟩
      · exact ⟨hG3, hS3, c, by rw [u1]; exact hc, hac, by omega, fun hh => absurd hh hF3, ⟨o, by rw [e12]; exact h1, h2, fun hh => absurd hh hF3⟩, fun j hj => by rw [(u2 j).1, (u2 j).2]; exact h9 j hj, fun hh => absurd hh hF3⟩
      · have h8 := h8 hF
        exact ⟨hG3, hS3, c + 1, u1, by omega, by push_cast; omega, fun hh => absurd hh hF3, ⟨o, by rw [e12]; exact h1, h2, fun hh => absurd hh hF3⟩, fun j hj => by rw [(u4 j (by omega)).1, (u4 j (by omega)).2]; exact h9 j hj, fun hh => absurd hh hF3⟩
  intro M
  induction M with
  | zero =>
    intro m c σ hM h hcode K
    refine w_199_23 σ x1 ⟨_, is_OK h.1.1, fun w2 σ1 hq => ?_⟩
    obtain ⟨e1, hw⟩ := hq
    rw [e1]
    refine ⟨fun _ => un m c σ h hcode K, fun hne => ?_⟩
    rcases hw with ⟨-, h1, -⟩ | ⟨h1, -⟩
    · have := t_rg h.1.1
      unfold muT at hM
      rw [if_pos h1] at hM
      omega
    · exact absurd h1 hne
  | succ M ih =>
    intro m c σ hM h hcode K
    refine w_199_23 σ x1 ⟨_, is_OK h.1.1, fun w2 σ1 hq => ?_⟩
    obtain ⟨e1, hw⟩ := hq
    rw [e1]
    refine ⟨fun _ => un m c σ h hcode K, fun hne => ?_⟩
    have hF : (σ.1 97 13).toInt = 0 := by
      rcases hw with ⟨-, h1, -⟩ | ⟨h1, -⟩
      · exact h1
      · exact absurd h1 hne
    have one : (1 : Int32).toInt = 1 := by decide
    have six : (6 : Int32).toInt = 6 := by decide
    -- behind the test of depth
    have nxt : ∀ σa : Sg, EX s a b σ0 m c σa → ((σa.1 97 13).toInt = 0 → CODE σa a c (m - opn σa m)) → (σa.1 97 12).toInt ≤ 6 → ((σa.1 97 13).toInt = 0 → (σa.1 97 12).toInt ≤ 5) → ((σa.1 97 13).toInt = 0 → σa.1 97 11 = σ.1 97 11) → Rn PRG (3 + 1) 199 46 [(0, .ref 97), (1, .int x1)] [] σa (fun v σ' => v = none ∧ XP s a σ0 σ') := by
      intro σa ha hca o6 o5 ea11
      have hl := ha.len
      obtain ⟨hG, hS, hW, hc, hac, ⟨o, h1, h2, h3, h4⟩, h7, h8, h9⟩ := ha
      have d12 : ((σa.1 97 12) + (1 : Int32)).toInt = ((o + 1 : Nat) : Int) := by
        rw [add_lit (k := 1) h1 (by decide) (by unfold FL; omega) (by unfold FH; omega)]; push_cast; rfl
      have k1 : Gl mdExp σa (s1 σa 97 12 ((σa.1 97 12) + (1 : Int32))) := wrG (κ := 12) (a := 12) (b := 12) (vl := FL) (vh := FH) rfl rfl (Gl.refl hG.1) rfl (Nat.le_refl _) (Nat.le_refl _) (w_lo _) (w_hi _)
      have f11 : (s1 σa 97 12 ((σa.1 97 12) + (1 : Int32))).1 97 11 = σa.1 97 11 := s1_off (by omega)
      have f12 : ((s1 σa 97 12 ((σa.1 97 12) + (1 : Int32))).1 97 12).toInt = ((o + 1 : Nat) : Int) := by rw [s1_on]; exact d12
      have f13 : (s1 σa 97 12 ((σa.1 97 12) + (1 : Int32))).1 97 13 = σa.1 97 13 := s1_off (by omega)
      have f15 : (s1 σa 97 12 ((σa.1 97 12) + (1 : Int32))).1 97 15 = σa.1 97 15 := s1_off (by omega)
      have f37 : (s1 σa 97 12 ((σa.1 97 12) + (1 : Int32))).1 97 37 = σa.1 97 37 := s1_off (by omega)
      have f41 : (s1 σa 97 12 ((σa.1 97 12) + (1 : Int32))).1 97 41 = σa.1 97 41 := s1_off (by omega)
      have f120 : ∀ j, (s1 σa 97 12 ((σa.1 97 12) + (1 : Int32))).1 120 j = σa.1 120 j := fun j => s1_off (by omega)
      have f121 : ∀ j, (s1 σa 97 12 ((σa.1 97 12) + (1 : Int32))).1 121 j = σa.1 121 j := fun j => s1_off (by omega)
      have f122 : ∀ j, (s1 σa 97 12 ((σa.1 97 12) + (1 : Int32))).1 122 j = σa.1 122 j := fun j => s1_off (by omega)
      refine w_199_46 σa x1 ?_
      generalize s1 σa 97 12 ((σa.1 97 12) + (1 : Int32)) = σb at k1 f11 f12 f13 f15 f37 f41 f120 f121 f122 ⊢
      clear d12
      have stb : ST σa σb := ST.of hS.1 f11 f13 f15
      refine ⟨_, goesOn_OK (d := 2) k1.1 stb.1, fun σc hq => ?_⟩
      obtain ⟨g, st, ng⟩ := hq
      have c12 : σc.1 97 12 = σb.1 97 12 := g.get (q := 97) (κ := 12) rfl rfl
      have c37 : σc.1 97 37 = σb.1 97 37 := g.get (q := 97) (κ := 12) rfl rfl
      have c41 : σc.1 97 41 = σb.1 97 41 := g.get (q := 97) (κ := 12) rfl rfl
      have c120 : ∀ j, σc.1 120 j = σa.1 120 j := fun j => by rw [g.get (q := 120) (κ := 76) rfl rfl, f120]
      have c121 : ∀ j, σc.1 121 j = σa.1 121 j := fun j => by rw [g.get (q := 121) (κ := 77) rfl rfl, f121]
      have c122 : ∀ j, σc.1 122 j = σa.1 122 j := fun j => by rw [g.get (q := 122) (κ := 78) rfl rfl, f122]
      have hm41 : (σc.1 97 41).toInt = (m : Int) := by rw [c41, f41]; exact hW.1
      have hcn : (σc.1 97 41).toNatClampNeg = m := cn_of hm41
      refine ⟨inR_ok (by rw [hm41]; omega) (by rw [hm41]; omega), ?_⟩
      rw [hcn]
      have e1 : ((σc.1 97 41) + (1 : Int32)).toInt = ((m + 1 : Nat) : Int) := by
        rw [add_lit (k := 1) hm41 (by decide) (by unfold FL; omega) (by unfold FH; omega)]; push_cast; rfl
      have k3 : Gl mdExp σc (s1 σc 122 m (6 : Int32)) := wrG (κ := 78) (a := 0) (b := 63) (vl := FL) (vh := FH) rfl rfl (Gl.refl g.1) rfl (Nat.zero_le _) (by clear e1; omega) (w_lo _) (w_hi _)
      have k4 := wrG (x := (σc.1 97 41) + (1 : Int32)) (q := 97) (k := 41) (κ := 12) (a := 41) (b := 41) (vl := FL) (vh := FH) rfl rfl k3 rfl (Nat.le_refl _) (Nat.le_refl _) (w_lo _) (w_hi _)
      have d11 : (s1 (s1 σc 122 m (6 : Int32)) 97 41 ((σc.1 97 41) + (1 : Int32))).1 97 11 = σc.1 97 11 := by rw [s1_off (by omega), s1_off (by omega)]
      have d12 : (s1 (s1 σc 122 m (6 : Int32)) 97 41 ((σc.1 97 41) + (1 : Int32))).1 97 12 = σc.1 97 12 := by rw [s1_off (by omega), s1_off (by omega)]
      have d13 : (s1 (s1 σc 122 m (6 : Int32)) 97 41 ((σc.1 97 41) + (1 : Int32))).1 97 13 = σc.1 97 13 := by rw [s1_off (by omega), s1_off (by omega)]
      have d15 : (s1 (s1 σc 122 m (6 : Int32)) 97 41 ((σc.1 97 41) + (1 : Int32))).1 97 15 = σc.1 97 15 := by rw [s1_off (by omega), s1_off (by omega)]
      have d37 : (s1 (s1 σc 122 m (6 : Int32)) 97 41 ((σc.1 97 41) + (1 : Int32))).1 97 37 = σc.1 97 37 := by rw [s1_off (by omega), s1_off (by omega)]
      have d41 : ((s1 (s1 σc 122 m (6 : Int32)) 97 41 ((σc.1 97 41) + (1 : Int32))).1 97 41).toInt = ((m + 1 : Nat) : Int) := by rw [s1_on]; exact e1
      have d120 : ∀ j, (s1 (s1 σc 122 m (6 : Int32)) 97 41 ((σc.1 97 41) + (1 : Int32))).1 120 j = σa.1 120 j := fun j => by rw [s1_off (by omega), s1_off (by omega), c120]
      have d121 : ∀ j, (s1 (s1 σc 122 m (6 : Int32)) 97 41 ((σc.1 97 41) + (1 : Int32))).1 121 j = σa.1 121 j := fun j => by rw [s1_off (by omega), s1_off (by omega), c121]
      have d122 : ∀ j, j < m → (s1 (s1 σc 122 m (6 : Int32)) 97 41 ((σc.1 97 41) + (1 : Int32))).1 122 j = σa.1 122 j := fun j hj => by rw [s1_off (by omega), s1_off (fun e => by have := e.2; omega), c122]
      have d122m : (s1 (s1 σc 122 m (6 : Int32)) 97 41 ((σc.1 97 41) + (1 : Int32))).1 122 m = 6 := by rw [s1_off (by omega), s1_on]
      generalize s1 (s1 σc 122 m (6 : Int32)) 97 41 ((σc.1 97 41) + (1 : Int32)) = σd at k4 d11 d12 d13 d15 d37 d41 d120 d121 d122 d122m ⊢
      clear e1
      have std : ST σc σd := ST.of st.1 d11 d13 d15
      have om : opn σd m = opn σa m := opn_frame (fun j hj => d122 j hj)
      have om1 : opn σd (m + 1) = opn σa m + 1 := by rw [opn_succ, om, d122m, if_pos rfl]
      have ops : m + 1 - opn σd (m + 1) = m - opn σa m := by omega
      have hT := st.2.1
      rw [f11] at hT
      have Fd : (σd.1 97 13).toInt = 0 → (σa.1 97 13).toInt = 0 := fun hh => by rw [d13] at hh; have := st.2.2.1 hh; rw [f13] at this; exact this
      have hE : EX s a b σ0 (m + 1) c σd := by
        refine ⟨((hG.trans k1 rfl).trans g rfl).trans k4 rfl, ((hS.trans stb).trans st).trans std, hW.push d41 d122 d122m (Or.inl rfl) (Or.inl rfl), by rw [d37, c37, f37]; exact hc, hac, ⟨o + 1, by rw [d12, c12]; exact f12, by omega, by rw [om1]; omega, fun hh => ?_⟩, ?_, fun hh => ?_, fun j hj => by rw [d120, d121]; exact h9 j hj⟩
        · have := o5 (Fd hh); omega
        · rw [ops, d11]; omega
        · have := h8 (Fd hh)
          rw [ops, d11]; omega
      have hlt : muT σd < muT σ := muT_lt h.1.1 hF (fun hh => by
        have ea := ea11 (Fd hh)
        rw [d13] at hh
        have := ng hh
        rw [f11, ea] at this
        rw [d11]; omega)
      refine ih (m + 1) c σd (by omega) hE (fun hh => ?_) (fun m2 c2 σ2 a1 a2 a3 => K m2 c2 σ2 a1 a2 (by omega))
      rw [ops]
      exact (hca (Fd hh)).frame (fun j _ _ => ⟨d120 j, d121 j⟩)
    obtain ⟨o, h1, h2, h3, h4⟩ := h.2.2.2.2.2.1
    refine ⟨fun c6 => ⟨_, fail_OK h.1.1 h.2.1.1 (by decide), fun σ4 hq => ?_⟩, fun c6 => ?_⟩
    · obtain ⟨g, st, nf⟩ := hq
      have hE := h.tok g st
      exact nxt σ4 hE (fun hh => absurd hh nf) (by rw [g.get (q := 97) (κ := 12) rfl rfl, c6, six]; omega) (fun hh => absurd hh nf) (fun hh => absurd hh nf)
    · rw [eq_i h1 six] at c6
      have := h4 hF
      exact nxt σ h hcode (by omega) (fun _ => by omega) (fun _ => rfl)
theorem ex_12 {s a b : Nat} {x1 : Int32} {σ0 : Sg} (hs : s ≤ 1) (hx1 : x1.toInt = (b : Int)) : ∀ (M m c : Nat) (σ : Sg), muT σ ≤ M → EX s a b σ0 m c σ → ((σ.1 97 13).toInt = 0 → CODE σ a c (m - opn σ m)) → Rn PRG (3 + 1) 199 12 [(0, .ref 97), (1, .int x1), (2, .int (1 : Int32))] [] σ (fun v σ' => v = none ∧ XP s a σ0 σ') := by
  have stop : ∀ (m c : Nat) (σ : Sg), EX s a b σ0 m c σ → ¬ (σ.1 97 13) = 0 → XP s a σ0 σ := by
    intro m c σ h hF
    have hF : ¬ (σ.1 97 13).toInt = 0 := fun e => hF (zq_i.mpr e)
    obtain ⟨hG, hS, hW, hc, hac, ⟨o, h1, h2, h3, h4⟩, h7, h8, h9⟩ := h
    exact ⟨hG, hS, c, hc, hac, by omega, fun hh => absurd hh hF, ⟨o, h1, h2, fun hh => absurd hh hF⟩, h9, fun hh => absurd hh hF⟩
  intro M
  induction M with
  | zero =>
    intro m c σ hM h hcode
    refine w_199_12 σ x1 1 ⟨fun e => absurd e (by decide), fun _ => ⟨fun c0 => ?_, fun c0 => w_199_272 σ ⟨rfl, stop m c σ h c0⟩⟩⟩
    have := t_rg h.1.1
    unfold muT at hM
    rw [if_pos (zq_i.mp c0)] at hM
    omega
  | succ M ih =>
    intro m c σ hM h hcode
    exact w_199_12 σ x1 1 ⟨fun e => absurd e (by decide), fun _ => ⟨fun _ => ex_23 hs hx1 (muT σ) m c σ (Nat.le_refl _) h hcode (fun m' c' σ' a1 a2 a3 => ih m' c' σ' (by omega) a1 a2), fun c0 => w_199_272 σ ⟨rfl, stop m c σ h c0⟩⟩⟩
theorem expression_OK {s a o : Nat} {σ : Sg} (hs : s ≤ 1) (ht : typed TYP σ) (hF : FV σ) (hc : (σ.1 97 37).toInt = (a : Int)) (h1 : (a : Int) ≤ 420 * (s : Int) + (σ.1 97 11).toInt + 1) (h2 : (σ.1 97 13).toInt = 0 → (a : Int) ≤ 420 * (s : Int) + (σ.1 97 11).toInt) (ho : (σ.1 97 12).toInt = (o : Int)) (o7 : o ≤ 7) (o6 : (σ.1 97 13).toInt = 0 → o ≤ 6) : OkV PRG 4 199 [.ref 97] σ (XP s a σ) := by
  have k1 : Gl mdExp σ (s1 σ 97 41 (0 : Int32)) := wrG (κ := 12) (a := 41) (b := 41) (vl := FL) (vh := FH) rfl rfl (Gl.refl ht) rfl (Nat.le_refl _) (Nat.le_refl _) (w_lo _) (w_hi _)
  have f : ∀ q k, ¬ (q = 97 ∧ k = 41) → (s1 σ 97 41 (0 : Int32)).1 q k = σ.1 q k := fun q k h => s1_off h
  have f41 : ((s1 σ 97 41 (0 : Int32)).1 97 41).toInt = ((0 : Nat) : Int) := by rw [s1_on]; decide
  refine ⟨M_199, rfl, Nat.le_of_ble_eq_true rfl, w_199_0 σ ?_⟩
  generalize s1 σ 97 41 (0 : Int32) = σ1 at k1 f f41 ⊢
  have e11 := f 97 11 (by omega)
  have e12 := f 97 12 (by omega)
  have e13 := f 97 13 (by omega)
  have e15 := f 97 15 (by omega)
  have e37 := f 97 37 (by omega)
  refine ex_12 (b := o) hs ho (muT σ1) 0 a σ1 (Nat.le_refl _) ⟨k1, ST.of hF e11 e13 e15, ⟨f41, fun j hj => absurd hj (by omega)⟩, by rw [e37]; exact hc, Nat.le_refl _, ⟨o, by rw [e12]; exact ho, o7, by show 0 + o = o; omega, by rw [e13]; exact o6⟩, ?_, fun hh => ?_, fun j _ => ⟨f 120 j (by omega), f 121 j (by omega)⟩⟩ (fun _ => ?_)
  · rw [e11, show a + (0 - opn σ1 0) = a by omega]; exact h1
  · rw [e11, show a + (0 - opn σ1 0) = a by omega]; rw [e13] at hh; exact h2 hh
  · rw [show 0 - opn σ1 0 = 0 by omega]; exact CODE.nil
