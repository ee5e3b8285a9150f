/-! what is told: what must hold -/
set_option maxRecDepth 100000 in
theorem w_202_0 {d : Nat} {Q : Option Value → Sg → Prop} (σ : Sg) (h : (inR (σ.1 97 19) 2 = true ∧ (∃ Qc : Sg → Prop, OkV PRG d 192 [.ref 97] σ Qc ∧ ∀ σ1, Qc σ1 → (∃ Qc : Sg → Prop, OkV PRG d 193 [.ref 97, .int (1 : Int32)] σ1 Qc ∧ ∀ σ2, Qc σ2 → Rn PRG (d + 1) 202 34 [(0, .ref 97), (1, .int (((6 : Int32) * (σ.1 97 19)) + (σ.1 109 (σ.1 97 19).toNatClampNeg))), (2, .int (σ1.1 97 11)), (3, .int (0 : Int32))] [] σ2 Q)))) : Rn PRG (d + 1) 202 0 [(0, .ref 97)] [] σ Q := by
  have hM : PRG[202]? = some M_202 := rfl
  refine Rn.seg (pc' := 15) (ls' := [(0, .ref 97)]) (st' := [.int (σ.1 97 19), .ref 109, .int ((6 : Int32) * (σ.1 97 19))]) (σ' := σ) hM 8 rfl ?_
  refine Rn.iald hM rfl rfl h.1 ?_
  refine Rn.seg (pc' := 19) (ls' := [(1, .int (((6 : Int32) * (σ.1 97 19)) + (σ.1 109 (σ.1 97 19).toNatClampNeg))), (0, .ref 97)]) (st' := [.ref 97]) (σ' := σ) hM 3 rfl ?_
  obtain ⟨Qc, hq, h⟩ := h.2
  refine Rn.cV hM rfl rfl (by decide) hq (fun σ1 hw => ?_)
  replace h := h σ1 hw
  refine Rn.seg (pc' := 29) (ls' := [(2, .int (σ1.1 97 11)), (1, .int (((6 : Int32) * (σ.1 97 19)) + (σ.1 109 (σ.1 97 19).toNatClampNeg))), (0, .ref 97)]) (st' := [.int (1 : Int32), .ref 97]) (σ' := σ1) hM 5 rfl ?_
  obtain ⟨Qc, hq, h⟩ := h
  refine Rn.cV hM rfl rfl (by decide) hq (fun σ2 hw => ?_)
  replace h := h σ2 hw
  refine Rn.seg (pc' := 34) (ls' := [(3, .int (0 : Int32)), (2, .int (σ1.1 97 11)), (1, .int (((6 : Int32) * (σ.1 97 19)) + (σ.1 109 (σ.1 97 19).toNatClampNeg))), (0, .ref 97)]) (st' := []) (σ' := σ2) hM 2 rfl ?_
  exact Rn.sub h (subL_cons rfl (subL_cons rfl (subL_cons rfl (subL_cons rfl subL_nil)))) (show ndL _ from (by decide : List.Nodup ([0, 1, 2, 3] : List Nat)))
set_option maxRecDepth 100000 in
theorem w_202_34 {d : Nat} {Q : Option Value → Sg → Prop} (σ : Sg) (x1 x2 x3 : Int32) (h : (((σ.1 97 20) ≤ x3 → Rn PRG (d + 1) 202 77 [(0, .ref 97), (1, .int x1), (2, .int x2)] [] σ Q) ∧ (¬ (σ.1 97 20) ≤ x3 → (((σ.1 97 13) = 0 → (inR x3 6 = true ∧ (inR x2 403 = true ∧ (((lg_cmp (σ.2 105 x3.toNatClampNeg) (σ.2 103 x2.toNatClampNeg)) = 0 → (∃ Qc : Sg → Prop, OkV PRG d 191 [.ref 97, .int (3 : Int32), .int x2] σ Qc ∧ ∀ σ1, Qc σ1 → Rn PRG (d + 1) 202 71 [(0, .ref 97), (1, .int x1), (2, .int x2), (3, .int x3)] [] σ1 Q)) ∧ (¬ (lg_cmp (σ.2 105 x3.toNatClampNeg) (σ.2 103 x2.toNatClampNeg)) = 0 → Rn PRG (d + 1) 202 71 [(0, .ref 97), (1, .int x1), (2, .int x2), (3, .int x3)] [] σ Q))))) ∧ (¬ (σ.1 97 13) = 0 → Rn PRG (d + 1) 202 77 [(0, .ref 97), (1, .int x1), (2, .int x2)] [] σ Q))))) : Rn PRG (d + 1) 202 34 [(0, .ref 97), (1, .int x1), (2, .int x2), (3, .int x3)] [] σ Q := by
  have hM : PRG[202]? = some M_202 := rfl
  refine Rn.br (c := (σ.1 97 20) ≤ x3) (a := 77) (b := 42) (ls' := [(0, .ref 97), (1, .int x1), (2, .int x2), (3, .int x3)]) (st' := []) (σ' := σ) hM 4 rfl (fun c => ?_) (fun c => ?_)
  · replace h := h.1 c
    refine Rn.seg (pc' := 77) (ls' := [(0, .ref 97), (1, .int x1), (2, .int x2), (3, .int x3)]) (st' := []) (σ' := σ) hM 0 rfl ?_
    exact Rn.sub h (subL_cons rfl (subL_cons rfl (subL_cons rfl subL_nil))) (show ndL _ from (by decide : List.Nodup ([0, 1, 2] : List Nat)))
  · replace h := h.2 c
    refine Rn.brN (c := (σ.1 97 13) = 0) (a := 77) (b := 49) (ls' := [(0, .ref 97), (1, .int x1), (2, .int x2), (3, .int x3)]) (st' := []) (σ' := σ) hM 3 rfl (fun c => ?_) (fun c => ?_)
    · replace h := h.2 c
      refine Rn.seg (pc' := 77) (ls' := [(0, .ref 97), (1, .int x1), (2, .int x2), (3, .int x3)]) (st' := []) (σ' := σ) hM 0 rfl ?_
      exact Rn.sub h (subL_cons rfl (subL_cons rfl (subL_cons rfl subL_nil))) (show ndL _ from (by decide : List.Nodup ([0, 1, 2] : List Nat)))
    · replace h := h.1 c
      refine Rn.seg (pc' := 54) (ls' := [(0, .ref 97), (1, .int x1), (2, .int x2), (3, .int x3)]) (st' := [.int x3, .ref 105]) (σ' := σ) hM 3 rfl ?_
      refine Rn.lald hM rfl rfl h.1 ?_
      refine Rn.seg (pc' := 60) (ls' := [(0, .ref 97), (1, .int x1), (2, .int x2), (3, .int x3)]) (st' := [.int x2, .ref 103, .long (σ.2 105 x3.toNatClampNeg)]) (σ' := σ) hM 3 rfl ?_
      refine Rn.lald hM rfl rfl h.2.1 ?_
      refine Rn.brN (c := (lg_cmp (σ.2 105 x3.toNatClampNeg) (σ.2 103 x2.toNatClampNeg)) = 0) (a := 71) (b := 65) (ls' := [(0, .ref 97), (1, .int x1), (2, .int x2), (3, .int x3)]) (st' := []) (σ' := σ) hM 2 rfl (fun c => ?_) (fun c => ?_)
      · replace h := h.2.2.2 c
        refine Rn.seg (pc' := 71) (ls' := [(0, .ref 97), (1, .int x1), (2, .int x2), (3, .int x3)]) (st' := []) (σ' := σ) hM 0 rfl ?_
        exact Rn.sub h (subL_cons rfl (subL_cons rfl (subL_cons rfl (subL_cons rfl subL_nil)))) (show ndL _ from (by decide : List.Nodup ([0, 1, 2, 3] : List Nat)))
      · replace h := h.2.2.1 c
        refine Rn.seg (pc' := 68) (ls' := [(0, .ref 97), (1, .int x1), (2, .int x2), (3, .int x3)]) (st' := [.int x2, .int (3 : Int32), .ref 97]) (σ' := σ) hM 3 rfl ?_
        obtain ⟨Qc, hq, h⟩ := h
        refine Rn.cV hM rfl rfl (by decide) hq (fun σ1 hw => ?_)
        replace h := h σ1 hw
        refine Rn.seg (pc' := 71) (ls' := [(0, .ref 97), (1, .int x1), (2, .int x2), (3, .int x3)]) (st' := []) (σ' := σ1) hM 0 rfl ?_
        exact Rn.sub h (subL_cons rfl (subL_cons rfl (subL_cons rfl (subL_cons rfl subL_nil)))) (show ndL _ from (by decide : List.Nodup ([0, 1, 2, 3] : List Nat)))
set_option maxRecDepth 100000 in
theorem w_202_77 {d : Nat} {Q : Option Value → Sg → Prop} (σ : Sg) (x1 x2 : Int32) (h : (∃ Qc : Int32 → Sg → Prop, OkI PRG d 194 [.ref 97, .int (0 : Int32), .int (2 : Int32)] σ Qc ∧ ∀ w2 σ1, Qc w2 σ1 → (inR x1 12 = true ∧ ((0 < (σ1.1 97 13) → Rn PRG (d + 1) 202 124 [(0, .ref 97), (1, .int x1), (2, .int x2)] [] (s1 σ1 110 x1.toNatClampNeg w2) Q) ∧ (¬ 0 < (σ1.1 97 13) → (inR (σ1.1 97 11) 403 = true ∧ (((σ1.1 100 (σ1.1 97 11).toNatClampNeg) < (23 : Int32) → Rn PRG (d + 1) 202 124 [(0, .ref 97), (1, .int x1), (2, .int x2)] [] (s1 σ1 110 x1.toNatClampNeg w2) Q) ∧ (¬ (σ1.1 100 (σ1.1 97 11).toNatClampNeg) < (23 : Int32) → (inR (σ1.1 97 11) 403 = true ∧ (((σ1.1 100 (σ1.1 97 11).toNatClampNeg) ≤ (25 : Int32) → Rn PRG (d + 1) 202 129 [(0, .ref 97), (1, .int x1), (2, .int x2)] [] (s1 σ1 110 x1.toNatClampNeg w2) Q) ∧ (¬ (σ1.1 100 (σ1.1 97 11).toNatClampNeg) ≤ (25 : Int32) → Rn PRG (d + 1) 202 124 [(0, .ref 97), (1, .int x1), (2, .int x2)] [] (s1 σ1 110 x1.toNatClampNeg w2) Q))))))))))) : Rn PRG (d + 1) 202 77 [(0, .ref 97), (1, .int x1), (2, .int x2)] [] σ Q := by
  have hM : PRG[202]? = some M_202 := rfl
  refine Rn.seg (pc' := 85) (ls' := [(0, .ref 97), (1, .int x1), (2, .int x2)]) (st' := [.int (2 : Int32), .int (0 : Int32), .ref 97, .int x1, .ref 110]) (σ' := σ) hM 6 rfl ?_
  obtain ⟨Qc, hq, h⟩ := h
  refine Rn.cI hM rfl rfl (by decide) hq (fun w2 σ1 hw => ?_)
  replace h := h w2 σ1 hw
  refine Rn.seg (pc' := 88) (ls' := [(0, .ref 97), (1, .int x1), (2, .int x2)]) (st' := [.int w2, .int x1, .ref 110]) (σ' := σ1) hM 0 rfl ?_
  refine Rn.iast hM rfl rfl h.1 ?_
  refine Rn.br (c := 0 < (σ1.1 97 13)) (a := 124) (b := 96) (ls' := [(0, .ref 97), (1, .int x1), (2, .int x2)]) (st' := []) (σ' := (s1 σ1 110 x1.toNatClampNeg w2)) hM 3 rfl (fun c => ?_) (fun c => ?_)
  · replace h := h.2.1 c
    refine Rn.seg (pc' := 124) (ls' := [(0, .ref 97), (1, .int x1), (2, .int x2)]) (st' := []) (σ' := (s1 σ1 110 x1.toNatClampNeg w2)) hM 0 rfl ?_
    exact Rn.sub h (subL_cons rfl (subL_cons rfl (subL_cons rfl subL_nil))) (show ndL _ from (by decide : List.Nodup ([0, 1, 2] : List Nat)))
  · replace h := h.2.2 c
    refine Rn.seg (pc' := 104) (ls' := [(0, .ref 97), (1, .int x1), (2, .int x2)]) (st' := [.int (σ1.1 97 11), .ref 100]) (σ' := (s1 σ1 110 x1.toNatClampNeg w2)) hM 4 rfl ?_
    refine Rn.iald hM rfl rfl h.1 ?_
    refine Rn.br (c := (σ1.1 100 (σ1.1 97 11).toNatClampNeg) < (23 : Int32)) (a := 124) (b := 110) (ls' := [(0, .ref 97), (1, .int x1), (2, .int x2)]) (st' := []) (σ' := (s1 σ1 110 x1.toNatClampNeg w2)) hM 2 rfl (fun c => ?_) (fun c => ?_)
    · replace h := h.2.1 c
      refine Rn.seg (pc' := 124) (ls' := [(0, .ref 97), (1, .int x1), (2, .int x2)]) (st' := []) (σ' := (s1 σ1 110 x1.toNatClampNeg w2)) hM 0 rfl ?_
      exact Rn.sub h (subL_cons rfl (subL_cons rfl (subL_cons rfl subL_nil))) (show ndL _ from (by decide : List.Nodup ([0, 1, 2] : List Nat)))
    · replace h := h.2.2 c
      refine Rn.seg (pc' := 118) (ls' := [(0, .ref 97), (1, .int x1), (2, .int x2)]) (st' := [.int (σ1.1 97 11), .ref 100]) (σ' := (s1 σ1 110 x1.toNatClampNeg w2)) hM 4 rfl ?_
      refine Rn.iald hM rfl rfl h.1 ?_
      refine Rn.br (c := (σ1.1 100 (σ1.1 97 11).toNatClampNeg) ≤ (25 : Int32)) (a := 129) (b := 124) (ls' := [(0, .ref 97), (1, .int x1), (2, .int x2)]) (st' := []) (σ' := (s1 σ1 110 x1.toNatClampNeg w2)) hM 2 rfl (fun c => ?_) (fun c => ?_)
      · replace h := h.2.1 c
        refine Rn.seg (pc' := 129) (ls' := [(0, .ref 97), (1, .int x1), (2, .int x2)]) (st' := []) (σ' := (s1 σ1 110 x1.toNatClampNeg w2)) hM 0 rfl ?_
        exact Rn.sub h (subL_cons rfl (subL_cons rfl (subL_cons rfl subL_nil))) (show ndL _ from (by decide : List.Nodup ([0, 1, 2] : List Nat)))
      · replace h := h.2.2 c
        refine Rn.seg (pc' := 124) (ls' := [(0, .ref 97), (1, .int x1), (2, .int x2)]) (st' := []) (σ' := (s1 σ1 110 x1.toNatClampNeg w2)) hM 0 rfl ?_
        exact Rn.sub h (subL_cons rfl (subL_cons rfl (subL_cons rfl subL_nil))) (show ndL _ from (by decide : List.Nodup ([0, 1, 2] : List Nat)))
set_option maxRecDepth 100000 in
theorem w_202_71 {d : Nat} {Q : Option Value → Sg → Prop} (σ : Sg) (x1 x2 x3 : Int32) (h : Rn PRG (d + 1) 202 34 [(0, .ref 97), (1, .int x1), (2, .int x2), (3, .int (x3 + (1 : Int32)))] [] σ Q) : Rn PRG (d + 1) 202 71 [(0, .ref 97), (1, .int x1), (2, .int x2), (3, .int x3)] [] σ Q := by
  have hM : PRG[202]? = some M_202 := rfl
  refine Rn.seg (pc' := 34) (ls' := [(3, .int (x3 + (1 : Int32))), (0, .ref 97), (1, .int x1), (2, .int x2)]) (st' := []) (σ' := σ) hM 2 rfl ?_
  exact Rn.sub h (subL_cons rfl (subL_cons rfl (subL_cons rfl (subL_cons rfl subL_nil)))) (show ndL _ from (by decide : List.Nodup ([0, 1, 2, 3] : List Nat)))
set_option maxRecDepth 100000 in
theorem w_202_124 {d : Nat} {Q : Option Value → Sg → Prop} (σ : Sg) (x1 x2 : Int32) (h : (∃ Qc : Sg → Prop, OkV PRG d 190 [.ref 97, .int (1 : Int32)] σ Qc ∧ ∀ σ1, Qc σ1 → Rn PRG (d + 1) 202 129 [(0, .ref 97), (1, .int x1), (2, .int x2)] [] σ1 Q)) : Rn PRG (d + 1) 202 124 [(0, .ref 97), (1, .int x1), (2, .int x2)] [] σ Q := by
  have hM : PRG[202]? = some M_202 := rfl
  refine Rn.seg (pc' := 126) (ls' := [(0, .ref 97), (1, .int x1), (2, .int x2)]) (st' := [.int (1 : Int32), .ref 97]) (σ' := σ) hM 2 rfl ?_
  obtain ⟨Qc, hq, h⟩ := h
  refine Rn.cV hM rfl rfl (by decide) hq (fun σ1 hw => ?_)
  replace h := h σ1 hw
  refine Rn.seg (pc' := 129) (ls' := [(0, .ref 97), (1, .int x1), (2, .int x2)]) (st' := []) (σ' := σ1) hM 0 rfl ?_
  exact Rn.sub h (subL_cons rfl (subL_cons rfl (subL_cons rfl subL_nil))) (show ndL _ from (by decide : List.Nodup ([0, 1, 2] : List Nat)))
set_option maxRecDepth 100000 in
theorem w_202_129 {d : Nat} {Q : Option Value → Sg → Prop} (σ : Sg) (x1 x2 : Int32) (h : (((σ.1 97 13) ≤ 0 → (inR (σ.1 97 11) 403 = true ∧ (inR x1 12 = true ∧ (∃ Qc : Sg → Prop, OkV PRG d 192 [.ref 97] (s1 σ 111 x1.toNatClampNeg ((σ.1 100 (σ.1 97 11).toNatClampNeg) - (23 : Int32))) Qc ∧ ∀ σ1, Qc σ1 → (inR ((2 : Int32) * x1) 24 = true ∧ (∃ Qc : Int32 → Sg → Prop, OkI PRG d 189 [.ref 97, .int (26 : Int32)] (s1 σ1 112 ((2 : Int32) * x1).toNatClampNeg (σ1.1 97 30)) Qc ∧ ∀ w3 σ2, Qc w3 σ2 → ((w3 = 0 → Rn PRG (d + 1) 202 184 [(0, .ref 97), (1, .int x1), (2, .int x2)] [] σ2 Q) ∧ (¬ w3 = 0 → (∃ Qc : Sg → Prop, OkV PRG d 201 [.ref 97] σ2 Qc ∧ ∀ σ4, Qc σ4 → Rn PRG (d + 1) 202 184 [(0, .ref 97), (1, .int x1), (2, .int x2)] [] σ4 Q))))))))) ∧ (¬ (σ.1 97 13) ≤ 0 → Q none σ))) : Rn PRG (d + 1) 202 129 [(0, .ref 97), (1, .int x1), (2, .int x2)] [] σ Q := by
  have hM : PRG[202]? = some M_202 := rfl
  refine Rn.br (c := (σ.1 97 13) ≤ 0) (a := 137) (b := 136) (ls' := [(0, .ref 97), (1, .int x1), (2, .int x2)]) (st' := []) (σ' := σ) hM 3 rfl (fun c => ?_) (fun c => ?_)
  · replace h := h.1 c
    refine Rn.seg (pc' := 150) (ls' := [(0, .ref 97), (1, .int x1), (2, .int x2)]) (st' := [.int (σ.1 97 11), .ref 100, .int x1, .ref 111]) (σ' := σ) hM 7 rfl ?_
    refine Rn.iald hM rfl rfl h.1 ?_
    refine Rn.seg (pc' := 154) (ls' := [(0, .ref 97), (1, .int x1), (2, .int x2)]) (st' := [.int ((σ.1 100 (σ.1 97 11).toNatClampNeg) - (23 : Int32)), .int x1, .ref 111]) (σ' := σ) hM 2 rfl ?_
    refine Rn.iast hM rfl rfl h.2.1 ?_
    refine Rn.seg (pc' := 156) (ls' := [(0, .ref 97), (1, .int x1), (2, .int x2)]) (st' := [.ref 97]) (σ' := (s1 σ 111 x1.toNatClampNeg ((σ.1 100 (σ.1 97 11).toNatClampNeg) - (23 : Int32)))) hM 1 rfl ?_
    obtain ⟨Qc, hq, h⟩ := h.2.2
    refine Rn.cV hM rfl rfl (by decide) hq (fun σ1 hw => ?_)
    replace h := h σ1 hw
    refine Rn.seg (pc' := 170) (ls' := [(0, .ref 97), (1, .int x1), (2, .int x2)]) (st' := [.int (σ1.1 97 30), .int ((2 : Int32) * x1), .ref 112]) (σ' := σ1) hM 7 rfl ?_
    refine Rn.iast hM rfl rfl h.1 ?_
    refine Rn.seg (pc' := 174) (ls' := [(0, .ref 97), (1, .int x1), (2, .int x2)]) (st' := [.int (26 : Int32), .ref 97]) (σ' := (s1 σ1 112 ((2 : Int32) * x1).toNatClampNeg (σ1.1 97 30))) hM 2 rfl ?_
    obtain ⟨Qc, hq, h⟩ := h.2
    refine Rn.cI hM rfl rfl (by decide) hq (fun w3 σ2 hw => ?_)
    replace h := h w3 σ2 hw
    refine Rn.br (c := w3 = 0) (a := 184) (b := 180) (ls' := [(0, .ref 97), (1, .int x1), (2, .int x2)]) (st' := []) (σ' := σ2) hM 1 rfl (fun c => ?_) (fun c => ?_)
    · replace h := h.1 c
      refine Rn.seg (pc' := 184) (ls' := [(0, .ref 97), (1, .int x1), (2, .int x2)]) (st' := []) (σ' := σ2) hM 0 rfl ?_
      exact Rn.sub h (subL_cons rfl (subL_cons rfl (subL_cons rfl subL_nil))) (show ndL _ from (by decide : List.Nodup ([0, 1, 2] : List Nat)))
    · replace h := h.2 c
      refine Rn.seg (pc' := 181) (ls' := [(0, .ref 97), (1, .int x1), (2, .int x2)]) (st' := [.ref 97]) (σ' := σ2) hM 1 rfl ?_
      obtain ⟨Qc, hq, h⟩ := h
      refine Rn.cV hM rfl rfl (by decide) hq (fun σ4 hw => ?_)
      replace h := h σ4 hw
      refine Rn.seg (pc' := 184) (ls' := [(0, .ref 97), (1, .int x1), (2, .int x2)]) (st' := []) (σ' := σ4) hM 0 rfl ?_
      exact Rn.sub h (subL_cons rfl (subL_cons rfl (subL_cons rfl subL_nil))) (show ndL _ from (by decide : List.Nodup ([0, 1, 2] : List Nat)))
  · replace h := h.2 c
    refine Rn.seg (pc' := 136) (ls' := [(0, .ref 97), (1, .int x1), (2, .int x2)]) (st' := []) (σ' := σ) hM 0 rfl ?_
    exact Rn.ret hM rfl rfl h
set_option maxRecDepth 100000 in
theorem w_202_184 {d : Nat} {Q : Option Value → Sg → Prop} (σ : Sg) (x1 x2 : Int32) (h : (inR ((2 : Int32) * x1) 24 = true ∧ (inR (((2 : Int32) * x1) + (1 : Int32)) 24 = true ∧ (∃ Qc : Int32 → Sg → Prop, OkI PRG d 189 [.ref 97, .int (27 : Int32)] (s1 (s1 σ 113 ((2 : Int32) * x1).toNatClampNeg (σ.1 97 30)) 112 (((2 : Int32) * x1) + (1 : Int32)).toNatClampNeg (σ.1 97 30)) Qc ∧ ∀ w2 σ1, Qc w2 σ1 → ((w2 = 0 → (∃ Qc : Sg → Prop, OkV PRG d 190 [.ref 97, .int (1 : Int32)] σ1 Qc ∧ ∀ σ3, Qc σ3 → Rn PRG (d + 1) 202 224 [(0, .ref 97), (1, .int x1), (2, .int x2)] [] σ3 Q)) ∧ (¬ w2 = 0 → Rn PRG (d + 1) 202 224 [(0, .ref 97), (1, .int x1), (2, .int x2)] [] σ1 Q)))))) : Rn PRG (d + 1) 202 184 [(0, .ref 97), (1, .int x1), (2, .int x2)] [] σ Q := by
  have hM : PRG[202]? = some M_202 := rfl
  refine Rn.seg (pc' := 195) (ls' := [(0, .ref 97), (1, .int x1), (2, .int x2)]) (st' := [.int (σ.1 97 30), .int ((2 : Int32) * x1), .ref 113]) (σ' := σ) hM 7 rfl ?_
  refine Rn.iast hM rfl rfl h.1 ?_
  refine Rn.seg (pc' := 209) (ls' := [(0, .ref 97), (1, .int x1), (2, .int x2)]) (st' := [.int (σ.1 97 30), .int (((2 : Int32) * x1) + (1 : Int32)), .ref 112]) (σ' := (s1 σ 113 ((2 : Int32) * x1).toNatClampNeg (σ.1 97 30))) hM 9 rfl ?_
  refine Rn.iast hM rfl rfl h.2.1 ?_
  refine Rn.seg (pc' := 213) (ls' := [(0, .ref 97), (1, .int x1), (2, .int x2)]) (st' := [.int (27 : Int32), .ref 97]) (σ' := (s1 (s1 σ 113 ((2 : Int32) * x1).toNatClampNeg (σ.1 97 30)) 112 (((2 : Int32) * x1) + (1 : Int32)).toNatClampNeg (σ.1 97 30))) hM 2 rfl ?_
  obtain ⟨Qc, hq, h⟩ := h.2.2
  refine Rn.cI hM rfl rfl (by decide) hq (fun w2 σ1 hw => ?_)
  replace h := h w2 σ1 hw
  refine Rn.brN (c := w2 = 0) (a := 224) (b := 219) (ls' := [(0, .ref 97), (1, .int x1), (2, .int x2)]) (st' := []) (σ' := σ1) hM 1 rfl (fun c => ?_) (fun c => ?_)
  · replace h := h.2 c
    refine Rn.seg (pc' := 224) (ls' := [(0, .ref 97), (1, .int x1), (2, .int x2)]) (st' := []) (σ' := σ1) hM 0 rfl ?_
    exact Rn.sub h (subL_cons rfl (subL_cons rfl (subL_cons rfl subL_nil))) (show ndL _ from (by decide : List.Nodup ([0, 1, 2] : List Nat)))
  · replace h := h.1 c
    refine Rn.seg (pc' := 221) (ls' := [(0, .ref 97), (1, .int x1), (2, .int x2)]) (st' := [.int (1 : Int32), .ref 97]) (σ' := σ1) hM 2 rfl ?_
    obtain ⟨Qc, hq, h⟩ := h
    refine Rn.cV hM rfl rfl (by decide) hq (fun σ3 hw => ?_)
    replace h := h σ3 hw
    refine Rn.seg (pc' := 224) (ls' := [(0, .ref 97), (1, .int x1), (2, .int x2)]) (st' := []) (σ' := σ3) hM 0 rfl ?_
    exact Rn.sub h (subL_cons rfl (subL_cons rfl (subL_cons rfl subL_nil))) (show ndL _ from (by decide : List.Nodup ([0, 1, 2] : List Nat)))
set_option maxRecDepth 100000 in
theorem w_202_224 {d : Nat} {Q : Option Value → Sg → Prop} (σ : Sg) (x1 x2 : Int32) (h : (((σ.1 97 13) = 0 → (∃ Qc : Sg → Prop, OkV PRG d 201 [.ref 97] σ Qc ∧ ∀ σ1, Qc σ1 → Rn PRG (d + 1) 202 235 [(0, .ref 97), (1, .int x1), (2, .int x2)] [] σ1 Q)) ∧ (¬ (σ.1 97 13) = 0 → Rn PRG (d + 1) 202 235 [(0, .ref 97), (1, .int x1), (2, .int x2)] [] σ Q))) : Rn PRG (d + 1) 202 224 [(0, .ref 97), (1, .int x1), (2, .int x2)] [] σ Q := by
  have hM : PRG[202]? = some M_202 := rfl
  refine Rn.brN (c := (σ.1 97 13) = 0) (a := 235) (b := 231) (ls' := [(0, .ref 97), (1, .int x1), (2, .int x2)]) (st' := []) (σ' := σ) hM 3 rfl (fun c => ?_) (fun c => ?_)
  · replace h := h.2 c
    refine Rn.seg (pc' := 235) (ls' := [(0, .ref 97), (1, .int x1), (2, .int x2)]) (st' := []) (σ' := σ) hM 0 rfl ?_
    exact Rn.sub h (subL_cons rfl (subL_cons rfl (subL_cons rfl subL_nil))) (show ndL _ from (by decide : List.Nodup ([0, 1, 2] : List Nat)))
  · replace h := h.1 c
    refine Rn.seg (pc' := 232) (ls' := [(0, .ref 97), (1, .int x1), (2, .int x2)]) (st' := [.ref 97]) (σ' := σ) hM 1 rfl ?_
    obtain ⟨Qc, hq, h⟩ := h
    refine Rn.cV hM rfl rfl (by decide) hq (fun σ1 hw => ?_)
    replace h := h σ1 hw
    refine Rn.seg (pc' := 235) (ls' := [(0, .ref 97), (1, .int x1), (2, .int x2)]) (st' := []) (σ' := σ1) hM 0 rfl ?_
    exact Rn.sub h (subL_cons rfl (subL_cons rfl (subL_cons rfl subL_nil))) (show ndL _ from (by decide : List.Nodup ([0, 1, 2] : List Nat)))
set_option maxRecDepth 100000 in
theorem w_202_235 {d : Nat} {Q : Option Value → Sg → Prop} (σ : Sg) (x1 x2 : Int32) (h : (inR (((2 : Int32) * x1) + (1 : Int32)) 24 = true ∧ (∃ Qc : Sg → Prop, OkV PRG d 193 [.ref 97, .int (4 : Int32)] (s1 σ 113 (((2 : Int32) * x1) + (1 : Int32)).toNatClampNeg (σ.1 97 30)) Qc ∧ ∀ σ1, Qc σ1 → (((σ1.1 97 13) ≤ 0 → (inR x2 403 = true ∧ (inR (σ1.1 97 20) 6 = true ∧ (inR (σ1.1 97 19) 2 = true ∧ (inR (σ1.1 97 19) 2 = true ∧ Q none (s1 (s1 (s2 σ1 105 (σ1.1 97 20).toNatClampNeg (σ1.2 103 x2.toNatClampNeg)) 97 20 ((σ1.1 97 20) + (1 : Int32))) 109 (σ1.1 97 19).toNatClampNeg ((σ1.1 109 (σ1.1 97 19).toNatClampNeg) + (1 : Int32)))))))) ∧ (¬ (σ1.1 97 13) ≤ 0 → Q none σ1))))) : Rn PRG (d + 1) 202 235 [(0, .ref 97), (1, .int x1), (2, .int x2)] [] σ Q := by
  have hM : PRG[202]? = some M_202 := rfl
  refine Rn.seg (pc' := 248) (ls' := [(0, .ref 97), (1, .int x1), (2, .int x2)]) (st' := [.int (σ.1 97 30), .int (((2 : Int32) * x1) + (1 : Int32)), .ref 113]) (σ' := σ) hM 9 rfl ?_
  refine Rn.iast hM rfl rfl h.1 ?_
  refine Rn.seg (pc' := 251) (ls' := [(0, .ref 97), (1, .int x1), (2, .int x2)]) (st' := [.int (4 : Int32), .ref 97]) (σ' := (s1 σ 113 (((2 : Int32) * x1) + (1 : Int32)).toNatClampNeg (σ.1 97 30))) hM 2 rfl ?_
  obtain ⟨Qc, hq, h⟩ := h.2
  refine Rn.cV hM rfl rfl (by decide) hq (fun σ1 hw => ?_)
  replace h := h σ1 hw
  refine Rn.br (c := (σ1.1 97 13) ≤ 0) (a := 262) (b := 261) (ls' := [(0, .ref 97), (1, .int x1), (2, .int x2)]) (st' := []) (σ' := σ1) hM 3 rfl (fun c => ?_) (fun c => ?_)
  · replace h := h.1 c
    refine Rn.seg (pc' := 275) (ls' := [(0, .ref 97), (1, .int x1), (2, .int x2)]) (st' := [.int x2, .ref 103, .int (σ1.1 97 20), .ref 105]) (σ' := σ1) hM 7 rfl ?_
    refine Rn.lald hM rfl rfl h.1 ?_
    refine Rn.seg (pc' := 276) (ls' := [(0, .ref 97), (1, .int x1), (2, .int x2)]) (st' := [.long (σ1.2 103 x2.toNatClampNeg), .int (σ1.1 97 20), .ref 105]) (σ' := σ1) hM 0 rfl ?_
    refine Rn.last hM rfl rfl h.2.1 ?_
    refine Rn.seg (pc' := 296) (ls' := [(0, .ref 97), (1, .int x1), (2, .int x2)]) (st' := [.int (σ1.1 97 19), .ref 109, .int (σ1.1 97 19), .ref 109]) (σ' := (s1 (s2 σ1 105 (σ1.1 97 20).toNatClampNeg (σ1.2 103 x2.toNatClampNeg)) 97 20 ((σ1.1 97 20) + (1 : Int32)))) hM 11 rfl ?_
    refine Rn.iald hM rfl rfl h.2.2.1 ?_
    refine Rn.seg (pc' := 299) (ls' := [(0, .ref 97), (1, .int x1), (2, .int x2)]) (st' := [.int ((σ1.1 109 (σ1.1 97 19).toNatClampNeg) + (1 : Int32)), .int (σ1.1 97 19), .ref 109]) (σ' := (s1 (s2 σ1 105 (σ1.1 97 20).toNatClampNeg (σ1.2 103 x2.toNatClampNeg)) 97 20 ((σ1.1 97 20) + (1 : Int32)))) hM 2 rfl ?_
    refine Rn.iast hM rfl rfl h.2.2.2.1 ?_
    refine Rn.seg (pc' := 300) (ls' := [(0, .ref 97), (1, .int x1), (2, .int x2)]) (st' := []) (σ' := (s1 (s1 (s2 σ1 105 (σ1.1 97 20).toNatClampNeg (σ1.2 103 x2.toNatClampNeg)) 97 20 ((σ1.1 97 20) + (1 : Int32))) 109 (σ1.1 97 19).toNatClampNeg ((σ1.1 109 (σ1.1 97 19).toNatClampNeg) + (1 : Int32)))) hM 0 rfl ?_
    exact Rn.ret hM rfl rfl h.2.2.2.2
  · replace h := h.2 c
    refine Rn.seg (pc' := 261) (ls' := [(0, .ref 97), (1, .int x1), (2, .int x2)]) (st' := []) (σ' := σ1) hM 0 rfl ?_
    exact Rn.ret hM rfl rfl h
set_option maxRecDepth 100000 in
theorem w_203_0 {d : Nat} {Q : Option Value → Sg → Prop} (σ : Sg) (h : (inR (σ.1 97 11) 403 = true ∧ (((σ.1 100 (σ.1 97 11).toNatClampNeg).toInt < 20 ∨ 22 < (σ.1 100 (σ.1 97 11).toNatClampNeg).toInt → (∃ Qc : Sg → Prop, OkV PRG d 190 [.ref 97, .int (1 : Int32)] σ Qc ∧ ∀ σ1, Qc σ1 → Rn PRG (d + 1) 203 213 [] [] σ1 Q)) ∧ ((σ.1 100 (σ.1 97 11).toNatClampNeg).toInt = 20 → (∃ Qc : Sg → Prop, OkV PRG d 192 [.ref 97] σ Qc ∧ ∀ σ2, Qc σ2 → (∃ Qc : Int32 → Sg → Prop, OkI PRG d 194 [.ref 97, .int (1 : Int32), .int (4 : Int32)] σ2 Qc ∧ ∀ w4 σ3, Qc w4 σ3 → (∃ Qc : Int32 → Sg → Prop, OkI PRG d 194 [.ref 97, .int (1 : Int32), .int (16 : Int32)] σ3 Qc ∧ ∀ w6 σ5, Qc w6 σ5 → (((σ5.1 97 13) = 0 → (∃ Qc : Int32 → Sg → Prop, OkI PRG d 195 [.int w4, .int (1 : Int32), .int (4 : Int32)] σ5 Qc ∧ ∀ w8 σ7, Qc w8 σ7 → ((w8 = 0 → Rn PRG (d + 1) 203 90 [(0, .ref 97), (1, .int w4), (2, .int (σ3.1 97 11)), (3, .int w6)] [] σ7 Q) ∧ (¬ w8 = 0 → (∃ Qc : Int32 → Sg → Prop, OkI PRG d 195 [.int w6, .int (1 : Int32), .int (16 : Int32)] σ7 Qc ∧ ∀ w10 σ9, Qc w10 σ9 → ((w10 = 0 → Rn PRG (d + 1) 203 90 [(0, .ref 97), (1, .int w4), (2, .int (σ3.1 97 11)), (3, .int w6)] [] σ9 Q) ∧ (¬ w10 = 0 → (((16 : Int32) < (w4 * w6) → Rn PRG (d + 1) 203 114 [(0, .ref 97), (1, .int w4), (2, .int (σ3.1 97 11)), (3, .int w6)] [] σ9 Q) ∧ (¬ (16 : Int32) < (w4 * w6) → ((((w4 * w6) - (w4 * w6) / (4 : Int32) * (4 : Int32)) = 0 → Rn PRG (d + 1) 203 120 [(0, .ref 97), (1, .int w4), (3, .int w6)] [] σ9 Q) ∧ (¬ ((w4 * w6) - (w4 * w6) / (4 : Int32) * (4 : Int32)) = 0 → Rn PRG (d + 1) 203 114 [(0, .ref 97), (1, .int w4), (2, .int (σ3.1 97 11)), (3, .int w6)] [] σ9 Q))))))))))) ∧ (¬ (σ5.1 97 13) = 0 → Rn PRG (d + 1) 203 90 [(0, .ref 97), (1, .int w4), (2, .int (σ3.1 97 11)), (3, .int w6)] [] σ5 Q)))))) ∧ ((σ.1 100 (σ.1 97 11).toNatClampNeg).toInt = 21 → (∃ Qc : Sg → Prop, OkV PRG d 192 [.ref 97] σ Qc ∧ ∀ σ11, Qc σ11 → (∃ Qc : Int32 → Sg → Prop, OkI PRG d 194 [.ref 97, .int (0 : Int32), .int (3 : Int32)] σ11 Qc ∧ ∀ w13 σ12, Qc w13 σ12 → (inR (σ11.1 97 19) 2 = true ∧ (∃ Qc : Sg → Prop, OkV PRG d 193 [.ref 97, .int (4 : Int32)] (s1 σ12 108 (σ11.1 97 19).toNatClampNeg w13) Qc ∧ ∀ σ14, Qc σ14 → Rn PRG (d + 1) 203 213 [] [] σ14 Q))))) ∧ ((σ.1 100 (σ.1 97 11).toNatClampNeg).toInt = 22 → (inR (σ.1 97 19) 2 = true ∧ (((σ.1 109 (σ.1 97 19).toNatClampNeg) = (6 : Int32) → (∃ Qc : Sg → Prop, OkV PRG d 190 [.ref 97, .int (2 : Int32)] σ Qc ∧ ∀ σ15, Qc σ15 → Rn PRG (d + 1) 203 194 [(0, .ref 97)] [] σ15 Q)) ∧ (¬ (σ.1 109 (σ.1 97 19).toNatClampNeg) = (6 : Int32) → Rn PRG (d + 1) 203 194 [(0, .ref 97)] [] σ Q))))))) : Rn PRG (d + 1) 203 0 [(0, .ref 97)] [] σ Q := by
  have hM : PRG[203]? = some M_203 := rfl
  refine Rn.seg (pc' := 8) (ls' := [(0, .ref 97)]) (st' := [.int (σ.1 97 11), .ref 100]) (σ' := σ) hM 4 rfl ?_
  refine Rn.iald hM rfl rfl h.1 ?_
  refine Rn.seg (pc' := 9) (ls' := [(0, .ref 97)]) (st' := [.int (σ.1 100 (σ.1 97 11).toNatClampNeg)]) (σ' := σ) hM 0 rfl ?_
  rcases tsw_cases (σ.1 100 (σ.1 97 11).toNatClampNeg) 20 22 (by decide) with c | ⟨j, hj, c⟩
  · replace h := h.2.1 c
    refine Rn.tswD (pc' := 208) hM rfl c (by decide) rfl ?_
    refine Rn.seg (pc' := 210) (ls' := [(0, .ref 97)]) (st' := [.int (1 : Int32), .ref 97]) (σ' := σ) hM 2 rfl ?_
    obtain ⟨Qc, hq, h⟩ := h
    refine Rn.cV hM rfl rfl (by decide) hq (fun σ1 hw => ?_)
    replace h := h σ1 hw
    refine Rn.seg (pc' := 213) (ls' := [(0, .ref 97)]) (st' := []) (σ' := σ1) hM 0 rfl ?_
    exact Rn.sub h subL_nil (show ndL _ from (by decide : List.Nodup ([] : List Nat)))
  · match j, hj with
    | 0, _ =>
      have c : (σ.1 100 (σ.1 97 11).toNatClampNeg).toInt = 20 := by simpa using c
      replace h := h.2.2.1 c
      refine Rn.tswK (pc' := 36) (j := 0) hM rfl (by simpa using c) (by decide) (by decide) rfl rfl ?_
      refine Rn.seg (pc' := 37) (ls' := [(0, .ref 97)]) (st' := [.ref 97]) (σ' := σ) hM 1 rfl ?_
      obtain ⟨Qc, hq, h⟩ := h
      refine Rn.cV hM rfl rfl (by decide) hq (fun σ2 hw => ?_)
      replace h := h σ2 hw
      refine Rn.seg (pc' := 43) (ls' := [(0, .ref 97)]) (st' := [.int (4 : Int32), .int (1 : Int32), .ref 97]) (σ' := σ2) hM 3 rfl ?_
      obtain ⟨Qc, hq, h⟩ := h
      refine Rn.cI hM rfl rfl (by decide) hq (fun w4 σ3 hw => ?_)
      replace h := h w4 σ3 hw
      refine Rn.seg (pc' := 56) (ls' := [(2, .int (σ3.1 97 11)), (1, .int w4), (0, .ref 97)]) (st' := [.int (16 : Int32), .int (1 : Int32), .ref 97]) (σ' := σ3) hM 7 rfl ?_
      obtain ⟨Qc, hq, h⟩ := h
      refine Rn.cI hM rfl rfl (by decide) hq (fun w6 σ5 hw => ?_)
      replace h := h w6 σ5 hw
      refine Rn.brN (c := (σ5.1 97 13) = 0) (a := 90) (b := 67) (ls' := [(3, .int w6), (2, .int (σ3.1 97 11)), (1, .int w4), (0, .ref 97)]) (st' := []) (σ' := σ5) hM 4 rfl (fun c => ?_) (fun c => ?_)
      · replace h := h.2 c
        refine Rn.seg (pc' := 90) (ls' := [(3, .int w6), (2, .int (σ3.1 97 11)), (1, .int w4), (0, .ref 97)]) (st' := []) (σ' := σ5) hM 0 rfl ?_
        exact Rn.sub h (subL_cons rfl (subL_cons rfl (subL_cons rfl (subL_cons rfl subL_nil)))) (show ndL _ from (by decide : List.Nodup ([0, 1, 2, 3] : List Nat)))
      · replace h := h.1 c
        refine Rn.seg (pc' := 70) (ls' := [(3, .int w6), (2, .int (σ3.1 97 11)), (1, .int w4), (0, .ref 97)]) (st' := [.int (4 : Int32), .int (1 : Int32), .int w4]) (σ' := σ5) hM 3 rfl ?_
        obtain ⟨Qc, hq, h⟩ := h
        refine Rn.cI hM rfl rfl (by decide) hq (fun w8 σ7 hw => ?_)
        replace h := h w8 σ7 hw
        refine Rn.br (c := w8 = 0) (a := 90) (b := 76) (ls' := [(3, .int w6), (2, .int (σ3.1 97 11)), (1, .int w4), (0, .ref 97)]) (st' := []) (σ' := σ7) hM 1 rfl (fun c => ?_) (fun c => ?_)
        · replace h := h.1 c
          refine Rn.seg (pc' := 90) (ls' := [(3, .int w6), (2, .int (σ3.1 97 11)), (1, .int w4), (0, .ref 97)]) (st' := []) (σ' := σ7) hM 0 rfl ?_
          exact Rn.sub h (subL_cons rfl (subL_cons rfl (subL_cons rfl (subL_cons rfl subL_nil)))) (show ndL _ from (by decide : List.Nodup ([0, 1, 2, 3] : List Nat)))
        · replace h := h.2 c
          refine Rn.seg (pc' := 80) (ls' := [(3, .int w6), (2, .int (σ3.1 97 11)), (1, .int w4), (0, .ref 97)]) (st' := [.int (16 : Int32), .int (1 : Int32), .int w6]) (σ' := σ7) hM 3 rfl ?_
          obtain ⟨Qc, hq, h⟩ := h
          refine Rn.cI hM rfl rfl (by decide) hq (fun w10 σ9 hw => ?_)
          replace h := h w10 σ9 hw
          refine Rn.br (c := w10 = 0) (a := 90) (b := 86) (ls' := [(3, .int w6), (2, .int (σ3.1 97 11)), (1, .int w4), (0, .ref 97)]) (st' := []) (σ' := σ9) hM 1 rfl (fun c => ?_) (fun c => ?_)
          · replace h := h.1 c
            refine Rn.seg (pc' := 90) (ls' := [(3, .int w6), (2, .int (σ3.1 97 11)), (1, .int w4), (0, .ref 97)]) (st' := []) (σ' := σ9) hM 0 rfl ?_
            exact Rn.sub h (subL_cons rfl (subL_cons rfl (subL_cons rfl (subL_cons rfl subL_nil)))) (show ndL _ from (by decide : List.Nodup ([0, 1, 2, 3] : List Nat)))
          · replace h := h.2 c
            refine Rn.br (c := (16 : Int32) < (w4 * w6)) (a := 114) (b := 106) (ls' := [(4, .int (1 : Int32)), (3, .int w6), (2, .int (σ3.1 97 11)), (1, .int w4), (0, .ref 97)]) (st' := []) (σ' := σ9) hM 10 rfl (fun c => ?_) (fun c => ?_)
            · replace h := h.1 c
              refine Rn.seg (pc' := 114) (ls' := [(4, .int (1 : Int32)), (3, .int w6), (2, .int (σ3.1 97 11)), (1, .int w4), (0, .ref 97)]) (st' := []) (σ' := σ9) hM 0 rfl ?_
              exact Rn.sub h (subL_cons rfl (subL_cons rfl (subL_cons rfl (subL_cons rfl subL_nil)))) (show ndL _ from (by decide : List.Nodup ([0, 1, 2, 3] : List Nat)))
            · replace h := h.2 c
              refine Rn.br (c := ((w4 * w6) - (w4 * w6) / (4 : Int32) * (4 : Int32)) = 0) (a := 120) (b := 114) (ls' := [(4, .int (1 : Int32)), (3, .int w6), (2, .int (σ3.1 97 11)), (1, .int w4), (0, .ref 97)]) (st' := []) (σ' := σ9) hM 6 rfl (fun c => ?_) (fun c => ?_)
              · replace h := h.1 c
                refine Rn.seg (pc' := 120) (ls' := [(4, .int (1 : Int32)), (3, .int w6), (2, .int (σ3.1 97 11)), (1, .int w4), (0, .ref 97)]) (st' := []) (σ' := σ9) hM 0 rfl ?_
                exact Rn.sub h (subL_cons rfl (subL_cons rfl (subL_cons rfl subL_nil))) (show ndL _ from (by decide : List.Nodup ([0, 1, 3] : List Nat)))
              · replace h := h.2 c
                refine Rn.seg (pc' := 114) (ls' := [(4, .int (1 : Int32)), (3, .int w6), (2, .int (σ3.1 97 11)), (1, .int w4), (0, .ref 97)]) (st' := []) (σ' := σ9) hM 0 rfl ?_
                exact Rn.sub h (subL_cons rfl (subL_cons rfl (subL_cons rfl (subL_cons rfl subL_nil)))) (show ndL _ from (by decide : List.Nodup ([0, 1, 2, 3] : List Nat)))
    | 1, _ =>
      have c : (σ.1 100 (σ.1 97 11).toNatClampNeg).toInt = 21 := by simpa using c
      replace h := h.2.2.2.1 c
      refine Rn.tswK (pc' := 148) (j := 1) hM rfl (by simpa using c) (by decide) (by decide) rfl rfl ?_
      refine Rn.seg (pc' := 149) (ls' := [(0, .ref 97)]) (st' := [.ref 97]) (σ' := σ) hM 1 rfl ?_
      obtain ⟨Qc, hq, h⟩ := h
      refine Rn.cV hM rfl rfl (by decide) hq (fun σ11 hw => ?_)
      replace h := h σ11 hw
      refine Rn.seg (pc' := 163) (ls' := [(0, .ref 97)]) (st' := [.int (3 : Int32), .int (0 : Int32), .ref 97, .int (σ11.1 97 19), .ref 108]) (σ' := σ11) hM 7 rfl ?_
      obtain ⟨Qc, hq, h⟩ := h
      refine Rn.cI hM rfl rfl (by decide) hq (fun w13 σ12 hw => ?_)
      replace h := h w13 σ12 hw
      refine Rn.seg (pc' := 166) (ls' := [(0, .ref 97)]) (st' := [.int w13, .int (σ11.1 97 19), .ref 108]) (σ' := σ12) hM 0 rfl ?_
      refine Rn.iast hM rfl rfl h.1 ?_
      refine Rn.seg (pc' := 169) (ls' := [(0, .ref 97)]) (st' := [.int (4 : Int32), .ref 97]) (σ' := (s1 σ12 108 (σ11.1 97 19).toNatClampNeg w13)) hM 2 rfl ?_
      obtain ⟨Qc, hq, h⟩ := h.2
      refine Rn.cV hM rfl rfl (by decide) hq (fun σ14 hw => ?_)
      replace h := h σ14 hw
      refine Rn.seg (pc' := 213) (ls' := [(0, .ref 97)]) (st' := []) (σ' := σ14) hM 1 rfl ?_
      exact Rn.sub h subL_nil (show ndL _ from (by decide : List.Nodup ([] : List Nat)))
    | 2, _ =>
      have c : (σ.1 100 (σ.1 97 11).toNatClampNeg).toInt = 22 := by simpa using c
      replace h := h.2.2.2.2 c
      refine Rn.tswK (pc' := 175) (j := 2) hM rfl (by simpa using c) (by decide) (by decide) rfl rfl ?_
      refine Rn.seg (pc' := 183) (ls' := [(0, .ref 97)]) (st' := [.int (σ.1 97 19), .ref 109]) (σ' := σ) hM 4 rfl ?_
      refine Rn.iald hM rfl rfl h.1 ?_
      refine Rn.brN (c := (σ.1 109 (σ.1 97 19).toNatClampNeg) = (6 : Int32)) (a := 194) (b := 189) (ls' := [(0, .ref 97)]) (st' := []) (σ' := σ) hM 2 rfl (fun c => ?_) (fun c => ?_)
      · replace h := h.2.2 c
        refine Rn.seg (pc' := 194) (ls' := [(0, .ref 97)]) (st' := []) (σ' := σ) hM 0 rfl ?_
        exact Rn.sub h (subL_cons rfl subL_nil) (show ndL _ from (by decide : List.Nodup ([0] : List Nat)))
      · replace h := h.2.1 c
        refine Rn.seg (pc' := 191) (ls' := [(0, .ref 97)]) (st' := [.int (2 : Int32), .ref 97]) (σ' := σ) hM 2 rfl ?_
        obtain ⟨Qc, hq, h⟩ := h
        refine Rn.cV hM rfl rfl (by decide) hq (fun σ15 hw => ?_)
        replace h := h σ15 hw
        refine Rn.seg (pc' := 194) (ls' := [(0, .ref 97)]) (st' := []) (σ' := σ15) hM 0 rfl ?_
        exact Rn.sub h (subL_cons rfl subL_nil) (show ndL _ from (by decide : List.Nodup ([0] : List Nat)))
    | n + 3, hj => exact absurd hj (by omega)
set_option maxRecDepth 100000 in
theorem w_203_213 {d : Nat} {Q : Option Value → Sg → Prop} (σ : Sg) (h : Q none σ) : Rn PRG (d + 1) 203 213 [] [] σ Q := by
  have hM : PRG[203]? = some M_203 := rfl
  refine Rn.seg (pc' := 213) (ls' := []) (st' := []) (σ' := σ) hM 0 rfl ?_
  exact Rn.ret hM rfl rfl h
set_option maxRecDepth 100000 in
theorem w_203_90 {d : Nat} {Q : Option Value → Sg → Prop} (σ : Sg) (x1 x2 x3 : Int32) (h : Rn PRG (d + 1) 203 120 [(0, .ref 97), (1, .int x1), (3, .int x3)] [] σ Q) : Rn PRG (d + 1) 203 90 [(0, .ref 97), (1, .int x1), (2, .int x2), (3, .int x3)] [] σ Q := by
  have hM : PRG[203]? = some M_203 := rfl
  refine Rn.seg (pc' := 120) (ls' := [(4, .int (0 : Int32)), (0, .ref 97), (1, .int x1), (2, .int x2), (3, .int x3)]) (st' := []) (σ' := σ) hM 4 rfl ?_
  exact Rn.sub h (subL_cons rfl (subL_cons rfl (subL_cons rfl subL_nil))) (show ndL _ from (by decide : List.Nodup ([0, 1, 3] : List Nat)))
set_option maxRecDepth 100000 in
theorem w_203_114 {d : Nat} {Q : Option Value → Sg → Prop} (σ : Sg) (x1 x2 x3 : Int32) (h : (∃ Qc : Sg → Prop, OkV PRG d 191 [.ref 97, .int (5 : Int32), .int x2] σ Qc ∧ ∀ σ1, Qc σ1 → Rn PRG (d + 1) 203 120 [(0, .ref 97), (1, .int x1), (3, .int x3)] [] σ1 Q)) : Rn PRG (d + 1) 203 114 [(0, .ref 97), (1, .int x1), (2, .int x2), (3, .int x3)] [] σ Q := by
  have hM : PRG[203]? = some M_203 := rfl
  refine Rn.seg (pc' := 117) (ls' := [(0, .ref 97), (1, .int x1), (2, .int x2), (3, .int x3)]) (st' := [.int x2, .int (5 : Int32), .ref 97]) (σ' := σ) hM 3 rfl ?_
  obtain ⟨Qc, hq, h⟩ := h
  refine Rn.cV hM rfl rfl (by decide) hq (fun σ1 hw => ?_)
  replace h := h σ1 hw
  refine Rn.seg (pc' := 120) (ls' := [(0, .ref 97), (1, .int x1), (2, .int x2), (3, .int x3)]) (st' := []) (σ' := σ1) hM 0 rfl ?_
  exact Rn.sub h (subL_cons rfl (subL_cons rfl (subL_cons rfl subL_nil))) (show ndL _ from (by decide : List.Nodup ([0, 1, 3] : List Nat)))
set_option maxRecDepth 100000 in
theorem w_203_120 {d : Nat} {Q : Option Value → Sg → Prop} (σ : Sg) (x1 x3 : Int32) (h : (∃ Qc : Sg → Prop, OkV PRG d 193 [.ref 97, .int (4 : Int32)] σ Qc ∧ ∀ σ1, Qc σ1 → (inR (σ1.1 97 19) 2 = true ∧ (inR (σ1.1 97 19) 2 = true ∧ Rn PRG (d + 1) 203 213 [] [] (s1 (s1 σ1 106 (σ1.1 97 19).toNatClampNeg x1) 107 (σ1.1 97 19).toNatClampNeg x3) Q)))) : Rn PRG (d + 1) 203 120 [(0, .ref 97), (1, .int x1), (3, .int x3)] [] σ Q := by
  have hM : PRG[203]? = some M_203 := rfl
  refine Rn.seg (pc' := 122) (ls' := [(0, .ref 97), (1, .int x1), (3, .int x3)]) (st' := [.int (4 : Int32), .ref 97]) (σ' := σ) hM 2 rfl ?_
  obtain ⟨Qc, hq, h⟩ := h
  refine Rn.cV hM rfl rfl (by decide) hq (fun σ1 hw => ?_)
  replace h := h σ1 hw
  refine Rn.seg (pc' := 134) (ls' := [(0, .ref 97), (1, .int x1), (3, .int x3)]) (st' := [.int x1, .int (σ1.1 97 19), .ref 106]) (σ' := σ1) hM 5 rfl ?_
  refine Rn.iast hM rfl rfl h.1 ?_
  refine Rn.seg (pc' := 144) (ls' := [(0, .ref 97), (1, .int x1), (3, .int x3)]) (st' := [.int x3, .int (σ1.1 97 19), .ref 107]) (σ' := (s1 σ1 106 (σ1.1 97 19).toNatClampNeg x1)) hM 5 rfl ?_
  refine Rn.iast hM rfl rfl h.2.1 ?_
  refine Rn.seg (pc' := 213) (ls' := [(0, .ref 97), (1, .int x1), (3, .int x3)]) (st' := []) (σ' := (s1 (s1 σ1 106 (σ1.1 97 19).toNatClampNeg x1) 107 (σ1.1 97 19).toNatClampNeg x3)) hM 1 rfl ?_
  exact Rn.sub h.2.2 subL_nil (show ndL _ from (by decide : List.Nodup ([] : List Nat)))
set_option maxRecDepth 100000 in
theorem w_203_194 {d : Nat} {Q : Option Value → Sg → Prop} (σ : Sg) (h : (((σ.1 97 13) = 0 → (∃ Qc : Sg → Prop, OkV PRG d 202 [.ref 97] σ Qc ∧ ∀ σ1, Qc σ1 → Rn PRG (d + 1) 203 213 [] [] σ1 Q)) ∧ (¬ (σ.1 97 13) = 0 → Rn PRG (d + 1) 203 213 [] [] σ Q))) : Rn PRG (d + 1) 203 194 [(0, .ref 97)] [] σ Q := by
  have hM : PRG[203]? = some M_203 := rfl
  refine Rn.brN (c := (σ.1 97 13) = 0) (a := 213) (b := 201) (ls' := [(0, .ref 97)]) (st' := []) (σ' := σ) hM 3 rfl (fun c => ?_) (fun c => ?_)
  · replace h := h.2 c
    refine Rn.seg (pc' := 213) (ls' := [(0, .ref 97)]) (st' := []) (σ' := σ) hM 0 rfl ?_
    exact Rn.sub h subL_nil (show ndL _ from (by decide : List.Nodup ([] : List Nat)))
  · replace h := h.1 c
    refine Rn.seg (pc' := 202) (ls' := [(0, .ref 97)]) (st' := [.ref 97]) (σ' := σ) hM 1 rfl ?_
    obtain ⟨Qc, hq, h⟩ := h
    refine Rn.cV hM rfl rfl (by decide) hq (fun σ1 hw => ?_)
    replace h := h σ1 hw
    refine Rn.seg (pc' := 213) (ls' := [(0, .ref 97)]) (st' := []) (σ' := σ1) hM 1 rfl ?_
    exact Rn.sub h subL_nil (show ndL _ from (by decide : List.Nodup ([] : List Nat)))
/-! what is told -/
def mdTell : List (Nat × Nat × Nat) := [(12, 11, 16), (12, 20, 20), (12, 30, 30), (12, 37, 37), (12, 41, 41), (62, 0, 1), (63, 0, 1), (64, 0, 1), (65, 0, 1), (66, 0, 11), (67, 0, 11), (68, 0, 23), (69, 0, 23), (70, 0, 299), (71, 0, 299), (72, 0, 299), (73, 0, 299), (74, 0, 299), (75, 0, 299), (76, 0, 839), (77, 0, 839), (78, 0, 63)]
/-- a rule of side s: its literals lie ahead of l, their codes ahead of c -/
def RUb (s : Nat) (σ : Sg) (r c l : Nat) : Prop := 150 * (s : Int) ≤ (σ.1 112 r).toInt ∧ (σ.1 113 r).toInt ≤ (l : Int) ∧ ∀ j : Nat, (σ.1 112 r).toInt ≤ (j : Int) → (j : Int) < (σ.1 113 r).toInt → LTc σ j c
/-- n customs are told on side s -/
def NW (s n c l : Nat) (σ : Sg) : Prop := (σ.1 109 s).toInt = (n : Int) ∧ (σ.1 97 20).toInt = (n : Int) ∧ n ≤ 6 ∧ ∀ k r, k < n → (r = 12 * s + 2 * k ∨ r = 12 * s + 2 * k + 1) → RUb s σ r c l
/-- the pack of side s is well formed, if nothing is at fault -/
def PKO (s : Nat) (σ : Sg) : Prop := (σ.1 97 13).toInt = 0 → (σ.1 97 15).toInt = 0 → ∃ N : Nat, (N = 4 ∨ N = 8 ∨ N = 12 ∨ N = 16) ∧ 1 ≤ (σ.1 106 s).toInt ∧ (σ.1 106 s).toInt ≤ 4 ∧ 1 ≤ (σ.1 107 s).toInt ∧ (σ.1 107 s).toInt ≤ 16 ∧ (σ.1 106 s).toInt * (σ.1 107 s).toInt = (N : Int)
/-- the other side is as it was -/
def LVs (s : Nat) (σ0 σ : Sg) : Prop := (∀ j, ¬ (420 * s ≤ j ∧ j < 420 * s + 402) → σ.1 120 j = σ0.1 120 j ∧ σ.1 121 j = σ0.1 121 j) ∧ (∀ j, ¬ (150 * s ≤ j ∧ j < 150 * s + 134) → σ.1 117 j = σ0.1 117 j ∧ σ.1 118 j = σ0.1 118 j ∧ σ.1 119 j = σ0.1 119 j) ∧ (∀ r, ¬ (12 * s ≤ r ∧ r < 12 * s + 12) → σ.1 112 r = σ0.1 112 r ∧ σ.1 113 r = σ0.1 113 r) ∧ ∀ k, ¬ k = s → σ.1 106 k = σ0.1 106 k ∧ σ.1 107 k = σ0.1 107 k ∧ σ.1 109 k = σ0.1 109 k
theorem LVs.refl {s : Nat} {σ : Sg} : LVs s σ σ := ⟨fun _ _ => ⟨rfl, rfl⟩, fun _ _ => ⟨rfl, rfl, rfl⟩, fun _ _ => ⟨rfl, rfl⟩, fun _ _ => ⟨rfl, rfl, rfl⟩⟩
theorem LVs.trans {s : Nat} {σ0 σ1 σ2 : Sg} (h1 : LVs s σ0 σ1) (h2 : LVs s σ1 σ2) : LVs s σ0 σ2 := by
  refine ⟨fun j hj => ?_, fun j hj => ?_, fun j hj => ?_, fun j hj => ?_⟩
  · rw [(h2.1 j hj).1, (h2.1 j hj).2]; exact h1.1 j hj
  · rw [(h2.2.1 j hj).1, (h2.2.1 j hj).2.1, (h2.2.1 j hj).2.2]; exact h1.2.1 j hj
  · rw [(h2.2.2.1 j hj).1, (h2.2.2.1 j hj).2]; exact h1.2.2.1 j hj
  · rw [(h2.2.2.2 j hj).1, (h2.2.2.2 j hj).2.1, (h2.2.2.2 j hj).2.2]; exact h1.2.2.2 j hj
/-- while a text is told: n customs, c codes, l literals -/
def TM (s n c l : Nat) (σ0 σ : Sg) : Prop := Gl mdTell σ0 σ ∧ ST σ0 σ ∧ LVs s σ0 σ ∧ (σ.1 97 19).toInt = (s : Int) ∧ PB s c l σ ∧ NW s n c l σ ∧ PKO s σ
theorem RUb.frame {s r c l c' l' : Nat} {σ σ' : Sg} (h : RUb s σ r c l) (hc : c ≤ c') (hl : l ≤ l') (e112 : σ'.1 112 r = σ.1 112 r) (e113 : σ'.1 113 r = σ.1 113 r) (hf : FR2 s c l σ σ') : RUb s σ' r c' l' := by
  obtain ⟨h1, h2, h3⟩ := h
  refine ⟨by rw [e112]; exact h1, by rw [e113]; omega, fun j j1 j2 => ?_⟩
  rw [e112] at j1
  rw [e113] at j2
  have e := hf.2 j (Or.inl (by omega))
  exact (h3 j j1 j2).frame hc e.1 e.2.1 e.2.2 (fun x hx => hf.1 x (Or.inl hx))
theorem TM.lit {s n c l : Nat} {σ0 σ σ' : Sg} (h : TM s n c l σ0 σ) (hq : LQ s c l σ σ') : ∃ c' l', TM s n c' l' σ0 σ' ∧ c ≤ c' ∧ l ≤ l' ∧ (∀ j, l ≤ j → j < l' → LTc σ' j c') ∧ FR2 s c l σ σ' := by
  obtain ⟨g0, st0, lv, hs, hp, ⟨n1, n2, n3, n4⟩, pk⟩ := h
  obtain ⟨g, st, c', l', p1, p2, p3, p4, p5⟩ := hq
  have e19 : σ'.1 97 19 = σ.1 97 19 := g.get (q := 97) (κ := 12) rfl rfl
  have e20 : σ'.1 97 20 = σ.1 97 20 := g.get (q := 97) (κ := 12) rfl rfl
  have e106 : ∀ k, σ'.1 106 k = σ.1 106 k := fun k => g.get (q := 106) (κ := 62) rfl rfl
  have e107 : ∀ k, σ'.1 107 k = σ.1 107 k := fun k => g.get (q := 107) (κ := 63) rfl rfl
  have e109 : ∀ k, σ'.1 109 k = σ.1 109 k := fun k => g.get (q := 109) (κ := 65) rfl rfl
  have e112 : ∀ k, σ'.1 112 k = σ.1 112 k := fun k => g.get (q := 112) (κ := 68) rfl rfl
  have e113 : ∀ k, σ'.1 113 k = σ.1 113 k := fun k => g.get (q := 113) (κ := 69) rfl rfl
  have hc0 := hp.2.2.1
  have hl0 := hp.2.2.2.2.2.2.2.1
  refine ⟨c', l', ⟨g0.trans g rfl, st0.trans st, lv.trans ⟨fun j hj => p4.1 j (by omega), fun j hj => p4.2 j (by omega), fun r _ => ⟨e112 r, e113 r⟩, fun k _ => ⟨e106 k, e107 k, e109 k⟩⟩, by rw [e19]; exact hs, p1, ⟨by rw [e109]; exact n1, by rw [e20]; exact n2, n3, fun k r hk hr => (n4 k r hk hr).frame p2 p3 (e112 r) (e113 r) p4⟩, fun hF hw => ?_⟩, p2, p3, p5, p4⟩
  have hF0 := st.2.2.1 hF
  have hw0 : (σ.1 97 15).toInt = 0 := Classical.byContradiction (fun hne => st.2.2.2 hne hw)
  rw [e106, e107]
  exact pk hF0 hw0
theorem TM.tok {s n c l : Nat} {σ0 σ σ' : Sg} (h : TM s n c l σ0 σ) (g : Gl mdTok σ σ') (st : ST σ σ') : TM s n c l σ0 σ' := by
  obtain ⟨g0, st0, lv, hs, hp, ⟨n1, n2, n3, n4⟩, pk⟩ := h
  have fr : FR2 s c l σ σ' := FR2.tok g
  have e112 : ∀ k, σ'.1 112 k = σ.1 112 k := fun k => g.get (q := 112) (κ := 68) rfl rfl
  have e113 : ∀ k, σ'.1 113 k = σ.1 113 k := fun k => g.get (q := 113) (κ := 69) rfl rfl
  have e106 : ∀ k, σ'.1 106 k = σ.1 106 k := fun k => g.get (q := 106) (κ := 62) rfl rfl
  have e107 : ∀ k, σ'.1 107 k = σ.1 107 k := fun k => g.get (q := 107) (κ := 63) rfl rfl
  have e109 : ∀ k, σ'.1 109 k = σ.1 109 k := fun k => g.get (q := 109) (κ := 65) rfl rfl
  refine ⟨g0.trans g rfl, st0.trans st, lv.trans ⟨fun j _ => ⟨g.get (q := 120) (κ := 76) rfl rfl, g.get (q := 121) (κ := 77) rfl rfl⟩, fun j _ => ⟨g.get (q := 117) (κ := 73) rfl rfl, g.get (q := 118) (κ := 74) rfl rfl, g.get (q := 119) (κ := 75) rfl rfl⟩, fun r _ => ⟨e112 r, e113 r⟩, fun k _ => ⟨e106 k, e107 k, e109 k⟩⟩, by rw [g.get (q := 97) (κ := 12) rfl rfl]; exact hs, hp.tok g st, ⟨by rw [e109]; exact n1, by rw [g.get (q := 97) (κ := 12) rfl rfl]; exact n2, n3, fun k r hk hr => (n4 k r hk hr).frame (Nat.le_refl _) (Nat.le_refl _) (e112 r) (e113 r) fr⟩, fun hF hw => ?_⟩
  have hF0 := st.2.2.1 hF
  have hw0 : (σ.1 97 15).toInt = 0 := Classical.byContradiction (fun hne => st.2.2.2 hne hw)
  rw [e106, e107]
  exact pk hF0 hw0
def mdCust : List (Nat × Nat × Nat) := [(66, 0, 11), (67, 0, 11), (68, 0, 23), (69, 0, 23)]
/-- writes of the custom that is being told -/
theorem TM.own {s n c l : Nat} {σ0 σ σ' : Sg} (hn : n ≤ 5) (h : TM s n c l σ0 σ) (g : Gl mdCust σ σ') (hf : ∀ r, ¬ (r = 12 * s + 2 * n ∨ r = 12 * s + 2 * n + 1) → σ'.1 112 r = σ.1 112 r ∧ σ'.1 113 r = σ.1 113 r) : TM s n c l σ0 σ' := by
  obtain ⟨g0, st0, lv, hs, hp, ⟨n1, n2, n3, n4⟩, pk⟩ := h
  have e97 : ∀ k, σ'.1 97 k = σ.1 97 k := fun k => g.get (q := 97) (κ := 12) rfl rfl
  have e106 : ∀ k, σ'.1 106 k = σ.1 106 k := fun k => g.get (q := 106) (κ := 62) rfl rfl
  have e107 : ∀ k, σ'.1 107 k = σ.1 107 k := fun k => g.get (q := 107) (κ := 63) rfl rfl
  have e109 : ∀ k, σ'.1 109 k = σ.1 109 k := fun k => g.get (q := 109) (κ := 65) rfl rfl
  have st : ST σ σ' := ST.of st0.1 (e97 11) (e97 13) (e97 15)
  have fr : FR2 s c l σ σ' := ⟨fun j _ => ⟨g.get (q := 120) (κ := 76) rfl rfl, g.get (q := 121) (κ := 77) rfl rfl⟩, fun j _ => ⟨g.get (q := 117) (κ := 73) rfl rfl, g.get (q := 118) (κ := 74) rfl rfl, g.get (q := 119) (κ := 75) rfl rfl⟩⟩
  refine ⟨g0.trans g rfl, st0.trans st, lv.trans ⟨fun j _ => ⟨g.get (q := 120) (κ := 76) rfl rfl, g.get (q := 121) (κ := 77) rfl rfl⟩, fun j _ => ⟨g.get (q := 117) (κ := 73) rfl rfl, g.get (q := 118) (κ := 74) rfl rfl, g.get (q := 119) (κ := 75) rfl rfl⟩, fun r hr => hf r (by omega), fun k _ => ⟨e106 k, e107 k, e109 k⟩⟩, by rw [e97]; exact hs, hp.step st (e97 12) (e97 30) (e97 37), ⟨by rw [e109]; exact n1, by rw [e97]; exact n2, n3, fun k r hk hr => (n4 k r hk hr).frame (Nat.le_refl _) (Nat.le_refl _) (hf r (by omega)).1 (hf r (by omega)).2 fr⟩, ?_⟩
  unfold PKO
  rw [e97, e97, e106, e107]
  exact pk
/-- behind what is told -/
def TX (s : Nat) (σ0 σ : Sg) : Prop := ∃ n c l, TM s n c l σ0 σ
theorem c_ix {x1 : Int32} {s n : Nat} (h1 : x1.toInt = ((6 * s + n : Nat) : Int)) (hs : s ≤ 1) (hn : n ≤ 5) : ((2 : Int32) * x1).toInt = ((12 * s + 2 * n : Nat) : Int) ∧ (((2 : Int32) * x1) + (1 : Int32)).toInt = ((12 * s + 2 * n + 1 : Nat) : Int) := by
  have e1 : ((2 : Int32) * x1).toInt = ((12 * s + 2 * n : Nat) : Int) := by
    rw [mul_lit (k := 2) (by decide) (by unfold FL; omega) (by unfold FH; omega), h1]; push_cast; omega
  refine ⟨e1, ?_⟩
  rw [add_lit (k := 1) e1 (by decide) (by unfold FL; omega) (by unfold FH; omega)]; push_cast; omega
section Custom
variable {s n : Nat} {x1 x2 : Int32} {σ0 : Sg}
theorem cust_235 {c l l1 : Nat} {σ : Sg} (hs : s ≤ 1) (hn : n ≤ 5) (h1 : x1.toInt = ((6 * s + n : Nat) : Int)) (h2 : 0 ≤ x2.toInt ∧ x2.toInt ≤ 402) (h : TM s n c l σ0 σ) (hl1 : 150 * s ≤ l1 ∧ l1 ≤ l) (ha : RUb s σ (12 * s + 2 * n) c l) (hb : (σ.1 112 (12 * s + 2 * n + 1)).toInt = (l1 : Int)) (hL : ∀ j, l1 ≤ j → j < l → LTc σ j c) : Rn PRG (6 + 1) 202 235 [(0, .ref 97), (1, .int x1), (2, .int x2)] [] σ (fun v σ' => v = none ∧ TX s σ0 σ') := by
  obtain ⟨e1, e2⟩ := c_ix h1 hs hn
  have hin2 : inR (((2 : Int32) * x1) + (1 : Int32)) 24 = true := inR_ok (by rw [e2]; omega) (by rw [e2]; omega)
  refine w_202_235 σ x1 x2 ⟨hin2, ?_⟩
  rw [cn_of e2]
  have hl30 : (σ.1 97 30).toInt = (l : Int) := h.2.2.2.2.1.2.2.2.2.2.2.1
  have k1 : Gl mdCust σ (s1 σ 113 (12 * s + 2 * n + 1) (σ.1 97 30)) := wrG (κ := 69) (a := 0) (b := 23) (vl := FL) (vh := FH) rfl rfl (Gl.refl h.1.1) rfl (Nat.zero_le _) (by omega) (w_lo _) (w_hi _)
  have f112 : ∀ r, (s1 σ 113 (12 * s + 2 * n + 1) (σ.1 97 30)).1 112 r = σ.1 112 r := fun r => s1_off (by omega)
  have f113 : ∀ r, ¬ r = 12 * s + 2 * n + 1 → (s1 σ 113 (12 * s + 2 * n + 1) (σ.1 97 30)).1 113 r = σ.1 113 r := fun r hr => s1_off (fun e => hr e.2)
  have f113n : (s1 σ 113 (12 * s + 2 * n + 1) (σ.1 97 30)).1 113 (12 * s + 2 * n + 1) = σ.1 97 30 := s1_on
  clear e1 e2 hin2
  generalize s1 σ 113 (12 * s + 2 * n + 1) (σ.1 97 30) = σa at k1 f112 f113 f113n ⊢
  have hA := h.own hn k1 (fun r hr => ⟨f112 r, f113 r (by omega)⟩)
  have frA : FR2 s c l σ σa := ⟨fun j _ => ⟨k1.get (q := 120) (κ := 76) rfl rfl, k1.get (q := 121) (κ := 77) rfl rfl⟩, fun j _ => ⟨k1.get (q := 117) (κ := 73) rfl rfl, k1.get (q := 118) (κ := 74) rfl rfl, k1.get (q := 119) (κ := 75) rfl rfl⟩⟩
  have haA : RUb s σa (12 * s + 2 * n) c l := ha.frame (Nat.le_refl _) (Nat.le_refl _) (f112 _) (f113 _ (by omega)) frA
  have hbA : RUb s σa (12 * s + 2 * n + 1) c l := by
    refine ⟨by rw [f112, hb]; omega, by rw [f113n, hl30]; exact Int.le_refl _, fun j j1 j2 => ?_⟩
    rw [f112, hb] at j1
    rw [f113n, hl30] at j2
    have e := frA.2 j (Or.inl (by omega))
    exact (hL j (by omega) (by omega)).frame (Nat.le_refl _) e.1 e.2.1 e.2.2 (fun x hx => frA.1 x (Or.inl hx))
  refine ⟨_, must_OK (d := 4) hA.1.1 hA.2.1.1, fun σ1 hq => ?_⟩
  obtain ⟨g1, st1, -⟩ := hq
  have hB := hA.tok g1 st1
  have fr1 : FR2 s c l σa σ1 := FR2.tok g1
  have haB := haA.frame (Nat.le_refl _) (Nat.le_refl _) (g1.get (q := 112) (κ := 68) rfl rfl) (g1.get (q := 113) (κ := 69) rfl rfl) fr1
  have hbB := hbA.frame (Nat.le_refl _) (Nat.le_refl _) (g1.get (q := 112) (κ := 68) rfl rfl) (g1.get (q := 113) (κ := 69) rfl rfl) fr1
  refine ⟨fun _ => ?_, fun _ => ⟨rfl, n, c, l, hB⟩⟩
  obtain ⟨g0, st0, lv, hs19, hp, ⟨n1, n2, n3, n4⟩, pk⟩ := hB
  have hinx : inR x2 403 = true := inR_ok h2.1 (by omega)
  have hin20 : inR (σ1.1 97 20) 6 = true := inR_ok (by omega) (by omega)
  have hin19 : inR (σ1.1 97 19) 2 = true := inR_ok (by omega) (by omega)
  refine ⟨hinx, hin20, hin19, hin19, rfl, n + 1, c, l, ?_⟩
  rw [cn_of hs19]
  have e20 : ((σ1.1 97 20) + (1 : Int32)).toInt = ((n + 1 : Nat) : Int) := by
    rw [add_lit (k := 1) n2 (by decide) (by unfold FL; omega) (by unfold FH; omega)]; push_cast; rfl
  have e109 : ((σ1.1 109 s) + (1 : Int32)).toInt = ((n + 1 : Nat) : Int) := by
    rw [add_lit (k := 1) n1 (by decide) (by unfold FL; omega) (by unfold FH; omega)]; push_cast; rfl
  have w0 : Gl mdTell σ1 (s2 σ1 105 (σ1.1 97 20).toNatClampNeg (σ1.2 103 x2.toNatClampNeg)) := Gl.long (Gl.refl g0.1)
  have w1 := wrG (x := (σ1.1 97 20) + (1 : Int32)) (q := 97) (k := 20) (κ := 12) (a := 20) (b := 20) (vl := 0) (vh := 6) rfl rfl w0 rfl (Nat.le_refl _) (Nat.le_refl _) (by omega) (by omega)
  have w2 := wrG (x := (σ1.1 109 s) + (1 : Int32)) (q := 109) (k := s) (κ := 65) (a := 0) (b := 1) (vl := 0) (vh := 6) rfl rfl w1 rfl (Nat.zero_le _) hs (by omega) (by omega)
  have f97 : ∀ k, ¬ k = 20 → (s1 (s1 (s2 σ1 105 (σ1.1 97 20).toNatClampNeg (σ1.2 103 x2.toNatClampNeg)) 97 20 ((σ1.1 97 20) + (1 : Int32))) 109 s ((σ1.1 109 s) + (1 : Int32))).1 97 k = σ1.1 97 k := fun k hk => by
    rw [s1_off (by omega), s1_off (fun e => hk e.2)]; rfl
  have f20 : ((s1 (s1 (s2 σ1 105 (σ1.1 97 20).toNatClampNeg (σ1.2 103 x2.toNatClampNeg)) 97 20 ((σ1.1 97 20) + (1 : Int32))) 109 s ((σ1.1 109 s) + (1 : Int32))).1 97 20).toInt = ((n + 1 : Nat) : Int) := by
    rw [s1_off (by omega), s1_on]; exact e20
  have f109 : ((s1 (s1 (s2 σ1 105 (σ1.1 97 20).toNatClampNeg (σ1.2 103 x2.toNatClampNeg)) 97 20 ((σ1.1 97 20) + (1 : Int32))) 109 s ((σ1.1 109 s) + (1 : Int32))).1 109 s).toInt = ((n + 1 : Nat) : Int) := by
    rw [s1_on]; exact e109
  have fo109 : ∀ k, ¬ k = s → (s1 (s1 (s2 σ1 105 (σ1.1 97 20).toNatClampNeg (σ1.2 103 x2.toNatClampNeg)) 97 20 ((σ1.1 97 20) + (1 : Int32))) 109 s ((σ1.1 109 s) + (1 : Int32))).1 109 k = σ1.1 109 k := fun k hk => by
    rw [s1_off (fun e => hk e.2), s1_off (by omega)]; rfl
  have fo : ∀ q k, ¬ q = 97 → ¬ q = 109 → (s1 (s1 (s2 σ1 105 (σ1.1 97 20).toNatClampNeg (σ1.2 103 x2.toNatClampNeg)) 97 20 ((σ1.1 97 20) + (1 : Int32))) 109 s ((σ1.1 109 s) + (1 : Int32))).1 q k = σ1.1 q k := fun q k h1 h2 => by
    rw [s1_off (by omega), s1_off (by omega)]; rfl
  generalize s1 (s1 (s2 σ1 105 (σ1.1 97 20).toNatClampNeg (σ1.2 103 x2.toNatClampNeg)) 97 20 ((σ1.1 97 20) + (1 : Int32))) 109 s ((σ1.1 109 s) + (1 : Int32)) = σ2 at w2 f97 f20 f109 fo109 fo ⊢
  clear e20 e109 w0 w1
  have st2 : ST σ1 σ2 := ST.of st0.1 (f97 11 (by omega)) (f97 13 (by omega)) (f97 15 (by omega))
  have fr2 : FR2 s c l σ1 σ2 := FR2.same (fun q k h1 h2 => fo q k (by omega) (by omega))
  refine ⟨g0.trans w2 rfl, st0.trans st2, lv.trans ⟨fun j _ => ⟨fo 120 j (by omega) (by omega), fo 121 j (by omega) (by omega)⟩, fun j _ => ⟨fo 117 j (by omega) (by omega), fo 118 j (by omega) (by omega), fo 119 j (by omega) (by omega)⟩, fun r _ => ⟨fo 112 r (by omega) (by omega), fo 113 r (by omega) (by omega)⟩, fun k hk => ⟨fo 106 k (by omega) (by omega), fo 107 k (by omega) (by omega), fo109 k hk⟩⟩, by rw [f97 19 (by omega)]; exact hs19, hp.step st2 (f97 12 (by omega)) (f97 30 (by omega)) (f97 37 (by omega)), ⟨f109, f20, by omega, fun k r hk hr => ?_⟩, ?_⟩
  · by_cases hkn : k = n
    · subst hkn
      rcases hr with rfl | rfl
      · exact haB.frame (Nat.le_refl _) (Nat.le_refl _) (fo 112 _ (by omega) (by omega)) (fo 113 _ (by omega) (by omega)) fr2
      · exact hbB.frame (Nat.le_refl _) (Nat.le_refl _) (fo 112 _ (by omega) (by omega)) (fo 113 _ (by omega) (by omega)) fr2
    · exact (n4 k r (by omega) hr).frame (Nat.le_refl _) (Nat.le_refl _) (fo 112 _ (by omega) (by omega)) (fo 113 _ (by omega) (by omega)) fr2
  · unfold PKO
    rw [f97 13 (by omega), f97 15 (by omega), fo 106 s (by omega) (by omega), fo 107 s (by omega) (by omega)]
    exact pk
theorem cust_224 {c l : Nat} {σ : Sg} (hs : s ≤ 1) (hn : n ≤ 5) (h1 : x1.toInt = ((6 * s + n : Nat) : Int)) (h2 : 0 ≤ x2.toInt ∧ x2.toInt ≤ 402) (h : TM s n c l σ0 σ) (ha : RUb s σ (12 * s + 2 * n) c l) (hb : (σ.1 112 (12 * s + 2 * n + 1)).toInt = (l : Int)) : Rn PRG (6 + 1) 202 224 [(0, .ref 97), (1, .int x1), (2, .int x2)] [] σ (fun v σ' => v = none ∧ TX s σ0 σ') := by
  have hl0 : 150 * s ≤ l := h.2.2.2.2.1.2.2.2.2.2.2.2.1
  refine w_202_224 σ x1 x2 ⟨fun _ => ⟨_, condition_OK hs h.1.1 h.2.2.2.2.1, fun σ1 hq => ?_⟩, fun _ => cust_235 hs hn h1 h2 h ⟨hl0, Nat.le_refl _⟩ ha hb (fun j a b => absurd b (by omega))⟩
  have g := hq.1
  obtain ⟨c', l', hT, hc, hl, hL, hf⟩ := h.lit hq
  exact cust_235 (l1 := l) hs hn h1 h2 hT ⟨hl0, hl⟩ (ha.frame hc hl (g.get (q := 112) (κ := 68) rfl rfl) (g.get (q := 113) (κ := 69) rfl rfl) hf) (by rw [g.get (q := 112) (κ := 68) rfl rfl]; exact hb) hL
theorem cust_184 {c l l1 : Nat} {σ : Sg} (hs : s ≤ 1) (hn : n ≤ 5) (h1 : x1.toInt = ((6 * s + n : Nat) : Int)) (h2 : 0 ≤ x2.toInt ∧ x2.toInt ≤ 402) (h : TM s n c l σ0 σ) (hl1 : 150 * s ≤ l1) (ha : (σ.1 112 (12 * s + 2 * n)).toInt = (l1 : Int)) (hL : ∀ j, l1 ≤ j → j < l → LTc σ j c) : Rn PRG (6 + 1) 202 184 [(0, .ref 97), (1, .int x1), (2, .int x2)] [] σ (fun v σ' => v = none ∧ TX s σ0 σ') := by
  obtain ⟨e1, e2⟩ := c_ix h1 hs hn
  have hin1 : inR ((2 : Int32) * x1) 24 = true := inR_ok (by rw [e1]; omega) (by rw [e1]; omega)
  have hin2 : inR (((2 : Int32) * x1) + (1 : Int32)) 24 = true := inR_ok (by rw [e2]; omega) (by rw [e2]; omega)
  refine w_202_184 σ x1 x2 ⟨hin1, hin2, ?_⟩
  rw [cn_of e2, cn_of e1]
  clear e1 e2 hin1 hin2
  have hl30 : (σ.1 97 30).toInt = (l : Int) := h.2.2.2.2.1.2.2.2.2.2.2.1
  have k1 : Gl mdCust σ (s1 σ 113 (12 * s + 2 * n) (σ.1 97 30)) := wrG (κ := 69) (a := 0) (b := 23) (vl := FL) (vh := FH) rfl rfl (Gl.refl h.1.1) rfl (Nat.zero_le _) (by omega) (w_lo _) (w_hi _)
  have k2 := wrG (x := σ.1 97 30) (q := 112) (k := 12 * s + 2 * n + 1) (κ := 68) (a := 0) (b := 23) (vl := FL) (vh := FH) rfl rfl k1 rfl (Nat.zero_le _) (by omega) (w_lo _) (w_hi _)
  have f112 : ∀ r, ¬ r = 12 * s + 2 * n + 1 → (s1 (s1 σ 113 (12 * s + 2 * n) (σ.1 97 30)) 112 (12 * s + 2 * n + 1) (σ.1 97 30)).1 112 r = σ.1 112 r := fun r hr => by rw [s1_off (fun e => hr e.2), s1_off (by omega)]
  have f113 : ∀ r, ¬ r = 12 * s + 2 * n → (s1 (s1 σ 113 (12 * s + 2 * n) (σ.1 97 30)) 112 (12 * s + 2 * n + 1) (σ.1 97 30)).1 113 r = σ.1 113 r := fun r hr => by rw [s1_off (by omega), s1_off (fun e => hr e.2)]
  have f112n : (s1 (s1 σ 113 (12 * s + 2 * n) (σ.1 97 30)) 112 (12 * s + 2 * n + 1) (σ.1 97 30)).1 112 (12 * s + 2 * n + 1) = σ.1 97 30 := s1_on
  have f113n : (s1 (s1 σ 113 (12 * s + 2 * n) (σ.1 97 30)) 112 (12 * s + 2 * n + 1) (σ.1 97 30)).1 113 (12 * s + 2 * n) = σ.1 97 30 := by rw [s1_off (by omega), s1_on]
  generalize s1 (s1 σ 113 (12 * s + 2 * n) (σ.1 97 30)) 112 (12 * s + 2 * n + 1) (σ.1 97 30) = σa at k2 f112 f113 f112n f113n ⊢
  clear k1
  have hA := h.own hn k2 (fun r hr => ⟨f112 r (by omega), f113 r (by omega)⟩)
  have frA : FR2 s c l σ σa := ⟨fun j _ => ⟨k2.get (q := 120) (κ := 76) rfl rfl, k2.get (q := 121) (κ := 77) rfl rfl⟩, fun j _ => ⟨k2.get (q := 117) (κ := 73) rfl rfl, k2.get (q := 118) (κ := 74) rfl rfl, k2.get (q := 119) (κ := 75) rfl rfl⟩⟩
  have haA : RUb s σa (12 * s + 2 * n) c l := by
    refine ⟨by rw [f112 _ (by omega), ha]; omega, by rw [f113n, hl30]; exact Int.le_refl _, fun j j1 j2 => ?_⟩
    rw [f112 _ (by omega), ha] at j1
    rw [f113n, hl30] at j2
    have e := frA.2 j (Or.inl (by omega))
    exact (hL j (by omega) (by omega)).frame (Nat.le_refl _) e.1 e.2.1 e.2.2 (fun x hx => frA.1 x (Or.inl hx))
  have hbA : (σa.1 112 (12 * s + 2 * n + 1)).toInt = (l : Int) := by rw [f112n]; exact hl30
  refine ⟨_, is_OK hA.1.1, fun w2 σ1 hq => ?_⟩
  rw [hq.1]
  refine ⟨fun _ => ⟨_, fail_OK hA.1.1 hA.2.1.1 (by decide), fun σ3 hq => ?_⟩, fun _ => cust_224 hs hn h1 h2 hA haA hbA⟩
  obtain ⟨g3, st3, -⟩ := hq
  exact cust_224 hs hn h1 h2 (hA.tok g3 st3) (haA.frame (Nat.le_refl _) (Nat.le_refl _) (g3.get (q := 112) (κ := 68) rfl rfl) (g3.get (q := 113) (κ := 69) rfl rfl) (FR2.tok g3)) (by rw [g3.get (q := 112) (κ := 68) rfl rfl]; exact hbA)
theorem cust_129 {c l : Nat} {σ : Sg} (hs : s ≤ 1) (hn : n ≤ 5) (h1 : x1.toInt = ((6 * s + n : Nat) : Int)) (h2 : 0 ≤ x2.toInt ∧ x2.toInt ≤ 402) (h : TM s n c l σ0 σ) (hk : (σ.1 97 13).toInt = 0 → 23 ≤ (tkn σ).toInt ∧ (tkn σ).toInt ≤ 25) : Rn PRG (6 + 1) 202 129 [(0, .ref 97), (1, .int x1), (2, .int x2)] [] σ (fun v σ' => v = none ∧ TX s σ0 σ') := by
  obtain ⟨e1, e2⟩ := c_ix h1 hs hn
  have k23 : (23 : Int32).toInt = 23 := by decide
  have hin1 : inR ((2 : Int32) * x1) 24 = true := inR_ok (by rw [e1]; omega) (by rw [e1]; omega)
  have hinx : inR x1 12 = true := inR_ok (by omega) (by omega)
  refine w_202_129 σ x1 x2 ⟨fun cc => ⟨t_in h.1.1, hinx, ?_⟩, fun _ => ⟨rfl, n, c, l, h⟩⟩
  have hF : (σ.1 97 13).toInt = 0 := by rw [le0_i] at cc; have := h.2.1.1.1; omega
  have hk := hk hF
  have ek : ((σ.1 100 (σ.1 97 11).toNatClampNeg) - (23 : Int32)).toInt = (tkn σ).toInt - 23 := by
    show ((tkn σ) - (23 : Int32)).toInt = _
    rw [sub_ex (by rw [k23]; unfold FL; omega) (by rw [k23]; unfold FH; omega), k23]
  rw [cn_of h1]
  have k1 : Gl mdCust σ (s1 σ 111 (6 * s + n) ((σ.1 100 (σ.1 97 11).toNatClampNeg) - (23 : Int32))) := wrG (κ := 67) (a := 0) (b := 11) (vl := 0) (vh := 2) rfl rfl (Gl.refl h.1.1) rfl (Nat.zero_le _) (by omega) (by rw [ek]; omega) (by rw [ek]; omega)
  have f112 : ∀ r, (s1 σ 111 (6 * s + n) ((σ.1 100 (σ.1 97 11).toNatClampNeg) - (23 : Int32))).1 112 r = σ.1 112 r := fun r => s1_off (by omega)
  have f113 : ∀ r, (s1 σ 111 (6 * s + n) ((σ.1 100 (σ.1 97 11).toNatClampNeg) - (23 : Int32))).1 113 r = σ.1 113 r := fun r => s1_off (by omega)
  generalize s1 σ 111 (6 * s + n) ((σ.1 100 (σ.1 97 11).toNatClampNeg) - (23 : Int32)) = σa at k1 f112 f113 ⊢
  have hA := h.own hn k1 (fun r _ => ⟨f112 r, f113 r⟩)
  refine ⟨_, goesOn_OK (d := 5) hA.1.1 hA.2.1.1, fun σ1 hq => ⟨hin1, ?_⟩⟩
  obtain ⟨g1, st1, -⟩ := hq
  have hB := hA.tok g1 st1
  rw [cn_of e1]
  clear e1 e2 hin1 ek
  have hl30 : (σ1.1 97 30).toInt = (l : Int) := hB.2.2.2.2.1.2.2.2.2.2.2.1
  have hl0 : 150 * s ≤ l := hB.2.2.2.2.1.2.2.2.2.2.2.2.1
  have k2 : Gl mdCust σ1 (s1 σ1 112 (12 * s + 2 * n) (σ1.1 97 30)) := wrG (κ := 68) (a := 0) (b := 23) (vl := FL) (vh := FH) rfl rfl (Gl.refl g1.1) rfl (Nat.zero_le _) (by omega) (w_lo _) (w_hi _)
  have p112 : ∀ r, ¬ r = 12 * s + 2 * n → (s1 σ1 112 (12 * s + 2 * n) (σ1.1 97 30)).1 112 r = σ1.1 112 r := fun r hr => s1_off (fun e => hr e.2)
  have p113 : ∀ r, (s1 σ1 112 (12 * s + 2 * n) (σ1.1 97 30)).1 113 r = σ1.1 113 r := fun r => s1_off (by omega)
  have p112n : ((s1 σ1 112 (12 * s + 2 * n) (σ1.1 97 30)).1 112 (12 * s + 2 * n)).toInt = (l : Int) := by rw [s1_on]; exact hl30
  generalize s1 σ1 112 (12 * s + 2 * n) (σ1.1 97 30) = σb at k2 p112 p113 p112n ⊢
  have hC := hB.own hn k2 (fun r hr => ⟨p112 r (by omega), p113 r⟩)
  refine ⟨_, is_OK hC.1.1, fun w3 σ2 hq => ?_⟩
  rw [hq.1]
  refine ⟨fun _ => cust_184 hs hn h1 h2 hC hl0 p112n (fun j a b => absurd b (by omega)), fun _ => ⟨_, condition_OK hs hC.1.1 hC.2.2.2.2.1, fun σ4 hq => ?_⟩⟩
  have g := hq.1
  obtain ⟨c', l', hT, hc, hl, hL, hf⟩ := hC.lit hq
  exact cust_184 hs hn h1 h2 hT hl0 (by rw [g.get (q := 112) (κ := 68) rfl rfl]; exact p112n) hL
theorem cust_77 {c l : Nat} {σ : Sg} (hs : s ≤ 1) (hn : n ≤ 5) (h1 : x1.toInt = ((6 * s + n : Nat) : Int)) (h2 : 0 ≤ x2.toInt ∧ x2.toInt ≤ 402) (h : TM s n c l σ0 σ) : Rn PRG (6 + 1) 202 77 [(0, .ref 97), (1, .int x1), (2, .int x2)] [] σ (fun v σ' => v = none ∧ TX s σ0 σ') := by
  have k23 : (23 : Int32).toInt = 23 := by decide
  have k25 : (25 : Int32).toInt = 25 := by decide
  have hinx : inR x1 12 = true := inR_ok (by omega) (by omega)
  refine w_202_77 σ x1 x2 ⟨_, bounded_OK (d := 4) h.1.1 h.2.1.1, fun w2 σ1 hq => ⟨hinx, ?_⟩⟩
  obtain ⟨g1, st1, -, -, -⟩ := hq
  have hB := h.tok g1 st1
  rw [cn_of h1]
  have k1 : Gl mdCust σ1 (s1 σ1 110 (6 * s + n) w2) := wrG (κ := 66) (a := 0) (b := 11) (vl := FL) (vh := FH) rfl rfl (Gl.refl g1.1) rfl (Nat.zero_le _) (by omega) (w_lo _) (w_hi _)
  have f112 : ∀ r, (s1 σ1 110 (6 * s + n) w2).1 112 r = σ1.1 112 r := fun r => s1_off (by omega)
  have f113 : ∀ r, (s1 σ1 110 (6 * s + n) w2).1 113 r = σ1.1 113 r := fun r => s1_off (by omega)
  have f97 : ∀ r, (s1 σ1 110 (6 * s + n) w2).1 97 r = σ1.1 97 r := fun r => s1_off (by omega)
  have f100 : ∀ r, (s1 σ1 110 (6 * s + n) w2).1 100 r = σ1.1 100 r := fun r => s1_off (by omega)
  generalize s1 σ1 110 (6 * s + n) w2 = σa at k1 f112 f113 f97 f100 ⊢
  have hA := hB.own hn k1 (fun r _ => ⟨f112 r, f113 r⟩)
  have bad : Rn PRG (6 + 1) 202 124 [(0, .ref 97), (1, .int x1), (2, .int x2)] [] σa (fun v σ' => v = none ∧ TX s σ0 σ') := by
    refine w_202_124 σa x1 x2 ⟨_, fail_OK hA.1.1 hA.2.1.1 (by decide), fun σ3 hq => ?_⟩
    obtain ⟨g3, st3, nf⟩ := hq
    exact cust_129 hs hn h1 h2 (hA.tok g3 st3) (fun hh => absurd hh nf)
  refine ⟨fun _ => bad, fun _ => ⟨t_in g1.1, fun _ => bad, fun c1 => ⟨t_in g1.1, fun c2 => cust_129 hs hn h1 h2 hA (fun _ => ?_), fun _ => bad⟩⟩⟩
  rw [lt_i rfl k23] at c1
  rw [le_i rfl k25] at c2
  have e : tkn σa = σ1.1 100 (σ1.1 97 11).toNatClampNeg := by unfold tkn; rw [f97, f100]
  rw [e]
  omega
theorem cust_34 (hs : s ≤ 1) (hn : n ≤ 5) (h1 : x1.toInt = ((6 * s + n : Nat) : Int)) (h2 : 0 ≤ x2.toInt ∧ x2.toInt ≤ 402) : ∀ (m k : Nat) (x3 : Int32) (c l : Nat) (σ : Sg), k + m = n → x3.toInt = (k : Int) → TM s n c l σ0 σ → Rn PRG (6 + 1) 202 34 [(0, .ref 97), (1, .int x1), (2, .int x2), (3, .int x3)] [] σ (fun v σ' => v = none ∧ TX s σ0 σ') := by
  have hinx : inR x2 403 = true := inR_ok h2.1 (by omega)
  intro m
  induction m with
  | zero =>
    intro k x3 c l σ hk h3 h
    have n2 := h.2.2.2.2.2.1.2.1
    exact w_202_34 σ x1 x2 x3 ⟨fun _ => cust_77 hs hn h1 h2 h, fun cc => absurd (by rw [le_i n2 h3]; omega) cc⟩
  | succ m ih =>
    intro k x3 c l σ hk h3 h
    have n2 := h.2.2.2.2.2.1.2.1
    have hx3 : (x3 + (1 : Int32)).toInt = ((k + 1 : Nat) : Int) := by
      rw [add_lit (k := 1) h3 (by decide) (by unfold FL; omega) (by unfold FH; omega)]; push_cast; rfl
    have hin3 : inR x3 6 = true := inR_ok (by clear hx3; omega) (by clear hx3; omega)
    refine w_202_34 σ x1 x2 x3 ⟨fun _ => cust_77 hs hn h1 h2 h, fun _ => ⟨fun _ => ⟨hin3, hinx, fun _ => ⟨_, wrong_OK h.1.1 h.2.1.1 (by decide) h2, fun σ1 hq => w_202_71 σ1 x1 x2 x3 (ih (k + 1) _ c l σ1 (by omega) hx3 (h.tok hq.1 hq.2.1))⟩, fun _ => w_202_71 σ x1 x2 x3 (ih (k + 1) _ c l σ (by omega) hx3 h)⟩, fun _ => cust_77 hs hn h1 h2 h⟩⟩
end Custom
theorem tellCustom_OK {s n c l : Nat} {σ0 σ : Sg} (hs : s ≤ 1) (hn : n ≤ 5) (h : TM s n c l σ0 σ) : OkV PRG 7 202 [.ref 97] σ (fun σ' => TX s σ0 σ' ∧ ((σ'.1 97 13).toInt = 0 → (σ.1 97 11).toInt + 1 ≤ (σ'.1 97 11).toInt)) := by
  obtain ⟨g0, st0, lv, hs19, hp, hN, pk⟩ := id h
  have hin19 : inR (σ.1 97 19) 2 = true := inR_ok (by omega) (by omega)
  refine ⟨M_202, rfl, Nat.le_of_ble_eq_true rfl, w_202_0 σ ⟨hin19, _, goesOn_OK (d := 5) g0.1 st0.1, fun σ1 hq => ?_⟩⟩
  obtain ⟨g1, st1, m1⟩ := hq
  have h1 := h.tok g1 st1
  have h1' : TM s n c l σ1 σ1 := ⟨Gl.refl g1.1, ST.refl st1.1, LVs.refl, h1.2.2.2⟩
  refine ⟨_, must_OK (d := 4) h1.1.1 h1.2.1.1, fun σ2 hq => ?_⟩
  obtain ⟨g2, st2, -⟩ := hq
  have h2 := h1'.tok g2 st2
  rw [cn_of hs19]
  have ht := t_rg g1.1
  have e6 : ((6 : Int32) * (σ.1 97 19)).toInt = 6 * (s : Int) := by
    rw [mul_lit (k := 6) (by decide) (by unfold FL; omega) (by unfold FH; omega), hs19]
  have ex : (((6 : Int32) * (σ.1 97 19)) + (σ.1 109 s)).toInt = ((6 * s + n : Nat) : Int) := by
    rw [add_ex (by rw [e6, hN.1]; unfold FL; omega) (by rw [e6, hN.1]; unfold FH; omega), e6, hN.1]; push_cast; rfl
  refine Rn.mono (cust_34 hs hn ex (by omega) n 0 0 c l σ2 (by omega) rfl h2) (fun v σ' hz => ?_)
  obtain ⟨hv, n', c', l', hT⟩ := hz
  refine ⟨hv, ⟨n', c', l', h1.1.trans hT.1 rfl, h1.2.1.trans hT.2.1, h1.2.2.1.trans hT.2.2.1, hT.2.2.2⟩, fun hh => ?_⟩
  have a := hT.2.1.2.1
  have b := m1 (hT.2.1.2.2.1 hh)
  omega
/-- telling -/
theorem tell_120 {s n c l : Nat} {x1 x3 : Int32} {σ0 σ : Sg} (hs : s ≤ 1) (h : TM s n c l σ0 σ) (hk : (σ.1 97 13).toInt = 0 → (σ.1 97 15).toInt = 0 → ∃ N : Nat, (N = 4 ∨ N = 8 ∨ N = 12 ∨ N = 16) ∧ 1 ≤ x1.toInt ∧ x1.toInt ≤ 4 ∧ 1 ≤ x3.toInt ∧ x3.toInt ≤ 16 ∧ x1.toInt * x3.toInt = (N : Int)) : Rn PRG (7 + 1) 203 120 [(0, .ref 97), (1, .int x1), (3, .int x3)] [] σ (fun v σ' => v = none ∧ TX s σ0 σ' ∧ ST σ σ') := by
  refine w_203_120 σ x1 x3 ⟨_, must_OK (d := 5) h.1.1 h.2.1.1, fun σ1 hq => ?_⟩
  obtain ⟨g1, st1, -⟩ := hq
  have h1 := h.tok g1 st1
  obtain ⟨g0, st0, lv, hs19, hp, ⟨n1, n2, n3, n4⟩, pk⟩ := h1
  have hin19 : inR (σ1.1 97 19) 2 = true := inR_ok (by omega) (by omega)
  refine ⟨hin19, hin19, ?_⟩
  rw [cn_of hs19]
  have k1 : Gl mdTell σ1 (s1 σ1 106 s x1) := wrG (κ := 62) (a := 0) (b := 1) (vl := FL) (vh := FH) rfl rfl (Gl.refl g1.1) rfl (Nat.zero_le _) hs (w_lo _) (w_hi _)
  have k2 := wrG (x := x3) (q := 107) (k := s) (κ := 63) (a := 0) (b := 1) (vl := FL) (vh := FH) rfl rfl k1 rfl (Nat.zero_le _) hs (w_lo _) (w_hi _)
  have fo : ∀ q k, ¬ q = 106 → ¬ q = 107 → (s1 (s1 σ1 106 s x1) 107 s x3).1 q k = σ1.1 q k := fun q k h1 h2 => by rw [s1_off (by omega), s1_off (by omega)]
  have fk : ∀ k, ¬ k = s → (s1 (s1 σ1 106 s x1) 107 s x3).1 106 k = σ1.1 106 k ∧ (s1 (s1 σ1 106 s x1) 107 s x3).1 107 k = σ1.1 107 k := fun k hk => ⟨by rw [s1_off (by omega), s1_off (fun e => hk e.2)], by rw [s1_off (fun e => hk e.2), s1_off (by omega)]⟩
  have f106 : (s1 (s1 σ1 106 s x1) 107 s x3).1 106 s = x1 := by rw [s1_off (by omega), s1_on]
  have f107 : (s1 (s1 σ1 106 s x1) 107 s x3).1 107 s = x3 := s1_on
  generalize s1 (s1 σ1 106 s x1) 107 s x3 = σ2 at k2 fo fk f106 f107 ⊢
  have f97 : ∀ k, σ2.1 97 k = σ1.1 97 k := fun k => fo 97 k (by omega) (by omega)
  have st2 : ST σ1 σ2 := ST.of st1.1 (f97 11) (f97 13) (f97 15)
  have fr2 : FR2 s c l σ1 σ2 := FR2.same (fun q k h1 h2 => fo q k (by omega) (by omega))
  refine w_203_213 σ2 ⟨rfl, ⟨n, c, l, g0.trans k2 rfl, st0.trans st2, lv.trans ⟨fun j _ => ⟨fo 120 j (by omega) (by omega), fo 121 j (by omega) (by omega)⟩, fun j _ => ⟨fo 117 j (by omega) (by omega), fo 118 j (by omega) (by omega), fo 119 j (by omega) (by omega)⟩, fun r _ => ⟨fo 112 r (by omega) (by omega), fo 113 r (by omega) (by omega)⟩, fun k hk => ⟨(fk k hk).1, (fk k hk).2, fo 109 k (by omega) (by omega)⟩⟩, by rw [f97]; exact hs19, hp.step st2 (f97 12) (f97 30) (f97 37), ⟨by rw [fo 109 s (by omega) (by omega)]; exact n1, by rw [f97]; exact n2, n3, fun k r hk hr => (n4 k r hk hr).frame (Nat.le_refl _) (Nat.le_refl _) (fo 112 _ (by omega) (by omega)) (fo 113 _ (by omega) (by omega)) fr2⟩, fun hF hw => ?_⟩, st1.trans st2⟩
  rw [f97] at hF hw
  have hF0 := st1.2.2.1 hF
  have hw0 : (σ.1 97 15).toInt = 0 := Classical.byContradiction (fun hne => st1.2.2.2 hne hw)
  rw [f106, f107]
  exact hk hF0 hw0
theorem tell_OK {s n c l : Nat} {σ0 σ : Sg} (hs : s ≤ 1) (h : TM s n c l σ0 σ) (hF : (σ.1 97 13).toInt = 0) : OkV PRG 8 203 [.ref 97] σ (fun σ' => TX s σ0 σ' ∧ muT σ' < muT σ) := by
  have ht := h.1.1
  have hn6 : n ≤ 6 := h.2.2.2.2.2.1.2.2.1
  have six : (6 : Int32).toInt = 6 := by decide
  -- all ways on are shorter, if a token was taken
  have go : ∀ {pc : Nat} {ls : Lcl} {σa : Sg}, ST σ σa → ((σa.1 97 13).toInt = 0 → (σ.1 97 11).toInt + 1 ≤ (σa.1 97 11).toInt) → Rn PRG (7 + 1) 203 pc ls [] σa (fun v σ' => v = none ∧ TX s σ0 σ' ∧ ST σa σ') → Rn PRG (7 + 1) 203 pc ls [] σa (fun v σ' => v = none ∧ TX s σ0 σ' ∧ muT σ' < muT σ) := by
    intro pc ls σa st0 hT hr
    refine hr.mono (fun v σ' hz => ⟨hz.1, hz.2.1, muT_lt ht hF (fun hh => ?_)⟩)
    have := hT (hz.2.2.2.2.1 hh)
    have := hz.2.2.2.1
    omega
  refine ⟨M_203, rfl, Nat.le_of_ble_eq_true rfl, w_203_0 σ ⟨t_in ht, fun _ => ⟨_, fail_OK ht h.2.1.1 (by decide), fun σ1 hq => ?_⟩, fun _ => ⟨_, goesOn_OK (d := 6) ht h.2.1.1, fun σ2 hq => ?_⟩, fun _ => ⟨_, goesOn_OK (d := 6) ht h.2.1.1, fun σ11 hq => ?_⟩, fun hk22 => ?_⟩⟩
  · obtain ⟨g1, st1, nf⟩ := hq
    exact w_203_213 σ1 ⟨rfl, ⟨n, c, l, h.tok g1 st1⟩, muT_lt ht hF (fun hh => absurd hh nf)⟩
  · obtain ⟨g2, st2, m2⟩ := hq
    have h2 := h.tok g2 st2
    refine ⟨_, bounded_OK (d := 5) g2.1 st2.1, fun w4 σ3 hq => ?_⟩
    obtain ⟨g3, st3, m3, b3, -⟩ := hq
    have h3 := h2.tok g3 st3
    refine ⟨_, bounded_OK (d := 5) g3.1 st3.1, fun w6 σ5 hq => ?_⟩
    obtain ⟨g5, st5, m5, b5, -⟩ := hq
    have h5 := h3.tok g5 st5
    have st25 := (st2.trans st3).trans st5
    have hT5 : (σ5.1 97 13).toInt = 0 → (σ.1 97 11).toInt + 1 ≤ (σ5.1 97 11).toInt := fun hh => by
      have a5 := m5 hh
      have a3 := m3 (st5.2.2.1 hh)
      have a2 := m2 (st3.2.2.1 (st5.2.2.1 hh))
      omega
    have k1 : (1 : Int32).toInt = 1 := by decide
    have k4 : (4 : Int32).toInt = 4 := by decide
    have k16 : (16 : Int32).toInt = 16 := by decide
    rw [k1, k4] at b3
    rw [k1, k16] at b5
    have b3' : (σ5.1 97 13).toInt = 0 → (σ5.1 97 15).toInt = 0 → 1 ≤ w4.toInt ∧ w4.toInt ≤ 4 := fun hh hw => b3 (st5.2.2.1 hh) (Classical.byContradiction (fun hne => st5.2.2.2 hne hw))
    have t3 := t_rg g3.1
    have no90 : (¬ (σ5.1 97 13).toInt = 0 ∨ ¬ (σ5.1 97 15).toInt = 0) → Rn PRG (7 + 1) 203 90 [(0, .ref 97), (1, .int w4), (2, .int (σ3.1 97 11)), (3, .int w6)] [] σ5 (fun v σ' => v = none ∧ TX s σ0 σ' ∧ muT σ' < muT σ) := by
      intro hno
      refine w_203_90 σ5 w4 _ w6 (go st25 hT5 (tell_120 hs h5 (fun hh hw => ?_)))
      rcases hno with hno | hno
      · exact absurd hh hno
      · exact absurd hw hno
    have bad : Rn PRG (7 + 1) 203 114 [(0, .ref 97), (1, .int w4), (2, .int (σ3.1 97 11)), (3, .int w6)] [] σ5 (fun v σ' => v = none ∧ TX s σ0 σ' ∧ muT σ' < muT σ) := by
      refine w_203_114 σ5 w4 _ w6 ⟨_, wrong_OK g5.1 st5.1 (by decide) (by omega), fun σ7 hq => ?_⟩
      obtain ⟨g7, st7, nw, e7, e7b⟩ := hq
      refine go (st25.trans st7) (fun hh => ?_) (tell_120 hs (h5.tok g7 st7) (fun hh hw => absurd hw (nw hh)))
      have := hT5 (st7.2.2.1 hh)
      rw [e7]; exact this
    refine ⟨fun _ => ⟨_, in_OK, fun w8 σ7 hq => ?_⟩, fun c0 => no90 (Or.inl (fun e => c0 (zq_i.mpr e)))⟩
    obtain ⟨e7, hw8⟩ := hq
    rw [e7]
    rw [k1, k4] at hw8
    refine ⟨fun hz => no90 ?_, fun hne8 => ⟨_, in_OK, fun w10 σ9 hq => ?_⟩⟩
    · by_cases hh : (σ5.1 97 13).toInt = 0
      · refine Or.inr (fun hw => ?_)
        rcases hw8 with ⟨h1, -⟩ | ⟨-, h1⟩
        · rw [h1] at hz; exact absurd hz (by decide)
        · exact h1 (b3' hh hw)
      · exact Or.inl hh
    have r4 : 1 ≤ w4.toInt ∧ w4.toInt ≤ 4 := by
      rcases hw8 with ⟨-, h1⟩ | ⟨h1, -⟩
      · exact h1
      · exact absurd h1 hne8
    obtain ⟨e9, hw10⟩ := hq
    rw [e9]
    rw [k1, k16] at hw10
    refine ⟨fun hz => no90 ?_, fun hne10 => ⟨fun _ => bad, fun c16 => ⟨fun c4 => go st25 hT5 (tell_120 hs h5 (fun _ _ => ?_)), fun _ => bad⟩⟩⟩
    · by_cases hh : (σ5.1 97 13).toInt = 0
      · refine Or.inr (fun hw => ?_)
        rcases hw10 with ⟨h1, -⟩ | ⟨-, h1⟩
        · rw [h1] at hz; exact absurd hz (by decide)
        · exact h1 (b5 hh hw)
      · exact Or.inl hh
    have r6 : 1 ≤ w6.toInt ∧ w6.toInt ≤ 16 := by
      rcases hw10 with ⟨-, h1⟩ | ⟨h1, -⟩
      · exact h1
      · exact absurd h1 hne10
    have hmul : 1 ≤ w4.toInt * w6.toInt ∧ w4.toInt * w6.toInt ≤ 64 := by
      have h4 : w4.toInt = 1 ∨ w4.toInt = 2 ∨ w4.toInt = 3 ∨ w4.toInt = 4 := by omega
      rcases h4 with h4 | h4 | h4 | h4 <;> rw [h4] <;> omega
    have em : (w4 * w6).toInt = w4.toInt * w6.toInt := mul_ex (by unfold FL; omega) (by unfold FH; omega)
    rw [lt_i k16 em] at c16
    have em4 : ((w4 * w6) - (w4 * w6) / (4 : Int32) * (4 : Int32)).toInt = (w4.toInt * w6.toInt) % 4 := by
      rw [rem_ex (by decide), em, k4, Int.tmod_eq_emod_of_nonneg (by omega)]
    rw [zq_i, em4] at c4
    generalize w4.toInt * w6.toInt = p at hmul c16 c4
    refine ⟨p.toNat, by omega, r4.1, r4.2, r6.1, r6.2, by omega⟩
  · obtain ⟨g11, st11, m11⟩ := hq
    have h11 := h.tok g11 st11
    refine ⟨_, bounded_OK (d := 5) g11.1 st11.1, fun w13 σ12 hq => ?_⟩
    obtain ⟨g12, st12, m12, -, -⟩ := hq
    have h12 := h11.tok g12 st12
    have hs19 : (σ11.1 97 19).toInt = (s : Int) := h11.2.2.2.1
    refine ⟨inR_ok (by omega) (by omega), ?_⟩
    rw [cn_of hs19]
    have k1 : Gl mdTell σ12 (s1 σ12 108 s w13) := wrG (κ := 64) (a := 0) (b := 1) (vl := FL) (vh := FH) rfl rfl (Gl.refl g12.1) rfl (Nat.zero_le _) hs (w_lo _) (w_hi _)
    have fo : ∀ q k, ¬ q = 108 → (s1 σ12 108 s w13).1 q k = σ12.1 q k := fun q k h1 => s1_off (by omega)
    generalize s1 σ12 108 s w13 = σ13 at k1 fo ⊢
    have f97 : ∀ k, σ13.1 97 k = σ12.1 97 k := fun k => fo 97 k (by omega)
    have st13 : ST σ12 σ13 := ST.of st12.1 (f97 11) (f97 13) (f97 15)
    obtain ⟨g0, st0, lv, hs19', hp, ⟨n1, n2, n3, n4⟩, pk⟩ := h12
    have fr13 : FR2 s c l σ12 σ13 := FR2.same (fun q k h1 h2 => fo q k (by omega))
    have h13 : TM s n c l σ0 σ13 := by
      refine ⟨g0.trans k1 rfl, st0.trans st13, lv.trans ⟨fun j _ => ⟨fo 120 j (by omega), fo 121 j (by omega)⟩, fun j _ => ⟨fo 117 j (by omega), fo 118 j (by omega), fo 119 j (by omega)⟩, fun r _ => ⟨fo 112 r (by omega), fo 113 r (by omega)⟩, fun k hk => ⟨fo 106 k (by omega), fo 107 k (by omega), fo 109 k (by omega)⟩⟩, by rw [f97]; exact hs19', hp.step st13 (f97 12) (f97 30) (f97 37), ⟨by rw [fo 109 s (by omega)]; exact n1, by rw [f97]; exact n2, n3, fun k r hk hr => (n4 k r hk hr).frame (Nat.le_refl _) (Nat.le_refl _) (fo 112 _ (by omega)) (fo 113 _ (by omega)) fr13⟩, ?_⟩
      unfold PKO
      rw [f97, f97, fo 106 s (by omega), fo 107 s (by omega)]
      exact pk
    refine ⟨_, must_OK (d := 5) h13.1.1 h13.2.1.1, fun σ14 hq => ?_⟩
    obtain ⟨g14, st14, m14⟩ := hq
    refine w_203_213 σ14 ⟨rfl, ⟨n, c, l, h13.tok g14 st14⟩, muT_lt ht hF (fun hh => ?_)⟩
    have hh13 := st14.2.2.1 hh
    have hh12 := st13.2.2.1 hh13
    have a1 := m11 (st12.2.2.1 hh12)
    have a2 := m12 hh12
    have a3 := m14 hh
    rw [f97] at a3
    omega
  · have hs19 : (σ.1 97 19).toInt = (s : Int) := h.2.2.2.1
    refine ⟨inR_ok (by omega) (by omega), ?_⟩
    rw [cn_of hs19]
    have n1 : (σ.1 109 s).toInt = (n : Int) := h.2.2.2.2.2.1.1
    refine ⟨fun _ => ⟨_, fail_OK ht h.2.1.1 (by decide), fun σ15 hq => ?_⟩, fun c6 => ?_⟩
    · obtain ⟨g, st, nf⟩ := hq
      refine w_203_194 σ15 ⟨fun c0 => absurd (zq_i.mp c0) nf, fun _ => w_203_213 σ15 ⟨rfl, ⟨n, c, l, h.tok g st⟩, muT_lt ht hF (fun hh => absurd hh nf)⟩⟩
    · rw [eq_i n1 six] at c6
      refine w_203_194 σ ⟨fun _ => ⟨_, tellCustom_OK hs (by omega) h, fun σ1 hq => w_203_213 σ1 ⟨rfl, hq.1, muT_lt ht hF hq.2⟩⟩, fun c0 => absurd (zq_i.mpr hF) c0⟩
