/-! literals: what must hold -/
set_option maxRecDepth 100000 in
theorem w_200_0 {d : Nat} {Q : Option Value → Sg → Prop} (σ : Sg) (x1 : Int32) (h : Rn PRG (d + 1) 200 2 [(0, .ref 97), (1, .int x1), (2, .int (0 : Int32))] [] σ Q) : Rn PRG (d + 1) 200 0 [(0, .ref 97), (1, .int x1)] [] σ Q := by
  have hM : PRG[200]? = some M_200 := rfl
  refine Rn.seg (pc' := 2) (ls' := [(2, .int (0 : Int32)), (0, .ref 97), (1, .int x1)]) (st' := []) (σ' := σ) hM 2 rfl ?_
  exact Rn.sub h (subL_cons rfl (subL_cons rfl (subL_cons rfl subL_nil))) (show ndL _ from (by decide : List.Nodup ([0, 1, 2] : List Nat)))
set_option maxRecDepth 100000 in
theorem w_200_2 {d : Nat} {Q : Option Value → Sg → Prop} (σ : Sg) (x1 x2 : Int32) (h : (∃ Qc : Int32 → Sg → Prop, OkI PRG d 189 [.ref 97, .int (30 : Int32)] σ Qc ∧ ∀ w2 σ1, Qc w2 σ1 → ((w2 = 0 → (∃ Qc : Sg → Prop, OkV PRG d 199 [.ref 97] σ1 Qc ∧ ∀ σ3, Qc σ3 → (((σ3.1 97 13) ≤ 0 → (inR (σ3.1 97 11) 403 = true ∧ (((σ3.1 97 13) = 0 → ((((σ3.1 100 (σ3.1 97 11).toNatClampNeg) - (11 : Int32)) < 0 → Rn PRG (d + 1) 200 80 [(0, .ref 97), (1, .int x1), (2, .int x2), (3, .int (σ1.1 97 37)), (4, .int ((σ3.1 100 (σ3.1 97 11).toNatClampNeg) - (11 : Int32)))] [] σ3 Q) ∧ (¬ ((σ3.1 100 (σ3.1 97 11).toNatClampNeg) - (11 : Int32)) < 0 → ((((σ3.1 100 (σ3.1 97 11).toNatClampNeg) - (11 : Int32)) ≤ (3 : Int32) → Rn PRG (d + 1) 200 85 [(0, .ref 97), (1, .int x1), (2, .int x2), (3, .int (σ1.1 97 37)), (4, .int ((σ3.1 100 (σ3.1 97 11).toNatClampNeg) - (11 : Int32)))] [] σ3 Q) ∧ (¬ ((σ3.1 100 (σ3.1 97 11).toNatClampNeg) - (11 : Int32)) ≤ (3 : Int32) → Rn PRG (d + 1) 200 80 [(0, .ref 97), (1, .int x1), (2, .int x2), (3, .int (σ1.1 97 37)), (4, .int ((σ3.1 100 (σ3.1 97 11).toNatClampNeg) - (11 : Int32)))] [] σ3 Q))))) ∧ (¬ (σ3.1 97 13) = 0 → Rn PRG (d + 1) 200 85 [(0, .ref 97), (1, .int x1), (2, .int x2), (3, .int (σ1.1 97 37)), (4, .int ((σ3.1 100 (σ3.1 97 11).toNatClampNeg) - (11 : Int32)))] [] σ3 Q)))) ∧ (¬ (σ3.1 97 13) ≤ 0 → (((σ3.1 97 13) = 0 → Rn PRG (d + 1) 200 85 [(0, .ref 97), (1, .int x1), (2, .int x2), (3, .int (σ1.1 97 37)), (4, .int (0 : Int32))] [] σ3 Q) ∧ (¬ (σ3.1 97 13) = 0 → Rn PRG (d + 1) 200 85 [(0, .ref 97), (1, .int x1), (2, .int x2), (3, .int (σ1.1 97 37)), (4, .int (0 : Int32))] [] σ3 Q)))))) ∧ (¬ w2 = 0 → ((x2 = 0 → (∃ Qc : Sg → Prop, OkV PRG d 192 [.ref 97] σ1 Qc ∧ ∀ σ5, Qc σ5 → Rn PRG (d + 1) 200 2 [(0, .ref 97), (1, .int x1), (2, .int (1 : Int32))] [] σ5 Q)) ∧ (¬ x2 = 0 → (∃ Qc : Sg → Prop, OkV PRG d 192 [.ref 97] σ1 Qc ∧ ∀ σ4, Qc σ4 → Rn PRG (d + 1) 200 2 [(0, .ref 97), (1, .int x1), (2, .int (0 : Int32))] [] σ4 Q))))))) : Rn PRG (d + 1) 200 2 [(0, .ref 97), (1, .int x1), (2, .int x2)] [] σ Q := by
  have hM : PRG[200]? = some M_200 := rfl
  refine Rn.seg (pc' := 5) (ls' := [(0, .ref 97), (1, .int x1), (2, .int x2)]) (st' := [.int (30 : Int32), .ref 97]) (σ' := σ) hM 2 rfl ?_
  obtain ⟨Qc, hq, h⟩ := h
  refine Rn.cI hM rfl rfl (by decide) hq (fun w2 σ1 hw => ?_)
  replace h := h w2 σ1 hw
  refine Rn.br (c := w2 = 0) (a := 28) (b := 11) (ls' := [(0, .ref 97), (1, .int x1), (2, .int x2)]) (st' := []) (σ' := σ1) hM 1 rfl (fun c => ?_) (fun c => ?_)
  · replace h := h.1 c
    refine Rn.seg (pc' := 34) (ls' := [(3, .int (σ1.1 97 37)), (0, .ref 97), (1, .int x1), (2, .int x2)]) (st' := [.ref 97]) (σ' := σ1) hM 4 rfl ?_
    obtain ⟨Qc, hq, h⟩ := h
    refine Rn.cV hM rfl rfl (by decide) hq (fun σ3 hw => ?_)
    replace h := h σ3 hw
    refine Rn.br (c := (σ3.1 97 13) ≤ 0) (a := 48) (b := 44) (ls' := [(3, .int (σ1.1 97 37)), (0, .ref 97), (1, .int x1), (2, .int x2)]) (st' := []) (σ' := σ3) hM 3 rfl (fun c => ?_) (fun c => ?_)
    · replace h := h.1 c
      refine Rn.seg (pc' := 56) (ls' := [(3, .int (σ1.1 97 37)), (0, .ref 97), (1, .int x1), (2, .int x2)]) (st' := [.int (σ3.1 97 11), .ref 100]) (σ' := σ3) hM 4 rfl ?_
      refine Rn.iald hM rfl rfl h.1 ?_
      refine Rn.brN (c := (σ3.1 97 13) = 0) (a := 85) (b := 69) (ls' := [(4, .int ((σ3.1 100 (σ3.1 97 11).toNatClampNeg) - (11 : Int32))), (3, .int (σ1.1 97 37)), (0, .ref 97), (1, .int x1), (2, .int x2)]) (st' := []) (σ' := σ3) hM 6 rfl (fun c => ?_) (fun c => ?_)
      · replace h := h.2.2 c
        refine Rn.seg (pc' := 85) (ls' := [(4, .int ((σ3.1 100 (σ3.1 97 11).toNatClampNeg) - (11 : Int32))), (3, .int (σ1.1 97 37)), (0, .ref 97), (1, .int x1), (2, .int x2)]) (st' := []) (σ' := σ3) hM 0 rfl ?_
        exact Rn.sub h (subL_cons rfl (subL_cons rfl (subL_cons rfl (subL_cons rfl (subL_cons rfl subL_nil))))) (show ndL _ from (by decide : List.Nodup ([0, 1, 2, 3, 4] : List Nat)))
      · replace h := h.2.1 c
        refine Rn.br (c := ((σ3.1 100 (σ3.1 97 11).toNatClampNeg) - (11 : Int32)) < 0) (a := 80) (b := 74) (ls' := [(4, .int ((σ3.1 100 (σ3.1 97 11).toNatClampNeg) - (11 : Int32))), (3, .int (σ1.1 97 37)), (0, .ref 97), (1, .int x1), (2, .int x2)]) (st' := []) (σ' := σ3) hM 2 rfl (fun c => ?_) (fun c => ?_)
        · replace h := h.1 c
          refine Rn.seg (pc' := 80) (ls' := [(4, .int ((σ3.1 100 (σ3.1 97 11).toNatClampNeg) - (11 : Int32))), (3, .int (σ1.1 97 37)), (0, .ref 97), (1, .int x1), (2, .int x2)]) (st' := []) (σ' := σ3) hM 0 rfl ?_
          exact Rn.sub h (subL_cons rfl (subL_cons rfl (subL_cons rfl (subL_cons rfl (subL_cons rfl subL_nil))))) (show ndL _ from (by decide : List.Nodup ([0, 1, 2, 3, 4] : List Nat)))
        · replace h := h.2 c
          refine Rn.br (c := ((σ3.1 100 (σ3.1 97 11).toNatClampNeg) - (11 : Int32)) ≤ (3 : Int32)) (a := 85) (b := 80) (ls' := [(4, .int ((σ3.1 100 (σ3.1 97 11).toNatClampNeg) - (11 : Int32))), (3, .int (σ1.1 97 37)), (0, .ref 97), (1, .int x1), (2, .int x2)]) (st' := []) (σ' := σ3) hM 3 rfl (fun c => ?_) (fun c => ?_)
          · replace h := h.1 c
            refine Rn.seg (pc' := 85) (ls' := [(4, .int ((σ3.1 100 (σ3.1 97 11).toNatClampNeg) - (11 : Int32))), (3, .int (σ1.1 97 37)), (0, .ref 97), (1, .int x1), (2, .int x2)]) (st' := []) (σ' := σ3) hM 0 rfl ?_
            exact Rn.sub h (subL_cons rfl (subL_cons rfl (subL_cons rfl (subL_cons rfl (subL_cons rfl subL_nil))))) (show ndL _ from (by decide : List.Nodup ([0, 1, 2, 3, 4] : List Nat)))
          · replace h := h.2 c
            refine Rn.seg (pc' := 80) (ls' := [(4, .int ((σ3.1 100 (σ3.1 97 11).toNatClampNeg) - (11 : Int32))), (3, .int (σ1.1 97 37)), (0, .ref 97), (1, .int x1), (2, .int x2)]) (st' := []) (σ' := σ3) hM 0 rfl ?_
            exact Rn.sub h (subL_cons rfl (subL_cons rfl (subL_cons rfl (subL_cons rfl (subL_cons rfl subL_nil))))) (show ndL _ from (by decide : List.Nodup ([0, 1, 2, 3, 4] : List Nat)))
    · replace h := h.2 c
      refine Rn.brN (c := (σ3.1 97 13) = 0) (a := 85) (b := 69) (ls' := [(4, .int (0 : Int32)), (3, .int (σ1.1 97 37)), (0, .ref 97), (1, .int x1), (2, .int x2)]) (st' := []) (σ' := σ3) hM 6 rfl (fun c => ?_) (fun c => ?_)
      · replace h := h.2 c
        refine Rn.seg (pc' := 85) (ls' := [(4, .int (0 : Int32)), (3, .int (σ1.1 97 37)), (0, .ref 97), (1, .int x1), (2, .int x2)]) (st' := []) (σ' := σ3) hM 0 rfl ?_
        exact Rn.sub h (subL_cons rfl (subL_cons rfl (subL_cons rfl (subL_cons rfl (subL_cons rfl subL_nil))))) (show ndL _ from (by decide : List.Nodup ([0, 1, 2, 3, 4] : List Nat)))
      · replace h := h.1 c
        refine Rn.seg (pc' := 85) (ls' := [(4, .int (0 : Int32)), (3, .int (σ1.1 97 37)), (0, .ref 97), (1, .int x1), (2, .int x2)]) (st' := []) (σ' := σ3) hM 5 rfl ?_
        exact Rn.sub h (subL_cons rfl (subL_cons rfl (subL_cons rfl (subL_cons rfl (subL_cons rfl subL_nil))))) (show ndL _ from (by decide : List.Nodup ([0, 1, 2, 3, 4] : List Nat)))
  · replace h := h.2 c
    refine Rn.brN (c := x2 = 0) (a := 19) (b := 15) (ls' := [(0, .ref 97), (1, .int x1), (2, .int x2)]) (st' := []) (σ' := σ1) hM 2 rfl (fun c => ?_) (fun c => ?_)
    · replace h := h.2 c
      refine Rn.seg (pc' := 22) (ls' := [(2, .int (0 : Int32)), (0, .ref 97), (1, .int x1)]) (st' := [.ref 97]) (σ' := σ1) hM 3 rfl ?_
      obtain ⟨Qc, hq, h⟩ := h
      refine Rn.cV hM rfl rfl (by decide) hq (fun σ4 hw => ?_)
      replace h := h σ4 hw
      refine Rn.seg (pc' := 2) (ls' := [(2, .int (0 : Int32)), (0, .ref 97), (1, .int x1)]) (st' := []) (σ' := σ4) hM 1 rfl ?_
      exact Rn.sub h (subL_cons rfl (subL_cons rfl (subL_cons rfl subL_nil))) (show ndL _ from (by decide : List.Nodup ([0, 1, 2] : List Nat)))
    · replace h := h.1 c
      refine Rn.seg (pc' := 22) (ls' := [(2, .int (1 : Int32)), (0, .ref 97), (1, .int x1)]) (st' := [.ref 97]) (σ' := σ1) hM 4 rfl ?_
      obtain ⟨Qc, hq, h⟩ := h
      refine Rn.cV hM rfl rfl (by decide) hq (fun σ5 hw => ?_)
      replace h := h σ5 hw
      refine Rn.seg (pc' := 2) (ls' := [(2, .int (1 : Int32)), (0, .ref 97), (1, .int x1)]) (st' := []) (σ' := σ5) hM 1 rfl ?_
      exact Rn.sub h (subL_cons rfl (subL_cons rfl (subL_cons rfl subL_nil))) (show ndL _ from (by decide : List.Nodup ([0, 1, 2] : List Nat)))
set_option maxRecDepth 100000 in
theorem w_200_85 {d : Nat} {Q : Option Value → Sg → Prop} (σ : Sg) (x1 x2 x3 x4 : Int32) (h : (∃ Qc : Sg → Prop, OkV PRG d 192 [.ref 97] σ Qc ∧ ∀ σ1, Qc σ1 → (∃ Qc : Sg → Prop, OkV PRG d 199 [.ref 97] σ1 Qc ∧ ∀ σ2, Qc σ2 → (((σ2.1 97 13) ≤ 0 → (inR (σ2.1 97 30) 300 = true ∧ (inR (σ2.1 97 30) 300 = true ∧ (inR (σ2.1 97 30) 300 = true ∧ (inR (σ2.1 97 30) 300 = true ∧ (inR (σ2.1 97 30) 300 = true ∧ (inR (σ2.1 97 30) 300 = true ∧ Q none (s1 (s1 (s1 (s1 (s1 (s1 (s1 σ2 114 (σ2.1 97 30).toNatClampNeg x4) 115 (σ2.1 97 30).toNatClampNeg (vp_nar .boolean x2)) 116 (σ2.1 97 30).toNatClampNeg (vp_nar .boolean x1)) 117 (σ2.1 97 30).toNatClampNeg x3) 118 (σ2.1 97 30).toNatClampNeg (σ1.1 97 37)) 119 (σ2.1 97 30).toNatClampNeg (σ2.1 97 37)) 97 30 ((σ2.1 97 30) + (1 : Int32)))))))))) ∧ (¬ (σ2.1 97 13) ≤ 0 → Q none σ2))))) : Rn PRG (d + 1) 200 85 [(0, .ref 97), (1, .int x1), (2, .int x2), (3, .int x3), (4, .int x4)] [] σ Q := by
  have hM : PRG[200]? = some M_200 := rfl
  refine Rn.seg (pc' := 86) (ls' := [(0, .ref 97), (1, .int x1), (2, .int x2), (3, .int x3), (4, .int x4)]) (st' := [.ref 97]) (σ' := σ) hM 1 rfl ?_
  obtain ⟨Qc, hq, h⟩ := h
  refine Rn.cV hM rfl rfl (by decide) hq (fun σ1 hw => ?_)
  replace h := h σ1 hw
  refine Rn.seg (pc' := 96) (ls' := [(5, .int (σ1.1 97 37)), (0, .ref 97), (1, .int x1), (2, .int x2), (3, .int x3), (4, .int x4)]) (st' := [.ref 97]) (σ' := σ1) hM 4 rfl ?_
  obtain ⟨Qc, hq, h⟩ := h
  refine Rn.cV hM rfl rfl (by decide) hq (fun σ2 hw => ?_)
  replace h := h σ2 hw
  refine Rn.br (c := (σ2.1 97 13) ≤ 0) (a := 107) (b := 106) (ls' := [(5, .int (σ1.1 97 37)), (0, .ref 97), (1, .int x1), (2, .int x2), (3, .int x3), (4, .int x4)]) (st' := []) (σ' := σ2) hM 3 rfl (fun c => ?_) (fun c => ?_)
  · replace h := h.1 c
    refine Rn.seg (pc' := 117) (ls' := [(5, .int (σ1.1 97 37)), (0, .ref 97), (1, .int x1), (2, .int x2), (3, .int x3), (4, .int x4)]) (st' := [.int x4, .int (σ2.1 97 30), .ref 114]) (σ' := σ2) hM 5 rfl ?_
    refine Rn.iast hM rfl rfl h.1 ?_
    refine Rn.seg (pc' := 127) (ls' := [(5, .int (σ1.1 97 37)), (0, .ref 97), (1, .int x1), (2, .int x2), (3, .int x3), (4, .int x4)]) (st' := [.int x2, .int (σ2.1 97 30), .ref 115]) (σ' := (s1 σ2 114 (σ2.1 97 30).toNatClampNeg x4)) hM 5 rfl ?_
    refine Rn.bast3 hM rfl rfl h.2.1 ?_
    refine Rn.seg (pc' := 137) (ls' := [(5, .int (σ1.1 97 37)), (0, .ref 97), (1, .int x1), (2, .int x2), (3, .int x3), (4, .int x4)]) (st' := [.int x1, .int (σ2.1 97 30), .ref 116]) (σ' := (s1 (s1 σ2 114 (σ2.1 97 30).toNatClampNeg x4) 115 (σ2.1 97 30).toNatClampNeg (vp_nar .boolean x2))) hM 5 rfl ?_
    refine Rn.bast3 hM rfl rfl h.2.2.1 ?_
    refine Rn.seg (pc' := 147) (ls' := [(5, .int (σ1.1 97 37)), (0, .ref 97), (1, .int x1), (2, .int x2), (3, .int x3), (4, .int x4)]) (st' := [.int x3, .int (σ2.1 97 30), .ref 117]) (σ' := (s1 (s1 (s1 σ2 114 (σ2.1 97 30).toNatClampNeg x4) 115 (σ2.1 97 30).toNatClampNeg (vp_nar .boolean x2)) 116 (σ2.1 97 30).toNatClampNeg (vp_nar .boolean x1))) hM 5 rfl ?_
    refine Rn.iast hM rfl rfl h.2.2.2.1 ?_
    refine Rn.seg (pc' := 158) (ls' := [(5, .int (σ1.1 97 37)), (0, .ref 97), (1, .int x1), (2, .int x2), (3, .int x3), (4, .int x4)]) (st' := [.int (σ1.1 97 37), .int (σ2.1 97 30), .ref 118]) (σ' := (s1 (s1 (s1 (s1 σ2 114 (σ2.1 97 30).toNatClampNeg x4) 115 (σ2.1 97 30).toNatClampNeg (vp_nar .boolean x2)) 116 (σ2.1 97 30).toNatClampNeg (vp_nar .boolean x1)) 117 (σ2.1 97 30).toNatClampNeg x3)) hM 5 rfl ?_
    refine Rn.iast hM rfl rfl h.2.2.2.2.1 ?_
    refine Rn.seg (pc' := 171) (ls' := [(5, .int (σ1.1 97 37)), (0, .ref 97), (1, .int x1), (2, .int x2), (3, .int x3), (4, .int x4)]) (st' := [.int (σ2.1 97 37), .int (σ2.1 97 30), .ref 119]) (σ' := (s1 (s1 (s1 (s1 (s1 σ2 114 (σ2.1 97 30).toNatClampNeg x4) 115 (σ2.1 97 30).toNatClampNeg (vp_nar .boolean x2)) 116 (σ2.1 97 30).toNatClampNeg (vp_nar .boolean x1)) 117 (σ2.1 97 30).toNatClampNeg x3) 118 (σ2.1 97 30).toNatClampNeg (σ1.1 97 37))) hM 6 rfl ?_
    refine Rn.iast hM rfl rfl h.2.2.2.2.2.1 ?_
    refine Rn.seg (pc' := 182) (ls' := [(5, .int (σ1.1 97 37)), (0, .ref 97), (1, .int x1), (2, .int x2), (3, .int x3), (4, .int x4)]) (st' := []) (σ' := (s1 (s1 (s1 (s1 (s1 (s1 (s1 σ2 114 (σ2.1 97 30).toNatClampNeg x4) 115 (σ2.1 97 30).toNatClampNeg (vp_nar .boolean x2)) 116 (σ2.1 97 30).toNatClampNeg (vp_nar .boolean x1)) 117 (σ2.1 97 30).toNatClampNeg x3) 118 (σ2.1 97 30).toNatClampNeg (σ1.1 97 37)) 119 (σ2.1 97 30).toNatClampNeg (σ2.1 97 37)) 97 30 ((σ2.1 97 30) + (1 : Int32)))) hM 6 rfl ?_
    exact Rn.ret hM rfl rfl h.2.2.2.2.2.2
  · replace h := h.2 c
    refine Rn.seg (pc' := 106) (ls' := [(5, .int (σ1.1 97 37)), (0, .ref 97), (1, .int x1), (2, .int x2), (3, .int x3), (4, .int x4)]) (st' := []) (σ' := σ2) hM 0 rfl ?_
    exact Rn.ret hM rfl rfl h
set_option maxRecDepth 100000 in
theorem w_200_80 {d : Nat} {Q : Option Value → Sg → Prop} (σ : Sg) (x1 x2 x3 x4 : Int32) (h : (∃ Qc : Sg → Prop, OkV PRG d 190 [.ref 97, .int (1 : Int32)] σ Qc ∧ ∀ σ1, Qc σ1 → Rn PRG (d + 1) 200 85 [(0, .ref 97), (1, .int x1), (2, .int x2), (3, .int x3), (4, .int x4)] [] σ1 Q)) : Rn PRG (d + 1) 200 80 [(0, .ref 97), (1, .int x1), (2, .int x2), (3, .int x3), (4, .int x4)] [] σ Q := by
  have hM : PRG[200]? = some M_200 := rfl
  refine Rn.seg (pc' := 82) (ls' := [(0, .ref 97), (1, .int x1), (2, .int x2), (3, .int x3), (4, .int x4)]) (st' := [.int (1 : Int32), .ref 97]) (σ' := σ) hM 2 rfl ?_
  obtain ⟨Qc, hq, h⟩ := h
  refine Rn.cV hM rfl rfl (by decide) hq (fun σ1 hw => ?_)
  replace h := h σ1 hw
  refine Rn.seg (pc' := 85) (ls' := [(0, .ref 97), (1, .int x1), (2, .int x2), (3, .int x3), (4, .int x4)]) (st' := []) (σ' := σ1) hM 0 rfl ?_
  exact Rn.sub h (subL_cons rfl (subL_cons rfl (subL_cons rfl (subL_cons rfl (subL_cons rfl subL_nil))))) (show ndL _ from (by decide : List.Nodup ([0, 1, 2, 3, 4] : List Nat)))
set_option maxRecDepth 100000 in
theorem w_201_0 {d : Nat} {Q : Option Value → Sg → Prop} (σ : Sg) (h : (∃ Qc : Sg → Prop, OkV PRG d 192 [.ref 97] σ Qc ∧ ∀ σ1, Qc σ1 → Rn PRG (d + 1) 201 8 [(0, .ref 97), (1, .int (1 : Int32)), (2, .int (1 : Int32))] [] σ1 Q)) : Rn PRG (d + 1) 201 0 [(0, .ref 97)] [] σ Q := by
  have hM : PRG[201]? = some M_201 := rfl
  refine Rn.seg (pc' := 1) (ls' := [(0, .ref 97)]) (st' := [.ref 97]) (σ' := σ) hM 1 rfl ?_
  obtain ⟨Qc, hq, h⟩ := h
  refine Rn.cV hM rfl rfl (by decide) hq (fun σ1 hw => ?_)
  replace h := h σ1 hw
  refine Rn.seg (pc' := 8) (ls' := [(2, .int (1 : Int32)), (1, .int (1 : Int32)), (0, .ref 97)]) (st' := []) (σ' := σ1) hM 4 rfl ?_
  exact Rn.sub h (subL_cons rfl (subL_cons rfl (subL_cons rfl subL_nil))) (show ndL _ from (by decide : List.Nodup ([0, 1, 2] : List Nat)))
set_option maxRecDepth 100000 in
theorem w_201_8 {d : Nat} {Q : Option Value → Sg → Prop} (σ : Sg) (x1 x2 : Int32) (h : ((x2 = 0 → Rn PRG (d + 1) 201 61 [] [] σ Q) ∧ (¬ x2 = 0 → (((σ.1 97 13) = 0 → (∃ Qc : Sg → Prop, OkV PRG d 200 [.ref 97, .int x1] σ Qc ∧ ∀ σ1, Qc σ1 → (∃ Qc : Int32 → Sg → Prop, OkI PRG d 189 [.ref 97, .int (28 : Int32)] σ1 Qc ∧ ∀ w3 σ2, Qc w3 σ2 → ((w3 = 0 → (∃ Qc : Int32 → Sg → Prop, OkI PRG d 189 [.ref 97, .int (29 : Int32)] σ2 Qc ∧ ∀ w5 σ4, Qc w5 σ4 → ((w5 = 0 → Rn PRG (d + 1) 201 8 [(0, .ref 97), (1, .int w3), (2, .int (0 : Int32))] [] σ4 Q) ∧ (¬ w5 = 0 → Rn PRG (d + 1) 201 44 [(0, .ref 97), (1, .int w3)] [] σ4 Q)))) ∧ (¬ w3 = 0 → Rn PRG (d + 1) 201 44 [(0, .ref 97), (1, .int w3)] [] σ2 Q))))) ∧ (¬ (σ.1 97 13) = 0 → Rn PRG (d + 1) 201 61 [] [] σ Q))))) : Rn PRG (d + 1) 201 8 [(0, .ref 97), (1, .int x1), (2, .int x2)] [] σ Q := by
  have hM : PRG[201]? = some M_201 := rfl
  refine Rn.br (c := x2 = 0) (a := 61) (b := 12) (ls' := [(0, .ref 97), (1, .int x1), (2, .int x2)]) (st' := []) (σ' := σ) hM 2 rfl (fun c => ?_) (fun c => ?_)
  · replace h := h.1 c
    refine Rn.seg (pc' := 61) (ls' := [(0, .ref 97), (1, .int x1), (2, .int x2)]) (st' := []) (σ' := σ) hM 0 rfl ?_
    exact Rn.sub h subL_nil (show ndL _ from (by decide : List.Nodup ([] : List Nat)))
  · replace h := h.2 c
    refine Rn.brN (c := (σ.1 97 13) = 0) (a := 61) (b := 19) (ls' := [(0, .ref 97), (1, .int x1), (2, .int x2)]) (st' := []) (σ' := σ) hM 3 rfl (fun c => ?_) (fun c => ?_)
    · replace h := h.2 c
      refine Rn.seg (pc' := 61) (ls' := [(0, .ref 97), (1, .int x1), (2, .int x2)]) (st' := []) (σ' := σ) hM 0 rfl ?_
      exact Rn.sub h subL_nil (show ndL _ from (by decide : List.Nodup ([] : List Nat)))
    · replace h := h.1 c
      refine Rn.seg (pc' := 21) (ls' := [(0, .ref 97), (1, .int x1), (2, .int x2)]) (st' := [.int x1, .ref 97]) (σ' := σ) hM 2 rfl ?_
      obtain ⟨Qc, hq, h⟩ := h
      refine Rn.cV hM rfl rfl (by decide) hq (fun σ1 hw => ?_)
      replace h := h σ1 hw
      refine Rn.seg (pc' := 27) (ls' := [(0, .ref 97), (1, .int x1), (2, .int x2)]) (st' := [.int (28 : Int32), .ref 97]) (σ' := σ1) hM 2 rfl ?_
      obtain ⟨Qc, hq, h⟩ := h
      refine Rn.cI hM rfl rfl (by decide) hq (fun w3 σ2 hw => ?_)
      replace h := h w3 σ2 hw
      refine Rn.brN (c := w3 = 0) (a := 44) (b := 35) (ls' := [(1, .int w3), (0, .ref 97), (2, .int x2)]) (st' := []) (σ' := σ2) hM 3 rfl (fun c => ?_) (fun c => ?_)
      · replace h := h.2 c
        refine Rn.seg (pc' := 44) (ls' := [(1, .int w3), (0, .ref 97), (2, .int x2)]) (st' := []) (σ' := σ2) hM 0 rfl ?_
        exact Rn.sub h (subL_cons rfl (subL_cons rfl subL_nil)) (show ndL _ from (by decide : List.Nodup ([0, 1] : List Nat)))
      · replace h := h.1 c
        refine Rn.seg (pc' := 38) (ls' := [(1, .int w3), (0, .ref 97), (2, .int x2)]) (st' := [.int (29 : Int32), .ref 97]) (σ' := σ2) hM 2 rfl ?_
        obtain ⟨Qc, hq, h⟩ := h
        refine Rn.cI hM rfl rfl (by decide) hq (fun w5 σ4 hw => ?_)
        replace h := h w5 σ4 hw
        refine Rn.br (c := w5 = 0) (a := 48) (b := 44) (ls' := [(1, .int w3), (0, .ref 97), (2, .int x2)]) (st' := []) (σ' := σ4) hM 1 rfl (fun c => ?_) (fun c => ?_)
        · replace h := h.1 c
          refine Rn.seg (pc' := 8) (ls' := [(2, .int (0 : Int32)), (1, .int w3), (0, .ref 97)]) (st' := []) (σ' := σ4) hM 4 rfl ?_
          exact Rn.sub h (subL_cons rfl (subL_cons rfl (subL_cons rfl subL_nil))) (show ndL _ from (by decide : List.Nodup ([0, 1, 2] : List Nat)))
        · replace h := h.2 c
          refine Rn.seg (pc' := 44) (ls' := [(1, .int w3), (0, .ref 97), (2, .int x2)]) (st' := []) (σ' := σ4) hM 0 rfl ?_
          exact Rn.sub h (subL_cons rfl (subL_cons rfl subL_nil)) (show ndL _ from (by decide : List.Nodup ([0, 1] : List Nat)))
set_option maxRecDepth 100000 in
theorem w_201_61 {d : Nat} {Q : Option Value → Sg → Prop} (σ : Sg) (h : Q none σ) : Rn PRG (d + 1) 201 61 [] [] σ Q := by
  have hM : PRG[201]? = some M_201 := rfl
  refine Rn.seg (pc' := 61) (ls' := []) (st' := []) (σ' := σ) hM 0 rfl ?_
  exact Rn.ret hM rfl rfl h
set_option maxRecDepth 100000 in
theorem w_201_44 {d : Nat} {Q : Option Value → Sg → Prop} (σ : Sg) (x1 : Int32) (h : (∃ Qc : Sg → Prop, OkV PRG d 192 [.ref 97] σ Qc ∧ ∀ σ1, Qc σ1 → Rn PRG (d + 1) 201 8 [(0, .ref 97), (1, .int x1), (2, .int (1 : Int32))] [] σ1 Q)) : Rn PRG (d + 1) 201 44 [(0, .ref 97), (1, .int x1)] [] σ Q := by
  have hM : PRG[201]? = some M_201 := rfl
  refine Rn.seg (pc' := 55) (ls' := [(2, .int (1 : Int32)), (0, .ref 97), (1, .int x1)]) (st' := [.ref 97]) (σ' := σ) hM 6 rfl ?_
  obtain ⟨Qc, hq, h⟩ := h
  refine Rn.cV hM rfl rfl (by decide) hq (fun σ1 hw => ?_)
  replace h := h σ1 hw
  refine Rn.seg (pc' := 8) (ls' := [(2, .int (1 : Int32)), (0, .ref 97), (1, .int x1)]) (st' := []) (σ' := σ1) hM 1 rfl ?_
  exact Rn.sub h (subL_cons rfl (subL_cons rfl (subL_cons rfl subL_nil))) (show ndL _ from (by decide : List.Nodup ([0, 1, 2] : List Nat)))
/-! literals -/
theorem WE.frame {σ σ' : Sg} {a b : Int32} (h : WE σ a b) (hf : ∀ x : Nat, a.toInt ≤ (x : Int) → (x : Int) < b.toInt → σ'.1 120 x = σ.1 120 x ∧ σ'.1 121 x = σ.1 121 x) : WE σ' a b := by
  obtain ⟨b1, b2, D, b3, b4⟩ := h
  refine ⟨b1, b2, D, b3, fun c c1 c2 => ?_⟩
  rw [(hf c c1 c2).1, (hf c c1 c2).2]
  exact b4 c c1 c2
/-- a literal whose codes end at c or ahead of it -/
def LTc (σ : Sg) (j c : Nat) : Prop := LIT σ j ∧ (σ.1 118 j).toInt ≤ (c : Int) ∧ (σ.1 119 j).toInt ≤ (c : Int)
theorem LTc.frame {σ σ' : Sg} {j c c' : Nat} (h : LTc σ j c) (hc : c ≤ c') (e117 : σ'.1 117 j = σ.1 117 j) (e118 : σ'.1 118 j = σ.1 118 j) (e119 : σ'.1 119 j = σ.1 119 j) (hf : ∀ x, x < c → σ'.1 120 x = σ.1 120 x ∧ σ'.1 121 x = σ.1 121 x) : LTc σ' j c' := by
  obtain ⟨⟨h1, h2, h3⟩, h4, h5⟩ := h
  refine ⟨⟨?_, ?_, ?_⟩, by rw [e118]; omega, by rw [e119]; omega⟩
  · rw [e117, e118]; exact h1.frame (fun x _ x2 => hf x (by omega))
  · rw [e118, e119]; exact h2.frame (fun x _ x2 => hf x (by omega))
  · unfold RG; rw [e117, e118, e119]; exact h3
/-- between literals: c codes, l literals -/
def PB (s c l : Nat) (σ : Sg) : Prop := FV σ ∧ (σ.1 97 37).toInt = (c : Int) ∧ 420 * s ≤ c ∧ (c : Int) ≤ 420 * (s : Int) + (σ.1 97 11).toInt + 1 ∧ ((σ.1 97 13).toInt = 0 → (c : Int) ≤ 420 * (s : Int) + (σ.1 97 11).toInt) ∧ (∃ o : Nat, (σ.1 97 12).toInt = (o : Int) ∧ o ≤ 7 ∧ ((σ.1 97 13).toInt = 0 → o ≤ 6)) ∧ (σ.1 97 30).toInt = (l : Int) ∧ 150 * s ≤ l ∧ 3 * ((l : Int) - 150 * (s : Int)) ≤ (σ.1 97 11).toInt
theorem PB.step {s c l : Nat} {σ σ' : Sg} (h : PB s c l σ) (st : ST σ σ') (e12 : σ'.1 97 12 = σ.1 97 12) (e30 : σ'.1 97 30 = σ.1 97 30) (e37 : σ'.1 97 37 = σ.1 97 37) : PB s c l σ' := by
  obtain ⟨h1, h2, h3, h4, h5, ⟨o, o1, o2, o3⟩, h6, h7, h8⟩ := h
  have hT := st.2.1
  refine ⟨st.1, by rw [e37]; exact h2, h3, by omega, fun hh => by have := h5 (st.2.2.1 hh); omega, ⟨o, by rw [e12]; exact o1, o2, fun hh => o3 (st.2.2.1 hh)⟩, by rw [e30]; exact h6, h7, by omega⟩
theorem PB.tok {s c l : Nat} {σ σ' : Sg} (h : PB s c l σ) (g : Gl mdTok σ σ') (st : ST σ σ') : PB s c l σ' := h.step st (g.get (q := 97) (κ := 12) rfl rfl) (g.get (q := 97) (κ := 12) rfl rfl) (g.get (q := 97) (κ := 12) rfl rfl)
theorem PB.expr {s c l : Nat} {σ : Sg} (hs : s ≤ 1) (ht : typed TYP σ) (h : PB s c l σ) : OkV PRG 4 199 [.ref 97] σ (XP s c σ) := by
  obtain ⟨h1, h2, h3, h4, h5, ⟨o, o1, o2, o3⟩, h6, h7, h8⟩ := h
  exact expression_OK hs ht h1 h2 h4 h5 o1 o2 o3
theorem PB.lim {s c l : Nat} {σ : Sg} (ht : typed TYP σ) (h : PB s c l σ) : c ≤ 420 * s + 401 ∧ l ≤ 150 * s + 133 := by
  obtain ⟨h1, h2, h3, h4, h5, -, h6, h7, h8⟩ := h
  have := t_rg ht
  omega
theorem XP.pb {s c l : Nat} {σ σ' : Sg} (h : PB s c l σ) (hx : XP s c σ σ') : ∃ c', PB s c' l σ' ∧ c ≤ c' ∧ (∀ j, j < c ∨ 420 * s + 402 ≤ j → σ'.1 120 j = σ.1 120 j ∧ σ'.1 121 j = σ.1 121 j) ∧ ((σ'.1 97 13).toInt = 0 → (σ.1 97 11).toInt + 1 ≤ (σ'.1 97 11).toInt ∧ CODE σ' c c' 1) := by
  obtain ⟨h1, h2, h3, h4, h5, -, h6, h7, h8⟩ := h
  obtain ⟨g, st, c', x1, x2, x3, x4, x5, x6, x7⟩ := hx
  have hT := st.2.1
  refine ⟨c', ⟨st.1, x1, by omega, x3, x4, x5, ?_, h7, by omega⟩, x2, x6, x7⟩
  rw [g.get (q := 97) (κ := 12) rfl rfl]; exact h6
def mdLit : List (Nat × Nat × Nat) := [(12, 11, 16), (12, 30, 30), (12, 37, 37), (12, 41, 41), (70, 0, 299), (71, 0, 299), (72, 0, 299), (73, 0, 299), (74, 0, 299), (75, 0, 299), (76, 0, 839), (77, 0, 839), (78, 0, 63)]
/-- what literals leave as it was -/
def FR2 (s c l : Nat) (σ σ' : Sg) : Prop := (∀ j, j < c ∨ 420 * s + 402 ≤ j → σ'.1 120 j = σ.1 120 j ∧ σ'.1 121 j = σ.1 121 j) ∧ ∀ j, j < l ∨ 150 * s + 134 ≤ j → σ'.1 117 j = σ.1 117 j ∧ σ'.1 118 j = σ.1 118 j ∧ σ'.1 119 j = σ.1 119 j
theorem FR2.refl {s c l : Nat} {σ : Sg} : FR2 s c l σ σ := ⟨fun _ _ => ⟨rfl, rfl⟩, fun _ _ => ⟨rfl, rfl, rfl⟩⟩
theorem FR2.trans {s c l c1 l1 : Nat} {σ σ1 σ2 : Sg} (h1 : FR2 s c l σ σ1) (h2 : FR2 s c1 l1 σ1 σ2) (hc : c ≤ c1) (hl : l ≤ l1) : FR2 s c l σ σ2 := by
  refine ⟨fun j hj => ?_, fun j hj => ?_⟩
  · have a := h1.1 j hj
    have b := h2.1 j (by omega)
    rw [b.1, b.2]; exact a
  · have a := h1.2 j hj
    have b := h2.2 j (by omega)
    rw [b.1, b.2.1, b.2.2]; exact a
theorem FR2.same {s c l : Nat} {σ σ' : Sg} (e : ∀ q k, 117 ≤ q → q ≤ 121 → σ'.1 q k = σ.1 q k) : FR2 s c l σ σ' := ⟨fun j _ => ⟨e 120 j (by omega) (by omega), e 121 j (by omega) (by omega)⟩, fun j _ => ⟨e 117 j (by omega) (by omega), e 118 j (by omega) (by omega), e 119 j (by omega) (by omega)⟩⟩
theorem FR2.tok {s c l : Nat} {σ σ' : Sg} (g : Gl mdTok σ σ') : FR2 s c l σ σ' := by
  refine ⟨fun j _ => ⟨g.get (q := 120) (κ := 76) rfl rfl, g.get (q := 121) (κ := 77) rfl rfl⟩, fun j _ => ⟨g.get (q := 117) (κ := 73) rfl rfl, g.get (q := 118) (κ := 74) rfl rfl, g.get (q := 119) (κ := 75) rfl rfl⟩⟩
/-- behind a literal -/
def LQ (s c l : Nat) (σ σ' : Sg) : Prop := Gl mdLit σ σ' ∧ ST σ σ' ∧ ∃ c' l', PB s c' l' σ' ∧ c ≤ c' ∧ l ≤ l' ∧ FR2 s c l σ σ' ∧ ∀ j, l ≤ j → j < l' → LTc σ' j c'
theorem lit_85 {s c l a c1 : Nat} {x1 x2 x3 x4 : Int32} {σ0 σ : Sg} (hs : s ≤ 1) (g0 : Gl mdLit σ0 σ) (st0 : ST σ0 σ) (hp : PB s c1 l σ) (hfr : FR2 s c l σ0 σ) (hca : c ≤ a) (hac : a ≤ c1) (hs4 : 420 * s ≤ a) (hx3 : x3.toInt = (a : Int)) (hk : (σ.1 97 13).toInt = 0 → (σ0.1 97 11).toInt + 1 ≤ (σ.1 97 11).toInt ∧ CODE σ a c1 1) (hl3 : 3 * ((l : Int) - 150 * (s : Int)) ≤ (σ0.1 97 11).toInt) : Rn PRG (4 + 1) 200 85 [(0, .ref 97), (1, .int x1), (2, .int x2), (3, .int x3), (4, .int x4)] [] σ (fun v σ' => v = none ∧ LQ s c l σ0 σ') := by
  refine w_200_85 σ x1 x2 x3 x4 ⟨_, goesOn_OK (d := 3) g0.1 hp.1, fun σ1 hq => ?_⟩
  obtain ⟨g1, st1, n1⟩ := hq
  have hp1 := hp.tok g1 st1
  refine ⟨_, hp1.expr hs g1.1, fun σ2 hq => ?_⟩
  obtain ⟨c2, hp2, hc12, hf2, hk2⟩ := XP.pb hp1 hq
  obtain ⟨g2, st2, -⟩ := hq
  have st02 := (st0.trans st1).trans st2
  have g02 : Gl mdLit σ0 σ2 := (g0.trans g1 rfl).trans g2 rfl
  have fr2 : FR2 s c1 l σ1 σ2 := ⟨hf2, fun j _ => ⟨g2.get (q := 117) (κ := 73) rfl rfl, g2.get (q := 118) (κ := 74) rfl rfl, g2.get (q := 119) (κ := 75) rfl rfl⟩⟩
  have hfr2 : FR2 s c l σ0 σ2 := (hfr.trans (FR2.tok (c := c1) (l := l) g1) (by omega) (Nat.le_refl _)).trans fr2 (by omega) (Nat.le_refl _)
  have hlim := hp2.lim g2.1
  obtain ⟨p1, p2, p3, p4, p5, p6, p7, p8, p9⟩ := id hp2
  have hin : inR (σ2.1 97 30) 300 = true := inR_ok (by omega) (by omega)
  refine ⟨fun cc => ⟨hin, hin, hin, hin, hin, hin, rfl, ?_⟩, fun _ => ⟨rfl, g02, st02, c2, l, hp2, by omega, Nat.le_refl _, hfr2, fun j h1 h2 => absurd h2 (by omega)⟩⟩
  have hF2 : (σ2.1 97 13).toInt = 0 := by rw [le0_i] at cc; have := p1.1; omega
  have hF1 := st2.2.2.1 hF2
  have hF := st1.2.2.1 hF1
  obtain ⟨k1, k2⟩ := hk hF
  obtain ⟨k3, k4⟩ := hk2 hF2
  have k5 := n1 hF1
  have hcn : (σ2.1 97 30).toNatClampNeg = l := cn_of p7
  have hc137 : (σ1.1 97 37).toInt = (c1 : Int) := hp1.2.1
  rw [hcn]
  have e1 : ((σ2.1 97 30) + (1 : Int32)).toInt = ((l + 1 : Nat) : Int) := by
    rw [add_lit (k := 1) p7 (by decide) (by unfold FL; omega) (by unfold FH; omega)]; push_cast; rfl
  have hl299 : l ≤ 299 := by clear e1; omega
  have w1 : Gl mdLit σ2 (s1 σ2 114 l x4) := wrG (κ := 70) (a := 0) (b := 299) (vl := FL) (vh := FH) rfl rfl (Gl.refl g2.1) rfl (Nat.zero_le _) hl299 (w_lo _) (w_hi _)
  have w2 := wrG (x := vp_nar .boolean x2) (q := 115) (k := l) (κ := 71) (a := 0) (b := 299) (vl := 0) (vh := 1) rfl rfl w1 rfl (Nat.zero_le _) hl299 (nar_z _).1 (nar_z _).2
  have w3 := wrG (x := vp_nar .boolean x1) (q := 116) (k := l) (κ := 72) (a := 0) (b := 299) (vl := 0) (vh := 1) rfl rfl w2 rfl (Nat.zero_le _) hl299 (nar_z _).1 (nar_z _).2
  have w4 := wrG (x := x3) (q := 117) (k := l) (κ := 73) (a := 0) (b := 299) (vl := FL) (vh := FH) rfl rfl w3 rfl (Nat.zero_le _) hl299 (w_lo _) (w_hi _)
  have w5 := wrG (x := σ1.1 97 37) (q := 118) (k := l) (κ := 74) (a := 0) (b := 299) (vl := FL) (vh := FH) rfl rfl w4 rfl (Nat.zero_le _) hl299 (w_lo _) (w_hi _)
  have w6 := wrG (x := σ2.1 97 37) (q := 119) (k := l) (κ := 75) (a := 0) (b := 299) (vl := FL) (vh := FH) rfl rfl w5 rfl (Nat.zero_le _) hl299 (w_lo _) (w_hi _)
  have w7 := wrG (x := (σ2.1 97 30) + (1 : Int32)) (q := 97) (k := 30) (κ := 12) (a := 30) (b := 30) (vl := FL) (vh := FH) rfl rfl w6 rfl (Nat.le_refl _) (Nat.le_refl _) (w_lo _) (w_hi _)
  have f97 : ∀ k, ¬ k = 30 → (s1 (s1 (s1 (s1 (s1 (s1 (s1 σ2 114 l x4) 115 l (vp_nar .boolean x2)) 116 l (vp_nar .boolean x1)) 117 l x3) 118 l (σ1.1 97 37)) 119 l (σ2.1 97 37)) 97 30 ((σ2.1 97 30) + (1 : Int32))).1 97 k = σ2.1 97 k := fun k hk => by rw [s1_off (fun e => hk e.2), s1_off (by omega), s1_off (by omega), s1_off (by omega), s1_off (by omega), s1_off (by omega), s1_off (by omega)]
  have f30 : ((s1 (s1 (s1 (s1 (s1 (s1 (s1 σ2 114 l x4) 115 l (vp_nar .boolean x2)) 116 l (vp_nar .boolean x1)) 117 l x3) 118 l (σ1.1 97 37)) 119 l (σ2.1 97 37)) 97 30 ((σ2.1 97 30) + (1 : Int32))).1 97 30).toInt = ((l + 1 : Nat) : Int) := by rw [s1_on]; exact e1
  have fo : ∀ q k, (q = 117 ∨ q = 118 ∨ q = 119) → ¬ k = l → (s1 (s1 (s1 (s1 (s1 (s1 (s1 σ2 114 l x4) 115 l (vp_nar .boolean x2)) 116 l (vp_nar .boolean x1)) 117 l x3) 118 l (σ1.1 97 37)) 119 l (σ2.1 97 37)) 97 30 ((σ2.1 97 30) + (1 : Int32))).1 q k = σ2.1 q k := fun q k hq hk => by rw [s1_off (by omega), s1_off (fun e => hk e.2), s1_off (fun e => hk e.2), s1_off (fun e => hk e.2), s1_off (by omega), s1_off (by omega), s1_off (by omega)]
  have fc : ∀ q k, (q = 120 ∨ q = 121) → (s1 (s1 (s1 (s1 (s1 (s1 (s1 σ2 114 l x4) 115 l (vp_nar .boolean x2)) 116 l (vp_nar .boolean x1)) 117 l x3) 118 l (σ1.1 97 37)) 119 l (σ2.1 97 37)) 97 30 ((σ2.1 97 30) + (1 : Int32))).1 q k = σ2.1 q k := fun q k hq => by rw [s1_off (by omega), s1_off (by omega), s1_off (by omega), s1_off (by omega), s1_off (by omega), s1_off (by omega), s1_off (by omega)]
  have f117 : (s1 (s1 (s1 (s1 (s1 (s1 (s1 σ2 114 l x4) 115 l (vp_nar .boolean x2)) 116 l (vp_nar .boolean x1)) 117 l x3) 118 l (σ1.1 97 37)) 119 l (σ2.1 97 37)) 97 30 ((σ2.1 97 30) + (1 : Int32))).1 117 l = x3 := by rw [s1_off (by omega), s1_off (by omega), s1_off (by omega), s1_on]
  have f118 : (s1 (s1 (s1 (s1 (s1 (s1 (s1 σ2 114 l x4) 115 l (vp_nar .boolean x2)) 116 l (vp_nar .boolean x1)) 117 l x3) 118 l (σ1.1 97 37)) 119 l (σ2.1 97 37)) 97 30 ((σ2.1 97 30) + (1 : Int32))).1 118 l = σ1.1 97 37 := by rw [s1_off (by omega), s1_off (by omega), s1_on]
  have f119 : (s1 (s1 (s1 (s1 (s1 (s1 (s1 σ2 114 l x4) 115 l (vp_nar .boolean x2)) 116 l (vp_nar .boolean x1)) 117 l x3) 118 l (σ1.1 97 37)) 119 l (σ2.1 97 37)) 97 30 ((σ2.1 97 30) + (1 : Int32))).1 119 l = σ2.1 97 37 := by rw [s1_off (by omega), s1_on]
  clear w1 w2 w3 w4 w5 w6
  generalize s1 (s1 (s1 (s1 (s1 (s1 (s1 σ2 114 l x4) 115 l (vp_nar .boolean x2)) 116 l (vp_nar .boolean x1)) 117 l x3) 118 l (σ1.1 97 37)) 119 l (σ2.1 97 37)) 97 30 ((σ2.1 97 30) + (1 : Int32)) = σ3 at w7 f97 f30 fo fc f117 f118 f119 ⊢
  clear e1
  have st3 : ST σ2 σ3 := ST.of p1 (f97 11 (by omega)) (f97 13 (by omega)) (f97 15 (by omega))
  have e11 := f97 11 (by omega)
  have e13 := f97 13 (by omega)
  have fr3 : FR2 s c l σ2 σ3 := ⟨fun j _ => ⟨fc 120 j (by omega), fc 121 j (by omega)⟩, fun j hj => ⟨fo 117 j (by omega) (by omega), fo 118 j (by omega) (by omega), fo 119 j (by omega) (by omega)⟩⟩
  refine ⟨g02.trans w7 rfl, st02.trans st3, c2, l + 1, ⟨st3.1, by rw [f97 37 (by omega)]; exact p2, p3, by rw [e11]; exact p4, by rw [e13, e11]; exact p5, by rw [f97 12 (by omega), e13]; exact p6, f30, by omega, by rw [e11]; push_cast; omega⟩, by omega, by omega, hfr2.trans fr3 (Nat.le_refl _) (Nat.le_refl _), fun j h1 h2 => ?_⟩
  have : j = l := by omega
  subst this
  have hdiv : j / 150 = s := by omega
  have hc1 : c1 ≤ 420 * s + 401 := by omega
  have cd1 : CODE σ3 a c1 1 := k2.frame (fun x _ x2 => by
    rw [fc 120 x (by omega), fc 121 x (by omega), (hf2 x (Or.inl x2)).1, (hf2 x (Or.inl x2)).2]
    exact ⟨g1.get (q := 120) (κ := 76) rfl rfl, g1.get (q := 121) (κ := 77) rfl rfl⟩)
  have cd2 : CODE σ3 c1 c2 1 := k4.frame (fun x _ _ => ⟨fc 120 x (by omega), fc 121 x (by omega)⟩)
  refine ⟨⟨?_, ?_, ?_⟩, by rw [f118]; omega, by rw [f119]; omega⟩
  · rw [f117, f118]; exact cd1.we hx3 hc137 (by omega)
  · rw [f118, f119]; exact cd2.we hc137 p2 (by omega)
  · unfold RG; rw [f117, f118, f119, hdiv]; omega
theorem lit_2 {s c l : Nat} {x1 : Int32} {σ0 : Sg} (hs : s ≤ 1) (hp0 : PB s c l σ0) : ∀ (M : Nat) (x2 : Int32) (σ : Sg), muT σ ≤ M → Gl mdTok σ0 σ → ST σ0 σ → Rn PRG (4 + 1) 200 2 [(0, .ref 97), (1, .int x1), (2, .int x2)] [] σ (fun v σ' => v = none ∧ LQ s c l σ0 σ') := by
  have hl3 := hp0.2.2.2.2.2.2.2.2
  -- no 'not' any more
  have go : ∀ (x2 : Int32) (σ : Sg), Gl mdTok σ0 σ → ST σ0 σ → ∃ Qc : Sg → Prop, OkV PRG 4 199 [.ref 97] σ Qc ∧ ∀ σ3, Qc σ3 → (∀ x4 : Int32, Rn PRG (4 + 1) 200 85 [(0, .ref 97), (1, .int x1), (2, .int x2), (3, .int (σ.1 97 37)), (4, .int x4)] [] σ3 (fun v σ' => v = none ∧ LQ s c l σ0 σ')) ∧ (∀ x4 : Int32, Rn PRG (4 + 1) 200 80 [(0, .ref 97), (1, .int x1), (2, .int x2), (3, .int (σ.1 97 37)), (4, .int x4)] [] σ3 (fun v σ' => v = none ∧ LQ s c l σ0 σ')) ∧ inR (σ3.1 97 11) 403 = true := by
    intro x2 σ g st
    have hp := hp0.tok g st
    refine ⟨_, hp.expr hs g.1, fun σ3 hq => ?_⟩
    obtain ⟨c2, hp2, hc12, hf2, hk2⟩ := XP.pb hp hq
    obtain ⟨g2, st2, -⟩ := hq
    have fr2 : FR2 s c l σ σ3 := ⟨hf2, fun j _ => ⟨g2.get (q := 117) (κ := 73) rfl rfl, g2.get (q := 118) (κ := 74) rfl rfl, g2.get (q := 119) (κ := 75) rfl rfl⟩⟩
    have hfr := (FR2.tok (s := s) (c := c) (l := l) g).trans fr2 (Nat.le_refl _) (Nat.le_refl _)
    have g02 : Gl mdLit σ0 σ3 := (g.mono rfl : Gl mdLit σ0 σ).trans g2 rfl
    have st02 := st.trans st2
    have hT := st.2.1
    refine ⟨fun x4 => lit_85 hs g02 st02 hp2 hfr (Nat.le_refl _) hc12 hp.2.2.1 hp.2.1 (fun hh => by obtain ⟨a1, a2⟩ := hk2 hh; exact ⟨by omega, a2⟩) hl3, fun x4 => ?_, t_in g2.1⟩
    refine w_200_80 σ3 x1 x2 _ x4 ⟨_, fail_OK g2.1 hp2.1 (by decide), fun σ4 hq => ?_⟩
    obtain ⟨g4, st4, nf⟩ := hq
    exact lit_85 hs (g02.trans g4 rfl) (st02.trans st4) (hp2.tok g4 st4) (hfr.trans (FR2.tok (c := c) (l := l) g4) (Nat.le_refl _) (Nat.le_refl _)) (Nat.le_refl _) hc12 hp.2.2.1 hp.2.1 (fun hh => absurd hh nf) hl3
  have body : ∀ (x2 : Int32) (σ : Sg), Gl mdTok σ0 σ → ST σ0 σ → (∀ (y : Int32) (σ5 : Sg), (σ.1 97 13).toInt = 0 → Gl mdTok σ0 σ5 → ST σ0 σ5 → muT σ5 < muT σ → Rn PRG (4 + 1) 200 2 [(0, .ref 97), (1, .int x1), (2, .int y)] [] σ5 (fun v σ' => v = none ∧ LQ s c l σ0 σ')) → Rn PRG (4 + 1) 200 2 [(0, .ref 97), (1, .int x1), (2, .int x2)] [] σ (fun v σ' => v = none ∧ LQ s c l σ0 σ') := by
    intro x2 σ g st K
    refine w_200_2 σ x1 x2 ⟨_, is_OK g.1, fun w2 σ1 hq => ?_⟩
    obtain ⟨e1, hw⟩ := hq
    rw [e1]
    refine ⟨fun _ => ?_, fun hne => ?_⟩
    · obtain ⟨Qc, q1, q2⟩ := go x2 σ g st
      refine ⟨Qc, q1, fun σ3 hq => ?_⟩
      obtain ⟨a, b, i⟩ := q2 σ3 hq
      exact ⟨fun _ => ⟨i, fun _ => ⟨fun _ => b _, fun _ => ⟨fun _ => a _, fun _ => b _⟩⟩, fun _ => a _⟩, fun _ => ⟨fun _ => a _, fun _ => a _⟩⟩
    · have hF : (σ.1 97 13).toInt = 0 := by
        rcases hw with ⟨-, h1, -⟩ | ⟨h1, -⟩
        · exact h1
        · exact absurd h1 hne
      have on : ∀ y : Int32, ∃ Qc : Sg → Prop, OkV PRG 4 192 [.ref 97] σ Qc ∧ ∀ σ5, Qc σ5 → Rn PRG (4 + 1) 200 2 [(0, .ref 97), (1, .int x1), (2, .int y)] [] σ5 (fun v σ' => v = none ∧ LQ s c l σ0 σ') := by
        intro y
        refine ⟨_, goesOn_OK (d := 3) g.1 st.1, fun σ5 hq => ?_⟩
        obtain ⟨g5, st5, n5⟩ := hq
        exact K y σ5 hF (g.trans g5 rfl) (st.trans st5) (muT_lt g.1 hF (fun hh => by have := n5 hh; omega))
      exact ⟨fun _ => on 1, fun _ => on 0⟩
  intro M
  induction M with
  | zero =>
    intro x2 σ hM g st
    refine body x2 σ g st (fun y σ5 hF _ _ _ => ?_)
    have := t_rg g.1
    unfold muT at hM
    rw [if_pos hF] at hM
    omega
  | succ M ih =>
    intro x2 σ hM g st
    exact body x2 σ g st (fun y σ5 _ a1 a2 a3 => ih y σ5 (by omega) a1 a2)
theorem literal_OK {s c l : Nat} {x1 : Int32} {σ : Sg} (hs : s ≤ 1) (ht : typed TYP σ) (hp : PB s c l σ) : OkV PRG 5 200 [.ref 97, .int x1] σ (LQ s c l σ) :=
  ⟨M_200, rfl, Nat.le_of_ble_eq_true rfl, w_200_0 σ x1 (lit_2 hs hp (muT σ) 0 σ (Nat.le_refl _) (Gl.refl ht) (ST.refl hp.1))⟩
/-- literals behind one another -/
theorem LQ.trans {s c l c1 l1 : Nat} {σ0 σ σ' : Sg} (g0 : Gl mdLit σ0 σ) (st0 : ST σ0 σ) (hc : c ≤ c1) (hl : l ≤ l1) (hf : FR2 s c l σ0 σ) (hL : ∀ j, l ≤ j → j < l1 → LTc σ j c1) (h : LQ s c1 l1 σ σ') : LQ s c l σ0 σ' := by
  obtain ⟨g, st, c', l', p1, p2, p3, p4, p5⟩ := h
  refine ⟨g0.trans g rfl, st0.trans st, c', l', p1, by omega, by omega, hf.trans p4 hc hl, fun j h1 h2 => ?_⟩
  by_cases hj : j < l1
  · have e := p4.2 j (Or.inl hj)
    exact (hL j h1 hj).frame p2 e.1 e.2.1 e.2.2 (fun x hx => p4.1 x (Or.inl hx))
  · exact p5 j (by omega) h2
theorem LQ.tok {s c l : Nat} {σ0 σ σ' : Sg} (h : LQ s c l σ0 σ) (g : Gl mdTok σ σ') (st : ST σ σ') : LQ s c l σ0 σ' := by
  obtain ⟨g0, st0, c', l', p1, p2, p3, p4, p5⟩ := h
  refine ⟨g0.trans g rfl, st0.trans st, c', l', p1.tok g st, p2, p3, p4.trans (FR2.tok (c := c) (l := l) g) (Nat.le_refl _) (Nat.le_refl _), fun j h1 h2 => ?_⟩
  exact (p5 j h1 h2).frame (Nat.le_refl _) (g.get (q := 117) (κ := 73) rfl rfl) (g.get (q := 118) (κ := 74) rfl rfl) (g.get (q := 119) (κ := 75) rfl rfl) (fun x _ => ⟨g.get (q := 120) (κ := 76) rfl rfl, g.get (q := 121) (κ := 77) rfl rfl⟩)
theorem LQ.refl {s c l : Nat} {σ : Sg} (ht : typed TYP σ) (hp : PB s c l σ) : LQ s c l σ σ := ⟨Gl.refl ht, ST.refl hp.1, c, l, hp, Nat.le_refl _, Nat.le_refl _, FR2.refl, fun j h1 h2 => absurd h2 (by omega)⟩
theorem cond_8 {s c l : Nat} {σ0 : Sg} (hs : s ≤ 1) : ∀ (M : Nat) (x1 x2 : Int32) (σ : Sg), muT σ ≤ M → LQ s c l σ0 σ → Rn PRG (5 + 1) 201 8 [(0, .ref 97), (1, .int x1), (2, .int x2)] [] σ (fun v σ' => v = none ∧ LQ s c l σ0 σ') := by
  have body : ∀ (x1 x2 : Int32) (σ : Sg), LQ s c l σ0 σ → (∀ (y : Int32) (σ5 : Sg), (σ.1 97 13).toInt = 0 → LQ s c l σ0 σ5 → muT σ5 < muT σ → Rn PRG (5 + 1) 201 8 [(0, .ref 97), (1, .int y), (2, .int (1 : Int32))] [] σ5 (fun v σ' => v = none ∧ LQ s c l σ0 σ')) → Rn PRG (5 + 1) 201 8 [(0, .ref 97), (1, .int x1), (2, .int x2)] [] σ (fun v σ' => v = none ∧ LQ s c l σ0 σ') := by
    intro x1 x2 σ h K
    refine w_201_8 σ x1 x2 ⟨fun _ => w_201_61 σ ⟨rfl, h⟩, fun _ => ⟨fun c0 => ?_, fun _ => w_201_61 σ ⟨rfl, h⟩⟩⟩
    have hF := zq_i.mp c0
    obtain ⟨g0, st0, c1, l1, p1, p2, p3, p4, p5⟩ := id h
    refine ⟨_, literal_OK hs g0.1 p1, fun σ1 hq => ?_⟩
    have st1 := hq.2.1
    have h1 := LQ.trans g0 st0 p2 p3 p4 p5 hq
    have fin : ∀ (w y : Int32), w = 0 → Rn PRG (5 + 1) 201 8 [(0, .ref 97), (1, .int y), (2, .int w)] [] σ1 (fun v σ' => v = none ∧ LQ s c l σ0 σ') := fun w y hw => w_201_8 σ1 y w ⟨fun _ => w_201_61 σ1 ⟨rfl, h1⟩, fun hh => absurd hw hh⟩
    have more : ∀ (y k w : Int32), (w = 1 ∧ (σ1.1 97 13).toInt = 0 ∧ tkn σ1 = k) ∨ (w = 0 ∧ ¬ ((σ1.1 97 13).toInt = 0 ∧ tkn σ1 = k)) → ¬ w = 0 → Rn PRG (5 + 1) 201 44 [(0, .ref 97), (1, .int y)] [] σ1 (fun v σ' => v = none ∧ LQ s c l σ0 σ') := by
      intro y k w hw hne
      have hF1 : (σ1.1 97 13).toInt = 0 := by
        rcases hw with ⟨-, h1, -⟩ | ⟨h1, -⟩
        · exact h1
        · exact absurd h1 hne
      refine w_201_44 σ1 y ⟨_, goesOn_OK (d := 4) h1.1.1 st1.1, fun σ5 hq5 => ?_⟩
      obtain ⟨g5, st5, n5⟩ := hq5
      have := muT_le st1
      exact K y σ5 hF (h1.tok g5 st5) (by have := muT_lt (σ' := σ5) h1.1.1 hF1 (fun hh => by have := n5 hh; omega); omega)
    refine ⟨_, is_OK h1.1.1, fun w3 σ2 hq3 => ?_⟩
    obtain ⟨e3, hw3⟩ := hq3
    rw [e3]
    refine ⟨fun _ => ⟨_, is_OK h1.1.1, fun w5 σ4 hq5 => ?_⟩, fun hne => more w3 28 w3 hw3 hne⟩
    obtain ⟨e5, hw5⟩ := hq5
    rw [e5]
    exact ⟨fun _ => fin 0 w3 rfl, fun hne => more w3 29 w5 hw5 hne⟩
  intro M
  induction M with
  | zero =>
    intro x1 x2 σ hM h
    refine body x1 x2 σ h (fun y σ5 hF _ _ => ?_)
    have := t_rg h.1.1
    unfold muT at hM
    rw [if_pos hF] at hM
    omega
  | succ M ih =>
    intro x1 x2 σ hM h
    exact body x1 x2 σ h (fun y σ5 _ a1 a2 => ih y 1 σ5 (by omega) a1)
theorem condition_OK {s c l : Nat} {σ : Sg} (hs : s ≤ 1) (ht : typed TYP σ) (hp : PB s c l σ) : OkV PRG 6 201 [.ref 97] σ (LQ s c l σ) := by
  refine ⟨M_201, rfl, Nat.le_of_ble_eq_true rfl, w_201_0 σ ⟨_, goesOn_OK (d := 4) ht hp.1, fun σ1 hq => ?_⟩⟩
  exact cond_8 hs (muT σ1) 1 1 σ1 (Nat.le_refl _) ((LQ.refl ht hp).tok hq.1 hq.2.1)
