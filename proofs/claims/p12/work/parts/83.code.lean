/-! codes: what must hold -/
set_option maxRecDepth 100000 in
theorem w_196_0 {d : Nat} {Q : Option Value → Sg → Prop} (σ : Sg) (x1 x2 : Int32) (h : (inR (σ.1 97 37) 840 = true ∧ (inR (σ.1 97 37) 840 = true ∧ Q none (s1 (s1 (s1 σ 120 (σ.1 97 37).toNatClampNeg x1) 121 (σ.1 97 37).toNatClampNeg x2) 97 37 ((σ.1 97 37) + (1 : Int32)))))) : Rn PRG d 196 0 [(0, .ref 97), (1, .int x1), (2, .int x2)] [] σ Q := by
  have hM : PRG[196]? = some M_196 := rfl
  refine Rn.seg (pc' := 9) (ls' := [(0, .ref 97), (1, .int x1), (2, .int x2)]) (st' := [.int x1, .int (σ.1 97 37), .ref 120]) (σ' := σ) hM 5 rfl ?_
  refine Rn.iast hM rfl rfl h.1 ?_
  refine Rn.seg (pc' := 19) (ls' := [(0, .ref 97), (1, .int x1), (2, .int x2)]) (st' := [.int x2, .int (σ.1 97 37), .ref 121]) (σ' := (s1 σ 120 (σ.1 97 37).toNatClampNeg x1)) hM 5 rfl ?_
  refine Rn.iast hM rfl rfl h.2.1 ?_
  refine Rn.seg (pc' := 30) (ls' := [(0, .ref 97), (1, .int x1), (2, .int x2)]) (st' := []) (σ' := (s1 (s1 (s1 σ 120 (σ.1 97 37).toNatClampNeg x1) 121 (σ.1 97 37).toNatClampNeg x2) 97 37 ((σ.1 97 37) + (1 : Int32)))) hM 6 rfl ?_
  exact Rn.ret hM rfl rfl h.2.2
set_option maxRecDepth 100000 in
theorem w_197_0 {d : Nat} {Q : Option Value → Sg → Prop} (σ : Sg) (h : (∃ Qc : Int32 → Sg → Prop, OkI PRG d 189 [.ref 97, .int (2 : Int32)] σ Qc ∧ ∀ w2 σ1, Qc w2 σ1 → ((w2 = 0 → (((σ1.1 97 13) = 0 → (inR (σ1.1 97 11) 403 = true ∧ (((σ1.1 100 (σ1.1 97 11).toNatClampNeg) < (31 : Int32) → Rn PRG (d + 1) 197 88 [(0, .ref 97)] [] σ1 Q) ∧ (¬ (σ1.1 100 (σ1.1 97 11).toNatClampNeg) < (31 : Int32) → (inR (σ1.1 97 11) 403 = true ∧ (((40 : Int32) < (σ1.1 100 (σ1.1 97 11).toNatClampNeg) → Rn PRG (d + 1) 197 88 [(0, .ref 97)] [] σ1 Q) ∧ (¬ (40 : Int32) < (σ1.1 100 (σ1.1 97 11).toNatClampNeg) → (inR (σ1.1 97 11) 403 = true ∧ (∃ Qc : Sg → Prop, OkV PRG d 196 [.ref 97, .int (1 : Int32), .int ((σ1.1 100 (σ1.1 97 11).toNatClampNeg) - (31 : Int32))] σ1 Qc ∧ ∀ σ3, Qc σ3 → (∃ Qc : Sg → Prop, OkV PRG d 192 [.ref 97] σ3 Qc ∧ ∀ σ4, Qc σ4 → Rn PRG (d + 1) 197 134 [] [] σ4 Q)))))))))) ∧ (¬ (σ1.1 97 13) = 0 → Rn PRG (d + 1) 197 88 [(0, .ref 97)] [] σ1 Q))) ∧ (¬ w2 = 0 → (inR (σ1.1 97 11) 403 = true ∧ (∃ Qc : Sg → Prop, OkV PRG d 196 [.ref 97, .int (0 : Int32), .int (σ1.1 102 (σ1.1 97 11).toNatClampNeg)] σ1 Qc ∧ ∀ σ5, Qc σ5 → (∃ Qc : Sg → Prop, OkV PRG d 192 [.ref 97] σ5 Qc ∧ ∀ σ6, Qc σ6 → Rn PRG (d + 1) 197 134 [] [] σ6 Q))))))) : Rn PRG (d + 1) 197 0 [(0, .ref 97)] [] σ Q := by
  have hM : PRG[197]? = some M_197 := rfl
  refine Rn.seg (pc' := 2) (ls' := [(0, .ref 97)]) (st' := [.int (2 : Int32), .ref 97]) (σ' := σ) hM 2 rfl ?_
  obtain ⟨Qc, hq, h⟩ := h
  refine Rn.cI hM rfl rfl (by decide) hq (fun w2 σ1 hw => ?_)
  replace h := h w2 σ1 hw
  refine Rn.br (c := w2 = 0) (a := 29) (b := 8) (ls' := [(0, .ref 97)]) (st' := []) (σ' := σ1) hM 1 rfl (fun c => ?_) (fun c => ?_)
  · replace h := h.1 c
    refine Rn.brN (c := (σ1.1 97 13) = 0) (a := 88) (b := 36) (ls' := [(0, .ref 97)]) (st' := []) (σ' := σ1) hM 3 rfl (fun c => ?_) (fun c => ?_)
    · replace h := h.2 c
      refine Rn.seg (pc' := 88) (ls' := [(0, .ref 97)]) (st' := []) (σ' := σ1) hM 0 rfl ?_
      exact Rn.sub h (subL_cons rfl subL_nil) (show ndL _ from (by decide : List.Nodup ([0] : List Nat)))
    · replace h := h.1 c
      refine Rn.seg (pc' := 44) (ls' := [(0, .ref 97)]) (st' := [.int (σ1.1 97 11), .ref 100]) (σ' := σ1) hM 4 rfl ?_
      refine Rn.iald hM rfl rfl h.1 ?_
      refine Rn.br (c := (σ1.1 100 (σ1.1 97 11).toNatClampNeg) < (31 : Int32)) (a := 88) (b := 50) (ls' := [(0, .ref 97)]) (st' := []) (σ' := σ1) hM 2 rfl (fun c => ?_) (fun c => ?_)
      · replace h := h.2.1 c
        refine Rn.seg (pc' := 88) (ls' := [(0, .ref 97)]) (st' := []) (σ' := σ1) hM 0 rfl ?_
        exact Rn.sub h (subL_cons rfl subL_nil) (show ndL _ from (by decide : List.Nodup ([0] : List Nat)))
      · replace h := h.2.2 c
        refine Rn.seg (pc' := 58) (ls' := [(0, .ref 97)]) (st' := [.int (σ1.1 97 11), .ref 100]) (σ' := σ1) hM 4 rfl ?_
        refine Rn.iald hM rfl rfl h.1 ?_
        refine Rn.br (c := (40 : Int32) < (σ1.1 100 (σ1.1 97 11).toNatClampNeg)) (a := 88) (b := 64) (ls' := [(0, .ref 97)]) (st' := []) (σ' := σ1) hM 2 rfl (fun c => ?_) (fun c => ?_)
        · replace h := h.2.1 c
          refine Rn.seg (pc' := 88) (ls' := [(0, .ref 97)]) (st' := []) (σ' := σ1) hM 0 rfl ?_
          exact Rn.sub h (subL_cons rfl subL_nil) (show ndL _ from (by decide : List.Nodup ([0] : List Nat)))
        · replace h := h.2.2 c
          refine Rn.seg (pc' := 74) (ls' := [(0, .ref 97)]) (st' := [.int (σ1.1 97 11), .ref 100, .int (1 : Int32), .ref 97]) (σ' := σ1) hM 6 rfl ?_
          refine Rn.iald hM rfl rfl h.1 ?_
          refine Rn.seg (pc' := 78) (ls' := [(0, .ref 97)]) (st' := [.int ((σ1.1 100 (σ1.1 97 11).toNatClampNeg) - (31 : Int32)), .int (1 : Int32), .ref 97]) (σ' := σ1) hM 2 rfl ?_
          obtain ⟨Qc, hq, h⟩ := h.2
          refine Rn.cV hM rfl rfl (by decide) hq (fun σ3 hw => ?_)
          replace h := h σ3 hw
          refine Rn.seg (pc' := 82) (ls' := [(0, .ref 97)]) (st' := [.ref 97]) (σ' := σ3) hM 1 rfl ?_
          obtain ⟨Qc, hq, h⟩ := h
          refine Rn.cV hM rfl rfl (by decide) hq (fun σ4 hw => ?_)
          replace h := h σ4 hw
          refine Rn.seg (pc' := 134) (ls' := [(0, .ref 97)]) (st' := []) (σ' := σ4) hM 1 rfl ?_
          exact Rn.sub h subL_nil (show ndL _ from (by decide : List.Nodup ([] : List Nat)))
  · replace h := h.2 c
    refine Rn.seg (pc' := 18) (ls' := [(0, .ref 97)]) (st' := [.int (σ1.1 97 11), .ref 102, .int (0 : Int32), .ref 97]) (σ' := σ1) hM 6 rfl ?_
    refine Rn.iald hM rfl rfl h.1 ?_
    refine Rn.seg (pc' := 19) (ls' := [(0, .ref 97)]) (st' := [.int (σ1.1 102 (σ1.1 97 11).toNatClampNeg), .int (0 : Int32), .ref 97]) (σ' := σ1) hM 0 rfl ?_
    obtain ⟨Qc, hq, h⟩ := h.2
    refine Rn.cV hM rfl rfl (by decide) hq (fun σ5 hw => ?_)
    replace h := h σ5 hw
    refine Rn.seg (pc' := 23) (ls' := [(0, .ref 97)]) (st' := [.ref 97]) (σ' := σ5) hM 1 rfl ?_
    obtain ⟨Qc, hq, h⟩ := h
    refine Rn.cV hM rfl rfl (by decide) hq (fun σ6 hw => ?_)
    replace h := h σ6 hw
    refine Rn.seg (pc' := 134) (ls' := [(0, .ref 97)]) (st' := []) (σ' := σ6) hM 1 rfl ?_
    exact Rn.sub h subL_nil (show ndL _ from (by decide : List.Nodup ([] : List Nat)))
set_option maxRecDepth 100000 in
theorem w_197_88 {d : Nat} {Q : Option Value → Sg → Prop} (σ : Sg) (h : (∃ Qc : Int32 → Sg → Prop, OkI PRG d 189 [.ref 97, .int (41 : Int32)] σ Qc ∧ ∀ w2 σ1, Qc w2 σ1 → ((w2 = 0 → (∃ Qc : Sg → Prop, OkV PRG d 190 [.ref 97, .int (1 : Int32)] σ1 Qc ∧ ∀ σ3, Qc σ3 → Rn PRG (d + 1) 197 134 [] [] σ3 Q)) ∧ (¬ w2 = 0 → (∃ Qc : Sg → Prop, OkV PRG d 192 [.ref 97] σ1 Qc ∧ ∀ σ4, Qc σ4 → (∃ Qc : Int32 → Sg → Prop, OkI PRG d 194 [.ref 97, .int (0 : Int32), .int (3 : Int32)] σ4 Qc ∧ ∀ w6 σ5, Qc w6 σ5 → ((w6 ≤ (3 : Int32) → (∃ Qc : Sg → Prop, OkV PRG d 196 [.ref 97, .int (1 : Int32), .int ((10 : Int32) + w6)] σ5 Qc ∧ ∀ σ7, Qc σ7 → Rn PRG (d + 1) 197 134 [] [] σ7 Q)) ∧ (¬ w6 ≤ (3 : Int32) → (∃ Qc : Sg → Prop, OkV PRG d 196 [.ref 97, .int (1 : Int32), .int ((10 : Int32) + (3 : Int32))] σ5 Qc ∧ ∀ σ8, Qc σ8 → Rn PRG (d + 1) 197 134 [] [] σ8 Q))))))))) : Rn PRG (d + 1) 197 88 [(0, .ref 97)] [] σ Q := by
  have hM : PRG[197]? = some M_197 := rfl
  refine Rn.seg (pc' := 91) (ls' := [(0, .ref 97)]) (st' := [.int (41 : Int32), .ref 97]) (σ' := σ) hM 2 rfl ?_
  obtain ⟨Qc, hq, h⟩ := h
  refine Rn.cI hM rfl rfl (by decide) hq (fun w2 σ1 hw => ?_)
  replace h := h w2 σ1 hw
  refine Rn.br (c := w2 = 0) (a := 129) (b := 97) (ls' := [(0, .ref 97)]) (st' := []) (σ' := σ1) hM 1 rfl (fun c => ?_) (fun c => ?_)
  · replace h := h.1 c
    refine Rn.seg (pc' := 131) (ls' := [(0, .ref 97)]) (st' := [.int (1 : Int32), .ref 97]) (σ' := σ1) hM 2 rfl ?_
    obtain ⟨Qc, hq, h⟩ := h
    refine Rn.cV hM rfl rfl (by decide) hq (fun σ3 hw => ?_)
    replace h := h σ3 hw
    refine Rn.seg (pc' := 134) (ls' := [(0, .ref 97)]) (st' := []) (σ' := σ3) hM 0 rfl ?_
    exact Rn.sub h subL_nil (show ndL _ from (by decide : List.Nodup ([] : List Nat)))
  · replace h := h.2 c
    refine Rn.seg (pc' := 98) (ls' := [(0, .ref 97)]) (st' := [.ref 97]) (σ' := σ1) hM 1 rfl ?_
    obtain ⟨Qc, hq, h⟩ := h
    refine Rn.cV hM rfl rfl (by decide) hq (fun σ4 hw => ?_)
    replace h := h σ4 hw
    refine Rn.seg (pc' := 104) (ls' := [(0, .ref 97)]) (st' := [.int (3 : Int32), .int (0 : Int32), .ref 97]) (σ' := σ4) hM 3 rfl ?_
    obtain ⟨Qc, hq, h⟩ := h
    refine Rn.cI hM rfl rfl (by decide) hq (fun w6 σ5 hw => ?_)
    replace h := h w6 σ5 hw
    refine Rn.br (c := w6 ≤ (3 : Int32)) (a := 121) (b := 117) (ls' := [(1, .int w6), (0, .ref 97)]) (st' := [.int (10 : Int32), .int (1 : Int32), .ref 97]) (σ' := σ5) hM 7 rfl (fun c => ?_) (fun c => ?_)
    · replace h := h.1 c
      refine Rn.seg (pc' := 123) (ls' := [(1, .int w6), (0, .ref 97)]) (st' := [.int ((10 : Int32) + w6), .int (1 : Int32), .ref 97]) (σ' := σ5) hM 2 rfl ?_
      obtain ⟨Qc, hq, h⟩ := h
      refine Rn.cV hM rfl rfl (by decide) hq (fun σ7 hw => ?_)
      replace h := h σ7 hw
      refine Rn.seg (pc' := 134) (ls' := [(1, .int w6), (0, .ref 97)]) (st' := []) (σ' := σ7) hM 1 rfl ?_
      exact Rn.sub h subL_nil (show ndL _ from (by decide : List.Nodup ([] : List Nat)))
    · replace h := h.2 c
      refine Rn.seg (pc' := 123) (ls' := [(1, .int w6), (0, .ref 97)]) (st' := [.int ((10 : Int32) + (3 : Int32)), .int (1 : Int32), .ref 97]) (σ' := σ5) hM 3 rfl ?_
      obtain ⟨Qc, hq, h⟩ := h
      refine Rn.cV hM rfl rfl (by decide) hq (fun σ8 hw => ?_)
      replace h := h σ8 hw
      refine Rn.seg (pc' := 134) (ls' := [(1, .int w6), (0, .ref 97)]) (st' := []) (σ' := σ8) hM 1 rfl ?_
      exact Rn.sub h subL_nil (show ndL _ from (by decide : List.Nodup ([] : List Nat)))
set_option maxRecDepth 100000 in
theorem w_197_134 {d : Nat} {Q : Option Value → Sg → Prop} (σ : Sg) (h : Q none σ) : Rn PRG (d + 1) 197 134 [] [] σ Q := by
  have hM : PRG[197]? = some M_197 := rfl
  refine Rn.seg (pc' := 134) (ls' := []) (st' := []) (σ' := σ) hM 0 rfl ?_
  exact Rn.ret hM rfl rfl h
set_option maxRecDepth 100000 in
theorem w_198_0 {d : Nat} {Q : Option Value → Sg → Prop} (σ : Sg) (x1 : Int32) (h : (((σ.1 97 41) ≤ 0 → Q none σ) ∧ (¬ (σ.1 97 41) ≤ 0 → (inR ((σ.1 97 41) - (1 : Int32)) 64 = true ∧ (((σ.1 122 ((σ.1 97 41) - (1 : Int32)).toNatClampNeg) = (6 : Int32) → Q none σ) ∧ (¬ (σ.1 122 ((σ.1 97 41) - (1 : Int32)).toNatClampNeg) = (6 : Int32) → ((x1 = 0 → (((σ.1 122 ((σ.1 97 41) - (1 : Int32)).toNatClampNeg) = (8 : Int32) → (∃ Qc : Sg → Prop, OkV PRG d 196 [.ref 97, .int (2 : Int32), .int (0 : Int32)] (s1 σ 97 41 ((σ.1 97 41) - (1 : Int32))) Qc ∧ ∀ σ4, Qc σ4 → Rn PRG (d + 1) 198 0 [(0, .ref 97), (1, .int x1)] [] σ4 Q)) ∧ (¬ (σ.1 122 ((σ.1 97 41) - (1 : Int32)).toNatClampNeg) = (8 : Int32) → (((σ.1 122 ((σ.1 97 41) - (1 : Int32)).toNatClampNeg) = (9 : Int32) → (∃ Qc : Sg → Prop, OkV PRG d 196 [.ref 97, .int (3 : Int32), .int (0 : Int32)] (s1 σ 97 41 ((σ.1 97 41) - (1 : Int32))) Qc ∧ ∀ σ3, Qc σ3 → Rn PRG (d + 1) 198 0 [(0, .ref 97), (1, .int x1)] [] σ3 Q)) ∧ (¬ (σ.1 122 ((σ.1 97 41) - (1 : Int32)).toNatClampNeg) = (9 : Int32) → (((σ.1 122 ((σ.1 97 41) - (1 : Int32)).toNatClampNeg) = (10 : Int32) → (∃ Qc : Sg → Prop, OkV PRG d 196 [.ref 97, .int (4 : Int32), .int (0 : Int32)] (s1 σ 97 41 ((σ.1 97 41) - (1 : Int32))) Qc ∧ ∀ σ2, Qc σ2 → Rn PRG (d + 1) 198 0 [(0, .ref 97), (1, .int x1)] [] σ2 Q)) ∧ (¬ (σ.1 122 ((σ.1 97 41) - (1 : Int32)).toNatClampNeg) = (10 : Int32) → (∃ Qc : Sg → Prop, OkV PRG d 196 [.ref 97, .int (5 : Int32), .int (0 : Int32)] (s1 σ 97 41 ((σ.1 97 41) - (1 : Int32))) Qc ∧ ∀ σ1, Qc σ1 → Rn PRG (d + 1) 198 0 [(0, .ref 97), (1, .int x1)] [] σ1 Q)))))))) ∧ (¬ x1 = 0 → (((σ.1 122 ((σ.1 97 41) - (1 : Int32)).toNatClampNeg) = (8 : Int32) → Q none σ) ∧ (¬ (σ.1 122 ((σ.1 97 41) - (1 : Int32)).toNatClampNeg) = (8 : Int32) → (((σ.1 122 ((σ.1 97 41) - (1 : Int32)).toNatClampNeg) = (9 : Int32) → Q none σ) ∧ (¬ (σ.1 122 ((σ.1 97 41) - (1 : Int32)).toNatClampNeg) = (9 : Int32) → (((σ.1 122 ((σ.1 97 41) - (1 : Int32)).toNatClampNeg) = (8 : Int32) → (∃ Qc : Sg → Prop, OkV PRG d 196 [.ref 97, .int (2 : Int32), .int (0 : Int32)] (s1 σ 97 41 ((σ.1 97 41) - (1 : Int32))) Qc ∧ ∀ σ8, Qc σ8 → Rn PRG (d + 1) 198 0 [(0, .ref 97), (1, .int x1)] [] σ8 Q)) ∧ (¬ (σ.1 122 ((σ.1 97 41) - (1 : Int32)).toNatClampNeg) = (8 : Int32) → (((σ.1 122 ((σ.1 97 41) - (1 : Int32)).toNatClampNeg) = (9 : Int32) → (∃ Qc : Sg → Prop, OkV PRG d 196 [.ref 97, .int (3 : Int32), .int (0 : Int32)] (s1 σ 97 41 ((σ.1 97 41) - (1 : Int32))) Qc ∧ ∀ σ7, Qc σ7 → Rn PRG (d + 1) 198 0 [(0, .ref 97), (1, .int x1)] [] σ7 Q)) ∧ (¬ (σ.1 122 ((σ.1 97 41) - (1 : Int32)).toNatClampNeg) = (9 : Int32) → (((σ.1 122 ((σ.1 97 41) - (1 : Int32)).toNatClampNeg) = (10 : Int32) → (∃ Qc : Sg → Prop, OkV PRG d 196 [.ref 97, .int (4 : Int32), .int (0 : Int32)] (s1 σ 97 41 ((σ.1 97 41) - (1 : Int32))) Qc ∧ ∀ σ6, Qc σ6 → Rn PRG (d + 1) 198 0 [(0, .ref 97), (1, .int x1)] [] σ6 Q)) ∧ (¬ (σ.1 122 ((σ.1 97 41) - (1 : Int32)).toNatClampNeg) = (10 : Int32) → (∃ Qc : Sg → Prop, OkV PRG d 196 [.ref 97, .int (5 : Int32), .int (0 : Int32)] (s1 σ 97 41 ((σ.1 97 41) - (1 : Int32))) Qc ∧ ∀ σ5, Qc σ5 → Rn PRG (d + 1) 198 0 [(0, .ref 97), (1, .int x1)] [] σ5 Q))))))))))))))))))) : Rn PRG (d + 1) 198 0 [(0, .ref 97), (1, .int x1)] [] σ Q := by
  have hM : PRG[198]? = some M_198 := rfl
  refine Rn.br (c := (σ.1 97 41) ≤ 0) (a := 91) (b := 7) (ls' := [(0, .ref 97), (1, .int x1)]) (st' := []) (σ' := σ) hM 3 rfl (fun c => ?_) (fun c => ?_)
  · replace h := h.1 c
    refine Rn.seg (pc' := 91) (ls' := [(0, .ref 97), (1, .int x1)]) (st' := []) (σ' := σ) hM 0 rfl ?_
    exact Rn.ret hM rfl rfl h
  · replace h := h.2 c
    refine Rn.seg (pc' := 17) (ls' := [(0, .ref 97), (1, .int x1)]) (st' := [.int ((σ.1 97 41) - (1 : Int32)), .ref 122]) (σ' := σ) hM 6 rfl ?_
    refine Rn.iald hM rfl rfl h.1 ?_
    refine Rn.br (c := (σ.1 122 ((σ.1 97 41) - (1 : Int32)).toNatClampNeg) = (6 : Int32)) (a := 41) (b := 25) (ls' := [(2, .int (σ.1 122 ((σ.1 97 41) - (1 : Int32)).toNatClampNeg)), (0, .ref 97), (1, .int x1)]) (st' := []) (σ' := σ) hM 4 rfl (fun c => ?_) (fun c => ?_)
    · replace h := h.2.1 c
      refine Rn.seg (pc' := 41) (ls' := [(2, .int (σ.1 122 ((σ.1 97 41) - (1 : Int32)).toNatClampNeg)), (0, .ref 97), (1, .int x1)]) (st' := []) (σ' := σ) hM 0 rfl ?_
      exact Rn.ret hM rfl rfl h
    · replace h := h.2.2 c
      refine Rn.br (c := x1 = 0) (a := 42) (b := 29) (ls' := [(2, .int (σ.1 122 ((σ.1 97 41) - (1 : Int32)).toNatClampNeg)), (0, .ref 97), (1, .int x1)]) (st' := []) (σ' := σ) hM 2 rfl (fun c => ?_) (fun c => ?_)
      · replace h := h.1 c
        refine Rn.brN (c := (σ.1 122 ((σ.1 97 41) - (1 : Int32)).toNatClampNeg) = (8 : Int32)) (a := 63) (b := 59) (ls' := [(2, .int (σ.1 122 ((σ.1 97 41) - (1 : Int32)).toNatClampNeg)), (0, .ref 97), (1, .int x1)]) (st' := [.ref 97]) (σ' := (s1 σ 97 41 ((σ.1 97 41) - (1 : Int32)))) hM 10 rfl (fun c => ?_) (fun c => ?_)
        · replace h := h.2 c
          refine Rn.brN (c := (σ.1 122 ((σ.1 97 41) - (1 : Int32)).toNatClampNeg) = (9 : Int32)) (a := 73) (b := 69) (ls' := [(2, .int (σ.1 122 ((σ.1 97 41) - (1 : Int32)).toNatClampNeg)), (0, .ref 97), (1, .int x1)]) (st' := [.ref 97]) (σ' := (s1 σ 97 41 ((σ.1 97 41) - (1 : Int32)))) hM 3 rfl (fun c => ?_) (fun c => ?_)
          · replace h := h.2 c
            refine Rn.brN (c := (σ.1 122 ((σ.1 97 41) - (1 : Int32)).toNatClampNeg) = (10 : Int32)) (a := 83) (b := 79) (ls' := [(2, .int (σ.1 122 ((σ.1 97 41) - (1 : Int32)).toNatClampNeg)), (0, .ref 97), (1, .int x1)]) (st' := [.ref 97]) (σ' := (s1 σ 97 41 ((σ.1 97 41) - (1 : Int32)))) hM 3 rfl (fun c => ?_) (fun c => ?_)
            · replace h := h.2 c
              refine Rn.seg (pc' := 85) (ls' := [(2, .int (σ.1 122 ((σ.1 97 41) - (1 : Int32)).toNatClampNeg)), (0, .ref 97), (1, .int x1)]) (st' := [.int (0 : Int32), .int (5 : Int32), .ref 97]) (σ' := (s1 σ 97 41 ((σ.1 97 41) - (1 : Int32)))) hM 2 rfl ?_
              obtain ⟨Qc, hq, h⟩ := h
              refine Rn.cV hM rfl rfl (by decide) hq (fun σ1 hw => ?_)
              replace h := h σ1 hw
              refine Rn.seg (pc' := 0) (ls' := [(2, .int (σ.1 122 ((σ.1 97 41) - (1 : Int32)).toNatClampNeg)), (0, .ref 97), (1, .int x1)]) (st' := []) (σ' := σ1) hM 1 rfl ?_
              exact Rn.sub h (subL_cons rfl (subL_cons rfl subL_nil)) (show ndL _ from (by decide : List.Nodup ([0, 1] : List Nat)))
            · replace h := h.1 c
              refine Rn.seg (pc' := 85) (ls' := [(2, .int (σ.1 122 ((σ.1 97 41) - (1 : Int32)).toNatClampNeg)), (0, .ref 97), (1, .int x1)]) (st' := [.int (0 : Int32), .int (4 : Int32), .ref 97]) (σ' := (s1 σ 97 41 ((σ.1 97 41) - (1 : Int32)))) hM 3 rfl ?_
              obtain ⟨Qc, hq, h⟩ := h
              refine Rn.cV hM rfl rfl (by decide) hq (fun σ2 hw => ?_)
              replace h := h σ2 hw
              refine Rn.seg (pc' := 0) (ls' := [(2, .int (σ.1 122 ((σ.1 97 41) - (1 : Int32)).toNatClampNeg)), (0, .ref 97), (1, .int x1)]) (st' := []) (σ' := σ2) hM 1 rfl ?_
              exact Rn.sub h (subL_cons rfl (subL_cons rfl subL_nil)) (show ndL _ from (by decide : List.Nodup ([0, 1] : List Nat)))
          · replace h := h.1 c
            refine Rn.seg (pc' := 85) (ls' := [(2, .int (σ.1 122 ((σ.1 97 41) - (1 : Int32)).toNatClampNeg)), (0, .ref 97), (1, .int x1)]) (st' := [.int (0 : Int32), .int (3 : Int32), .ref 97]) (σ' := (s1 σ 97 41 ((σ.1 97 41) - (1 : Int32)))) hM 3 rfl ?_
            obtain ⟨Qc, hq, h⟩ := h
            refine Rn.cV hM rfl rfl (by decide) hq (fun σ3 hw => ?_)
            replace h := h σ3 hw
            refine Rn.seg (pc' := 0) (ls' := [(2, .int (σ.1 122 ((σ.1 97 41) - (1 : Int32)).toNatClampNeg)), (0, .ref 97), (1, .int x1)]) (st' := []) (σ' := σ3) hM 1 rfl ?_
            exact Rn.sub h (subL_cons rfl (subL_cons rfl subL_nil)) (show ndL _ from (by decide : List.Nodup ([0, 1] : List Nat)))
        · replace h := h.1 c
          refine Rn.seg (pc' := 85) (ls' := [(2, .int (σ.1 122 ((σ.1 97 41) - (1 : Int32)).toNatClampNeg)), (0, .ref 97), (1, .int x1)]) (st' := [.int (0 : Int32), .int (2 : Int32), .ref 97]) (σ' := (s1 σ 97 41 ((σ.1 97 41) - (1 : Int32)))) hM 3 rfl ?_
          obtain ⟨Qc, hq, h⟩ := h
          refine Rn.cV hM rfl rfl (by decide) hq (fun σ4 hw => ?_)
          replace h := h σ4 hw
          refine Rn.seg (pc' := 0) (ls' := [(2, .int (σ.1 122 ((σ.1 97 41) - (1 : Int32)).toNatClampNeg)), (0, .ref 97), (1, .int x1)]) (st' := []) (σ' := σ4) hM 1 rfl ?_
          exact Rn.sub h (subL_cons rfl (subL_cons rfl subL_nil)) (show ndL _ from (by decide : List.Nodup ([0, 1] : List Nat)))
      · replace h := h.2 c
        refine Rn.br (c := (σ.1 122 ((σ.1 97 41) - (1 : Int32)).toNatClampNeg) = (8 : Int32)) (a := 41) (b := 35) (ls' := [(2, .int (σ.1 122 ((σ.1 97 41) - (1 : Int32)).toNatClampNeg)), (0, .ref 97), (1, .int x1)]) (st' := []) (σ' := σ) hM 3 rfl (fun c => ?_) (fun c => ?_)
        · replace h := h.1 c
          refine Rn.seg (pc' := 41) (ls' := [(2, .int (σ.1 122 ((σ.1 97 41) - (1 : Int32)).toNatClampNeg)), (0, .ref 97), (1, .int x1)]) (st' := []) (σ' := σ) hM 0 rfl ?_
          exact Rn.ret hM rfl rfl h
        · replace h := h.2 c
          refine Rn.brN (c := (σ.1 122 ((σ.1 97 41) - (1 : Int32)).toNatClampNeg) = (9 : Int32)) (a := 42) (b := 41) (ls' := [(2, .int (σ.1 122 ((σ.1 97 41) - (1 : Int32)).toNatClampNeg)), (0, .ref 97), (1, .int x1)]) (st' := []) (σ' := σ) hM 3 rfl (fun c => ?_) (fun c => ?_)
          · replace h := h.2 c
            refine Rn.brN (c := (σ.1 122 ((σ.1 97 41) - (1 : Int32)).toNatClampNeg) = (8 : Int32)) (a := 63) (b := 59) (ls' := [(2, .int (σ.1 122 ((σ.1 97 41) - (1 : Int32)).toNatClampNeg)), (0, .ref 97), (1, .int x1)]) (st' := [.ref 97]) (σ' := (s1 σ 97 41 ((σ.1 97 41) - (1 : Int32)))) hM 10 rfl (fun c => ?_) (fun c => ?_)
            · replace h := h.2 c
              refine Rn.brN (c := (σ.1 122 ((σ.1 97 41) - (1 : Int32)).toNatClampNeg) = (9 : Int32)) (a := 73) (b := 69) (ls' := [(2, .int (σ.1 122 ((σ.1 97 41) - (1 : Int32)).toNatClampNeg)), (0, .ref 97), (1, .int x1)]) (st' := [.ref 97]) (σ' := (s1 σ 97 41 ((σ.1 97 41) - (1 : Int32)))) hM 3 rfl (fun c => ?_) (fun c => ?_)
              · replace h := h.2 c
                refine Rn.brN (c := (σ.1 122 ((σ.1 97 41) - (1 : Int32)).toNatClampNeg) = (10 : Int32)) (a := 83) (b := 79) (ls' := [(2, .int (σ.1 122 ((σ.1 97 41) - (1 : Int32)).toNatClampNeg)), (0, .ref 97), (1, .int x1)]) (st' := [.ref 97]) (σ' := (s1 σ 97 41 ((σ.1 97 41) - (1 : Int32)))) hM 3 rfl (fun c => ?_) (fun c => ?_)
                · replace h := h.2 c
                  refine Rn.seg (pc' := 85) (ls' := [(2, .int (σ.1 122 ((σ.1 97 41) - (1 : Int32)).toNatClampNeg)), (0, .ref 97), (1, .int x1)]) (st' := [.int (0 : Int32), .int (5 : Int32), .ref 97]) (σ' := (s1 σ 97 41 ((σ.1 97 41) - (1 : Int32)))) hM 2 rfl ?_
                  obtain ⟨Qc, hq, h⟩ := h
                  refine Rn.cV hM rfl rfl (by decide) hq (fun σ5 hw => ?_)
                  replace h := h σ5 hw
                  refine Rn.seg (pc' := 0) (ls' := [(2, .int (σ.1 122 ((σ.1 97 41) - (1 : Int32)).toNatClampNeg)), (0, .ref 97), (1, .int x1)]) (st' := []) (σ' := σ5) hM 1 rfl ?_
                  exact Rn.sub h (subL_cons rfl (subL_cons rfl subL_nil)) (show ndL _ from (by decide : List.Nodup ([0, 1] : List Nat)))
                · replace h := h.1 c
                  refine Rn.seg (pc' := 85) (ls' := [(2, .int (σ.1 122 ((σ.1 97 41) - (1 : Int32)).toNatClampNeg)), (0, .ref 97), (1, .int x1)]) (st' := [.int (0 : Int32), .int (4 : Int32), .ref 97]) (σ' := (s1 σ 97 41 ((σ.1 97 41) - (1 : Int32)))) hM 3 rfl ?_
                  obtain ⟨Qc, hq, h⟩ := h
                  refine Rn.cV hM rfl rfl (by decide) hq (fun σ6 hw => ?_)
                  replace h := h σ6 hw
                  refine Rn.seg (pc' := 0) (ls' := [(2, .int (σ.1 122 ((σ.1 97 41) - (1 : Int32)).toNatClampNeg)), (0, .ref 97), (1, .int x1)]) (st' := []) (σ' := σ6) hM 1 rfl ?_
                  exact Rn.sub h (subL_cons rfl (subL_cons rfl subL_nil)) (show ndL _ from (by decide : List.Nodup ([0, 1] : List Nat)))
              · replace h := h.1 c
                refine Rn.seg (pc' := 85) (ls' := [(2, .int (σ.1 122 ((σ.1 97 41) - (1 : Int32)).toNatClampNeg)), (0, .ref 97), (1, .int x1)]) (st' := [.int (0 : Int32), .int (3 : Int32), .ref 97]) (σ' := (s1 σ 97 41 ((σ.1 97 41) - (1 : Int32)))) hM 3 rfl ?_
                obtain ⟨Qc, hq, h⟩ := h
                refine Rn.cV hM rfl rfl (by decide) hq (fun σ7 hw => ?_)
                replace h := h σ7 hw
                refine Rn.seg (pc' := 0) (ls' := [(2, .int (σ.1 122 ((σ.1 97 41) - (1 : Int32)).toNatClampNeg)), (0, .ref 97), (1, .int x1)]) (st' := []) (σ' := σ7) hM 1 rfl ?_
                exact Rn.sub h (subL_cons rfl (subL_cons rfl subL_nil)) (show ndL _ from (by decide : List.Nodup ([0, 1] : List Nat)))
            · replace h := h.1 c
              refine Rn.seg (pc' := 85) (ls' := [(2, .int (σ.1 122 ((σ.1 97 41) - (1 : Int32)).toNatClampNeg)), (0, .ref 97), (1, .int x1)]) (st' := [.int (0 : Int32), .int (2 : Int32), .ref 97]) (σ' := (s1 σ 97 41 ((σ.1 97 41) - (1 : Int32)))) hM 3 rfl ?_
              obtain ⟨Qc, hq, h⟩ := h
              refine Rn.cV hM rfl rfl (by decide) hq (fun σ8 hw => ?_)
              replace h := h σ8 hw
              refine Rn.seg (pc' := 0) (ls' := [(2, .int (σ.1 122 ((σ.1 97 41) - (1 : Int32)).toNatClampNeg)), (0, .ref 97), (1, .int x1)]) (st' := []) (σ' := σ8) hM 1 rfl ?_
              exact Rn.sub h (subL_cons rfl (subL_cons rfl subL_nil)) (show ndL _ from (by decide : List.Nodup ([0, 1] : List Nat)))
          · replace h := h.1 c
            refine Rn.seg (pc' := 41) (ls' := [(2, .int (σ.1 122 ((σ.1 97 41) - (1 : Int32)).toNatClampNeg)), (0, .ref 97), (1, .int x1)]) (st' := []) (σ' := σ) hM 0 rfl ?_
            exact Rn.ret hM rfl rfl h
/-! codes -/
def mdEmit : List (Nat × Nat × Nat) := [(12, 37, 37), (76, 0, 839), (77, 0, 839)]
theorem emit_OK {d c : Nat} {k v : Int32} {σ : Sg} (ht : typed TYP σ) (hc : (σ.1 97 37).toInt = (c : Int)) (h : c < 840) : OkV PRG d 196 [.ref 97, .int k, .int v] σ (fun σ' => Gl mdEmit σ σ' ∧ (σ'.1 97 37).toInt = ((c + 1 : Nat) : Int) ∧ σ'.1 120 c = k ∧ σ'.1 121 c = v ∧ ∀ j, ¬ j = c → σ'.1 120 j = σ.1 120 j ∧ σ'.1 121 j = σ.1 121 j) := by
  have hin : inR (σ.1 97 37) 840 = true := inR_ok (by omega) (by omega)
  have e1 : ((σ.1 97 37) + (1 : Int32)).toInt = ((c + 1 : Nat) : Int) := by
    rw [add_lit (k := 1) hc (by decide) (by unfold FL; omega) (by unfold FH; omega)]; push_cast; rfl
  refine ⟨M_196, rfl, Nat.le_of_ble_eq_true rfl, w_196_0 σ k v ⟨hin, hin, rfl, ?_⟩⟩
  rw [cn_of hc]
  have g1 : Gl mdEmit σ (s1 σ 120 c k) := wrG (κ := 76) (a := 0) (b := 839) (vl := FL) (vh := FH) rfl rfl (Gl.refl ht) rfl (Nat.zero_le _) (by clear e1; omega) (w_lo _) (w_hi _)
  have g2 := wrG (x := v) (q := 121) (k := c) (κ := 77) (a := 0) (b := 839) (vl := FL) (vh := FH) rfl rfl g1 rfl (Nat.zero_le _) (by clear e1; omega) (w_lo _) (w_hi _)
  have g3 := wrG (x := (σ.1 97 37) + (1 : Int32)) (q := 97) (k := 37) (κ := 12) (a := 37) (b := 37) (vl := FL) (vh := FH) rfl rfl g2 rfl (Nat.le_refl _) (Nat.le_refl _) (w_lo _) (w_hi _)
  refine ⟨g3, by rw [s1_on]; exact e1, by rw [s1_off (by omega), s1_off (by omega), s1_on], by rw [s1_off (by omega), s1_on], fun j hj => ⟨?_, ?_⟩⟩
  · rw [s1_off (by omega), s1_off (by omega), s1_off (fun e => hj e.2)]
  · rw [s1_off (by omega), s1_off (fun e => hj e.2), s1_off (by omega)]
/-- a row of codes from a to b leaves n values -/
def CODE (σ : Sg) (a b n : Nat) : Prop := ∃ D : Nat → Nat, D a = 0 ∧ D b = n ∧ ∀ c : Nat, a ≤ c → c < b → (0 ≤ (σ.1 120 c).toInt ∧ (σ.1 120 c).toInt ≤ 1 ∧ D c < 64 ∧ D (c + 1) = D c + 1 ∧ ((σ.1 120 c).toInt = 1 → 0 ≤ (σ.1 121 c).toInt ∧ (σ.1 121 c).toInt ≤ 13)) ∨ (2 ≤ (σ.1 120 c).toInt ∧ (σ.1 120 c).toInt ≤ 5 ∧ 2 ≤ D c ∧ D c ≤ 64 ∧ D (c + 1) + 1 = D c)
theorem CODE.nil {σ : Sg} {a : Nat} : CODE σ a a 0 := ⟨fun _ => 0, rfl, rfl, fun c h1 h2 => absurd h2 (by omega)⟩
theorem CODE.frame {σ σ' : Sg} {a b n : Nat} (h : CODE σ a b n) (hf : ∀ j, a ≤ j → j < b → σ'.1 120 j = σ.1 120 j ∧ σ'.1 121 j = σ.1 121 j) : CODE σ' a b n := by
  obtain ⟨D, d1, d2, d3⟩ := h
  refine ⟨D, d1, d2, fun c c1 c2 => ?_⟩
  rw [(hf c c1 c2).1, (hf c c1 c2).2]
  exact d3 c c1 c2
theorem CODE.we {σ : Sg} {a b n : Nat} {x y : Int32} (h : CODE σ a b n) (hx : x.toInt = (a : Int)) (hy : y.toInt = (b : Int)) (hb : b ≤ 840) : WE σ x y := by
  obtain ⟨D, d1, d2, d3⟩ := h
  refine ⟨by omega, by omega, D, by rw [show x.toInt.toNat = a by omega]; exact d1, fun c c1 c2 => d3 c (by omega) (by omega)⟩
theorem CODE.push {σ σ' : Sg} {a b n : Nat} (h : CODE σ a b n) (hab : a ≤ b) (hn : n < 64) (hf : ∀ j, a ≤ j → j < b → σ'.1 120 j = σ.1 120 j ∧ σ'.1 121 j = σ.1 121 j) (h1 : 0 ≤ (σ'.1 120 b).toInt) (h2 : (σ'.1 120 b).toInt ≤ 1) (h3 : (σ'.1 120 b).toInt = 1 → 0 ≤ (σ'.1 121 b).toInt ∧ (σ'.1 121 b).toInt ≤ 13) : CODE σ' a (b + 1) (n + 1) := by
  obtain ⟨D, d1, d2, d3⟩ := h
  refine ⟨fun c => if c = b + 1 then n + 1 else D c, ?_, if_pos rfl, fun c c1 c2 => ?_⟩
  · simp only [show ¬ a = b + 1 by omega, if_false]; exact d1
  · by_cases hc : c = b
    · subst hc
      refine Or.inl ⟨h1, h2, ?_, ?_, h3⟩
      · simp only [show ¬ c = c + 1 by omega, if_false]; omega
      · simp only [show ¬ c = c + 1 by omega, if_false, if_true]; omega
    · have := d3 c c1 (by omega)
      rw [(hf c c1 (by omega)).1, (hf c c1 (by omega)).2]
      simp only [show ¬ c = b + 1 by omega, show ¬ c + 1 = b + 1 by omega, if_false]
      exact this
theorem CODE.op {σ σ' : Sg} {a b n : Nat} (h : CODE σ a b n) (hab : a ≤ b) (hn : 2 ≤ n) (hn2 : n ≤ 64) (hf : ∀ j, a ≤ j → j < b → σ'.1 120 j = σ.1 120 j ∧ σ'.1 121 j = σ.1 121 j) (h1 : 2 ≤ (σ'.1 120 b).toInt) (h2 : (σ'.1 120 b).toInt ≤ 5) : CODE σ' a (b + 1) (n - 1) := by
  obtain ⟨D, d1, d2, d3⟩ := h
  refine ⟨fun c => if c = b + 1 then n - 1 else D c, ?_, if_pos rfl, fun c c1 c2 => ?_⟩
  · simp only [show ¬ a = b + 1 by omega, if_false]; exact d1
  · by_cases hc : c = b
    · subst hc
      refine Or.inr ⟨h1, h2, ?_, ?_, ?_⟩
      · simp only [show ¬ c = c + 1 by omega, if_false]; omega
      · simp only [show ¬ c = c + 1 by omega, if_false]; omega
      · simp only [show ¬ c = c + 1 by omega, if_false, if_true]; omega
    · have := d3 c c1 (by omega)
      rw [(hf c c1 (by omega)).1, (hf c c1 (by omega)).2]
      simp only [show ¬ c = b + 1 by omega, show ¬ c + 1 = b + 1 by omega, if_false]
      exact this
def mdUnit : List (Nat × Nat × Nat) := [(12, 11, 11), (12, 13, 16), (12, 37, 37), (76, 0, 839), (77, 0, 839)]
/-- a unit: none, and a fault, or one code more -/
def UN (c : Nat) (σ σ' : Sg) : Prop := Gl mdUnit σ σ' ∧ ST σ σ' ∧ ((¬ (σ'.1 97 13).toInt = 0 ∧ σ'.1 97 37 = σ.1 97 37 ∧ ∀ j, σ'.1 120 j = σ.1 120 j ∧ σ'.1 121 j = σ.1 121 j) ∨ ((σ.1 97 13).toInt = 0 ∧ (σ'.1 97 37).toInt = ((c + 1 : Nat) : Int) ∧ ((σ'.1 97 13).toInt = 0 → (σ.1 97 11).toInt + 1 ≤ (σ'.1 97 11).toInt) ∧ (0 ≤ (σ'.1 120 c).toInt ∧ (σ'.1 120 c).toInt ≤ 1 ∧ ((σ'.1 120 c).toInt = 1 → 0 ≤ (σ'.1 121 c).toInt ∧ (σ'.1 121 c).toInt ≤ 13)) ∧ ∀ j, ¬ j = c → σ'.1 120 j = σ.1 120 j ∧ σ'.1 121 j = σ.1 121 j))
theorem ST.emit {σ σ' : Sg} (hF : FV σ) (hG : Gl mdEmit σ σ') : ST σ σ' := ST.of hF (hG.get (q := 97) (κ := 12) rfl rfl) (hG.get (q := 97) (κ := 12) rfl rfl) (hG.get (q := 97) (κ := 12) rfl rfl)
theorem unit_88 {d c : Nat} {σ : Sg} (ht : typed TYP σ) (hF : FV σ) (hc : (σ.1 97 37).toInt = (c : Int)) (hc8 : c < 840) : Rn PRG (d + 1 + 1 + 1) 197 88 [(0, .ref 97)] [] σ (fun v σ' => v = none ∧ UN c σ σ') := by
  have z1 : (1 : Int32).toInt = 1 := by decide
  have k3 : (3 : Int32).toInt = 3 := by decide
  have k13 : ((10 : Int32) + (3 : Int32)).toInt = 13 := by decide
  refine w_197_88 σ ⟨_, is_OK ht, fun w2 σ1 hq => ?_⟩
  obtain ⟨e1, hw⟩ := hq
  rw [e1]
  refine ⟨fun _ => ⟨_, fail_OK ht hF (by decide), fun σ3 hq => w_197_134 σ3 ⟨rfl, hq.1.mono rfl, hq.2.1, Or.inl ⟨hq.2.2, hq.1.get (q := 97) (κ := 12) rfl rfl, fun j => ⟨hq.1.get (q := 120) (κ := 76) rfl rfl, hq.1.get (q := 121) (κ := 77) rfl rfl⟩⟩⟩⟩, fun hne => ?_⟩
  have hF0 : (σ.1 97 13).toInt = 0 := by
    rcases hw with h | h
    · exact h.2.1
    · exact absurd h.1 hne
  refine ⟨_, goesOn_OK (d := d + 1) ht hF, fun σ4 hq => ?_⟩
  obtain ⟨g4, s4, n4⟩ := hq
  refine ⟨_, bounded_OK (d := d) g4.1 s4.1, fun w6 σ5 hq => ?_⟩
  obtain ⟨g5, s5, n5, -, hw6⟩ := hq
  have g45 : Gl mdTok σ σ5 := g4.trans g5 rfl
  have s45 := s4.trans s5
  have hc5 : (σ5.1 97 37).toInt = (c : Int) := by rw [g45.get (q := 97) (κ := 12) rfl rfl]; exact hc
  have h0 : 0 ≤ w6.toInt := by
    rcases hw6 with rfl | h
    · decide
    · exact h.1
  have fin : ∀ v : Int32, 0 ≤ v.toInt → v.toInt ≤ 13 → ∃ Qc : Sg → Prop, OkV PRG (d + 1 + 1) 196 [.ref 97, .int (1 : Int32), .int v] σ5 Qc ∧ ∀ σ7, Qc σ7 → Rn PRG (d + 1 + 1 + 1) 197 134 [] [] σ7 (fun v σ' => v = none ∧ UN c σ σ') := by
    intro v v0 v13
    refine ⟨_, emit_OK g45.1 hc5 hc8, fun σ7 hq => w_197_134 σ7 ⟨rfl, ?_⟩⟩
    obtain ⟨g7, n7, a7, b7, f7⟩ := hq
    have s7 := ST.emit s45.1 g7
    refine ⟨(g45.mono rfl : Gl mdUnit σ σ5).trans g7 rfl, s45.trans s7, Or.inr ⟨hF0, n7, fun h => ?_, ⟨by rw [a7]; decide, by rw [a7]; decide, fun _ => by rw [b7]; exact ⟨v0, v13⟩⟩, fun j hj => ?_⟩⟩
    · have h5 := s7.2.2.1 h
      have h4 := s5.2.2.1 h5
      have := n4 h4
      have := n5 h5
      have e : σ7.1 97 11 = σ5.1 97 11 := g7.get (q := 97) (κ := 12) rfl rfl
      rw [e]; omega
    · rw [(f7 j hj).1, (f7 j hj).2]
      exact ⟨g45.get (q := 120) (κ := 76) rfl rfl, g45.get (q := 121) (κ := 77) rfl rfl⟩
  refine ⟨fun cc => ?_, fun _ => fin _ (by rw [k13]; omega) (by rw [k13]; omega)⟩
  rw [le_i rfl k3] at cc
  have e10 : ((10 : Int32) + w6).toInt = 10 + w6.toInt := by
    have t10 : (10 : Int32).toInt = 10 := by decide
    rw [add_ex (by rw [t10]; unfold FL; omega) (by rw [t10]; unfold FH; omega), t10]
  exact fin _ (by rw [e10]; omega) (by rw [e10]; omega)
theorem unit_OK {d c : Nat} {σ : Sg} (ht : typed TYP σ) (hF : FV σ) (hc : (σ.1 97 37).toInt = (c : Int)) (hc8 : c < 840) : OkV PRG (d + 1 + 1 + 1) 197 [.ref 97] σ (UN c σ) := by
  have k31 : (31 : Int32).toInt = 31 := by decide
  have k40 : (40 : Int32).toInt = 40 := by decide
  have hin := t_in ht
  have hr := t_rg ht
  have h88 := unit_88 (d := d) ht hF hc hc8
  have fin : ∀ k v : Int32, (σ.1 97 13).toInt = 0 → 0 ≤ k.toInt → k.toInt ≤ 1 → (k.toInt = 1 → 0 ≤ v.toInt ∧ v.toInt ≤ 13) → ∃ Qc : Sg → Prop, OkV PRG (d + 1 + 1) 196 [.ref 97, .int k, .int v] σ Qc ∧ ∀ σ3, Qc σ3 → (∃ Qc : Sg → Prop, OkV PRG (d + 1 + 1) 192 [.ref 97] σ3 Qc ∧ ∀ σ4, Qc σ4 → Rn PRG (d + 1 + 1 + 1) 197 134 [] [] σ4 (fun v σ' => v = none ∧ UN c σ σ')) := by
    intro k v hF0 k0 k1 hv
    refine ⟨_, emit_OK ht hc hc8, fun σ3 hq => ?_⟩
    obtain ⟨g3, n3, a3, b3, f3⟩ := hq
    have s3 := ST.emit hF g3
    refine ⟨_, goesOn_OK (d := d + 1) g3.1 s3.1, fun σ4 hq => w_197_134 σ4 ⟨rfl, ?_⟩⟩
    obtain ⟨g4, s4, n4⟩ := hq
    have e37 : σ4.1 97 37 = σ3.1 97 37 := g4.get (q := 97) (κ := 12) rfl rfl
    have e120 : ∀ j, σ4.1 120 j = σ3.1 120 j := fun j => g4.get (q := 120) (κ := 76) rfl rfl
    have e121 : ∀ j, σ4.1 121 j = σ3.1 121 j := fun j => g4.get (q := 121) (κ := 77) rfl rfl
    refine ⟨(g3.mono rfl : Gl mdUnit σ σ3).trans g4 rfl, s3.trans s4, Or.inr ⟨hF0, by rw [e37]; exact n3, fun h => ?_, ⟨by rw [e120, a3]; exact k0, by rw [e120, a3]; exact k1, fun h => by rw [e121, b3]; rw [e120, a3] at h; exact hv h⟩, fun j hj => by rw [e120, e121]; exact f3 j hj⟩⟩
    have := n4 h
    have e : σ3.1 97 11 = σ.1 97 11 := g3.get (q := 97) (κ := 12) rfl rfl
    rw [e] at this
    omega
  refine ⟨M_197, rfl, Nat.le_of_ble_eq_true rfl, w_197_0 σ ⟨_, is_OK ht, fun w2 σ1 hq => ?_⟩⟩
  obtain ⟨e1, hw⟩ := hq
  rw [e1]
  refine ⟨fun _ => ⟨fun c0 => ⟨hin, fun _ => h88, fun c1 => ⟨hin, fun _ => h88, fun c2 => ⟨hin, ?_⟩⟩⟩, fun _ => h88⟩, fun hne => ⟨hin, ?_⟩⟩
  · rw [lt_i rfl k31] at c1
    rw [lt_i k40 rfl] at c2
    have hv : ((σ.1 100 (σ.1 97 11).toNatClampNeg) - (31 : Int32)).toInt = (σ.1 100 (σ.1 97 11).toNatClampNeg).toInt - 31 := by
      rw [sub_ex (by rw [k31]; unfold FL; omega) (by rw [k31]; unfold FH; omega), k31]
    exact fin _ _ (zq_i.mp c0) (by decide) (by decide) (fun _ => by rw [hv]; omega)
  · have hF0 : (σ.1 97 13).toInt = 0 := by
      rcases hw with h | h
      · exact h.2.1
      · exact absurd h.1 hne
    exact fin _ _ hF0 (by decide) (by decide) (fun h => absurd h (by decide))
/-! what waits -/
def opn (σ : Sg) (n : Nat) : Nat := (List.range n).countP (fun j => decide (σ.1 122 j = 6))
theorem opn_succ (σ : Sg) (n : Nat) : opn σ (n + 1) = opn σ n + (if σ.1 122 n = 6 then 1 else 0) := by
  unfold opn
  rw [List.range_succ, List.countP_append]
  simp [List.countP_cons]
theorem opn_le (σ : Sg) (n : Nat) : opn σ n ≤ n := by
  have := List.countP_le_length (p := fun j => decide (σ.1 122 j = 6)) (l := List.range n)
  rw [List.length_range] at this
  exact this
theorem opn_frame {σ σ' : Sg} {n : Nat} (h : ∀ j, j < n → σ'.1 122 j = σ.1 122 j) : opn σ' n = opn σ n := by
  induction n with
  | zero => rfl
  | succ n ih => rw [opn_succ, opn_succ, ih (fun j hj => h j (by omega)), h n (by omega)]
def WV (m : Nat) (σ : Sg) : Prop := (σ.1 97 41).toInt = (m : Int) ∧ ∀ j, j < m → (σ.1 122 j = 6 ∨ σ.1 122 j = 8 ∨ σ.1 122 j = 9 ∨ σ.1 122 j = 10 ∨ σ.1 122 j = 15) ∧ (j + 1 < m → ¬ σ.1 122 j = 6 → ¬ σ.1 122 (j + 1) = 6 → (σ.1 122 j = 8 ∨ σ.1 122 j = 9) ∧ (σ.1 122 (j + 1) = 10 ∨ σ.1 122 (j + 1) = 15))
theorem wv_len {m : Nat} {σ : Sg} (h : WV m σ) : ∀ n, n ≤ m → n ≤ 3 * opn σ n + (if n = 0 then 0 else if σ.1 122 (n - 1) = 6 then 0 else if n = 1 then 1 else if σ.1 122 (n - 2) = 6 then 1 else 2) := by
  intro n
  induction n with
  | zero => intro _; omega
  | succ n ih =>
    intro hn
    have ih := ih (by omega)
    rw [opn_succ, if_neg (Nat.succ_ne_zero n), Nat.add_sub_cancel]
    by_cases hw : σ.1 122 n = 6
    · rw [if_pos hw, if_pos hw]
      have : (if n = 0 then 0 else if σ.1 122 (n - 1) = 6 then 0 else if n = 1 then 1 else if σ.1 122 (n - 2) = 6 then 1 else 2) ≤ 2 := by
        split
        · omega
        · split
          · omega
          · split
            · omega
            · split <;> omega
      omega
    · rw [if_neg hw, if_neg hw]
      by_cases h0 : n = 0
      · subst h0; simp
      · rw [if_neg h0] at ih
        rw [if_neg (show ¬ n + 1 = 1 by omega), show n + 1 - 2 = n - 1 by omega]
        by_cases hw1 : σ.1 122 (n - 1) = 6
        · rw [if_pos hw1] at ih ⊢
          omega
        · rw [if_neg hw1] at ih ⊢
          have p1 := (h.2 (n - 1) (by omega)).2 (by omega) hw1 (by rw [show n - 1 + 1 = n by omega]; exact hw)
          by_cases h1 : n = 1
          · rw [if_pos h1] at ih
            omega
          · rw [if_neg h1] at ih
            by_cases hw2 : σ.1 122 (n - 2) = 6
            · rw [if_pos hw2] at ih; omega
            · exfalso
              have p2 := (h.2 (n - 2) (by omega)).2 (by omega) hw2 (by rw [show n - 2 + 1 = n - 1 by omega]; exact hw1)
              rw [show n - 2 + 1 = n - 1 by omega] at p2
              rcases p1.1 with a | a <;> rcases p2.2 with b | b <;> rw [a] at b <;> exact absurd b (by decide)
theorem WV.le {m : Nat} {σ : Sg} (h : WV m σ) : m ≤ 3 * opn σ m + 2 := by
  have := wv_len h m (Nat.le_refl _)
  have h2 : (if m = 0 then 0 else if σ.1 122 (m - 1) = 6 then 0 else if m = 1 then 1 else if σ.1 122 (m - 2) = 6 then 1 else 2) ≤ 2 := by
    split
    · omega
    · split
      · omega
      · split
        · omega
        · split <;> omega
  omega
theorem WV.cut {m n : Nat} {σ σ' : Sg} (h : WV m σ) (hn : n ≤ m) (e : (σ'.1 97 41).toInt = (n : Int)) (hf : ∀ j, j < n → σ'.1 122 j = σ.1 122 j) : WV n σ' := by
  refine ⟨e, fun j hj => ?_⟩
  have := h.2 j (by omega)
  rw [hf j hj]
  refine ⟨this.1, fun h1 h2 h3 => ?_⟩
  rw [hf (j + 1) h1] at h3 ⊢
  exact this.2 (by omega) h2 h3
/-- one more waits -/
theorem WV.push {m : Nat} {x : Int32} {σ σ' : Sg} (h : WV m σ) (e : (σ'.1 97 41).toInt = ((m + 1 : Nat) : Int)) (hf : ∀ j, j < m → σ'.1 122 j = σ.1 122 j) (hx : σ'.1 122 m = x) (hk : x = 6 ∨ x = 8 ∨ x = 9 ∨ x = 10 ∨ x = 15) (hp : x = 6 ∨ m = 0 ∨ σ.1 122 (m - 1) = 6 ∨ ((σ.1 122 (m - 1) = 8 ∨ σ.1 122 (m - 1) = 9) ∧ (x = 10 ∨ x = 15))) : WV (m + 1) σ' := by
  refine ⟨e, fun j hj => ?_⟩
  by_cases hjm : j = m
  · subst hjm
    rw [hx]
    exact ⟨hk, fun h1 => absurd h1 (by omega)⟩
  · have := h.2 j (by omega)
    rw [hf j (by omega)]
    refine ⟨this.1, fun h1 h2 h3 => ?_⟩
    by_cases hj1 : j + 1 = m
    · rw [hj1, hx] at h3 ⊢
      have ej : m - 1 = j := by omega
      rw [ej] at hp
      rcases hp with hp | hp | hp | hp
      · exact absurd hp h3
      · omega
      · exact absurd hp h2
      · exact hp
    · rw [hf (j + 1) (by omega)] at h3 ⊢
      exact this.2 (by omega) h2 h3
def mdCO : List (Nat × Nat × Nat) := [(12, 37, 37), (12, 41, 41), (76, 0, 839), (77, 0, 839)]
/-- operators come out -/
def CO (x1 : Int32) (m c : Nat) (σ σ' : Sg) : Prop := ∃ m', m' ≤ m ∧ Gl mdCO σ σ' ∧ (σ'.1 97 41).toInt = (m' : Int) ∧ (σ'.1 97 37).toInt = ((c + (m - m') : Nat) : Int) ∧ opn σ m' = opn σ m ∧ (∀ j, j < c ∨ c + (m - m') ≤ j → σ'.1 120 j = σ.1 120 j ∧ σ'.1 121 j = σ.1 121 j) ∧ (m' = 0 ∨ σ.1 122 (m' - 1) = 6 ∨ (¬ x1 = 0 ∧ (σ.1 122 (m' - 1) = 8 ∨ σ.1 122 (m' - 1) = 9))) ∧ ∀ a, a ≤ c → CODE σ a c (m - opn σ m + 1) → CODE σ' a (c + (m - m')) (m' - opn σ m' + 1)
theorem co_go {d : Nat} {x1 : Int32} : ∀ (m c : Nat) (σ : Sg), typed TYP σ → WV m σ → m ≤ 60 → (σ.1 97 37).toInt = (c : Int) → c + (m - opn σ m) ≤ 839 → Rn PRG (d + 1) 198 0 [(0, .ref 97), (1, .int x1)] [] σ (fun v σ' => v = none ∧ CO x1 m c σ σ') := by
  intro m
  induction m with
  | zero =>
    intro c σ ht hW hm hc hb
    refine w_198_0 σ x1 ⟨fun _ => ⟨rfl, 0, Nat.le_refl _, Gl.refl ht, hW.1, by rw [hc]; simp, rfl, fun j _ => ⟨rfl, rfl⟩, Or.inl rfl, fun a _ h => h⟩, fun cc => absurd ?_ cc⟩
    rw [le0_i, hW.1]; decide
  | succ m ih =>
    intro c σ ht hW hm hc hb
    have one : (1 : Int32).toInt = 1 := by decide
    have e1 : ((σ.1 97 41) - (1 : Int32)).toInt = (m : Int) := by
      rw [sub_ex (by rw [hW.1, one]; unfold FL; omega) (by rw [hW.1, one]; unfold FH; omega), hW.1, one]; push_cast; omega
    have hin : inR ((σ.1 97 41) - (1 : Int32)) 64 = true := inR_ok (by rw [e1]; omega) (by rw [e1]; omega)
    have stop : (m + 1 = 0 ∨ σ.1 122 (m + 1 - 1) = 6 ∨ (¬ x1 = 0 ∧ (σ.1 122 (m + 1 - 1) = 8 ∨ σ.1 122 (m + 1 - 1) = 9))) → CO x1 (m + 1) c σ σ := fun h => ⟨m + 1, Nat.le_refl _, Gl.refl ht, hW.1, by rw [hc]; simp, rfl, fun j _ => ⟨rfl, rfl⟩, h, fun a _ hh => by simpa using hh⟩
    refine w_198_0 σ x1 ⟨fun cc => ?_, fun _ => ⟨hin, ?_⟩⟩
    · rw [le0_i, hW.1] at cc; omega
    rw [cn_of e1]
    refine ⟨fun c6 => ⟨rfl, stop (Or.inr (Or.inl c6))⟩, fun c6 => ?_⟩
    -- an operator comes out
    have kinds := (hW.2 m (by omega)).1
    have hop : opn σ (m + 1) = opn σ m := by rw [opn_succ, if_neg c6]; rfl
    have hle := opn_le σ m
    have g0 : Gl mdCO σ (s1 σ 97 41 ((σ.1 97 41) - (1 : Int32))) := wrG (κ := 12) (a := 41) (b := 41) (vl := FL) (vh := FH) rfl rfl (Gl.refl ht) rfl (Nat.le_refl _) (Nat.le_refl _) (w_lo _) (w_hi _)
    have e41 : ((s1 σ 97 41 ((σ.1 97 41) - (1 : Int32))).1 97 41).toInt = (m : Int) := by rw [s1_on]; exact e1
    have e37 : ((s1 σ 97 41 ((σ.1 97 41) - (1 : Int32))).1 97 37).toInt = (c : Int) := by rw [s1_off (by omega)]; exact hc
    have e120 : ∀ j, (s1 σ 97 41 ((σ.1 97 41) - (1 : Int32))).1 120 j = σ.1 120 j := fun j => s1_off (by omega)
    have e121 : ∀ j, (s1 σ 97 41 ((σ.1 97 41) - (1 : Int32))).1 121 j = σ.1 121 j := fun j => s1_off (by omega)
    generalize s1 σ 97 41 ((σ.1 97 41) - (1 : Int32)) = σa at g0 e41 e37 e120 e121 ⊢
    have pop : ∀ k : Int32, 2 ≤ k.toInt → k.toInt ≤ 5 → ∃ Qc : Sg → Prop, OkV PRG d 196 [.ref 97, .int k, .int (0 : Int32)] σa Qc ∧ ∀ σ4, Qc σ4 → Rn PRG (d + 1) 198 0 [(0, .ref 97), (1, .int x1)] [] σ4 (fun v σ' => v = none ∧ CO x1 (m + 1) c σ σ') := by
      intro k k2 k5
      refine ⟨_, emit_OK g0.1 e37 (by clear e1; omega), fun σ4 hq => ?_⟩
      obtain ⟨g4, n4, a4, b4, f4⟩ := hq
      have g04 : Gl mdCO σ σ4 := g0.trans g4 rfl
      have e122 : ∀ j, σ4.1 122 j = σ.1 122 j := fun j => g04.get (q := 122) (κ := 78) rfl rfl
      have o4 : ∀ n, opn σ4 n = opn σ n := fun n => opn_frame (fun j _ => e122 j)
      have e414 : (σ4.1 97 41).toInt = (m : Int) := by rw [g4.get (q := 97) (κ := 12) rfl rfl]; exact e41
      have hW4 : WV m σ4 := hW.cut (by omega) e414 (fun j _ => e122 j)
      refine Rn.mono (ih (c + 1) σ4 g4.1 hW4 (by omega) n4 (by rw [o4]; clear e1; omega)) (fun v σ' hz => ?_)
      obtain ⟨hv, m', h1, h2, h3, h4, h5, h6, h7, h8⟩ := hz
      have em : c + 1 + (m - m') = c + (m + 1 - m') := by omega
      rw [em] at h4 h6 h8
      refine ⟨hv, m', by omega, g04.trans h2 rfl, h3, h4, by rw [hop, ← o4 m', h5, o4], fun j hj => ?_, ?_, fun a ha hcode => ?_⟩
      · have a1 := h6 j (by omega)
        have a2 := f4 j (by omega)
        rw [a1.1, a1.2, a2.1, a2.2, e120, e121]
        exact ⟨rfl, rfl⟩
      · rw [← e122]; exact h7
      · have hcode4 : CODE σ4 a (c + 1) (m - opn σ4 m + 1) := by
          have := hcode.op (σ' := σ4) ha (by rw [hop]; omega) (by rw [hop]; omega) (fun j j1 j2 => by
            have := f4 j (by omega)
            rw [this.1, this.2, e120, e121]
            exact ⟨rfl, rfl⟩) (by rw [a4]; exact k2) (by rw [a4]; exact k5)
          rw [o4]
          rw [hop, show m + 1 - opn σ m + 1 - 1 = m - opn σ m + 1 by omega] at this
          exact this
        have := h8 a (by omega) hcode4
        rw [o4] at this
        exact this
    have pop2 := pop 2 (by decide) (by decide)
    have pop3 := pop 3 (by decide) (by decide)
    have pop4 := pop 4 (by decide) (by decide)
    have pop5 := pop 5 (by decide) (by decide)
    refine ⟨fun _ => ⟨fun _ => pop2, fun _ => ⟨fun _ => pop3, fun _ => ⟨fun _ => pop4, fun _ => pop5⟩⟩⟩, fun hx => ⟨fun c8 => ⟨rfl, stop (Or.inr (Or.inr ⟨hx, Or.inl c8⟩))⟩, fun _ => ⟨fun c9 => ⟨rfl, stop (Or.inr (Or.inr ⟨hx, Or.inr c9⟩))⟩, fun _ => ⟨fun _ => pop2, fun _ => ⟨fun _ => pop3, fun _ => ⟨fun _ => pop4, fun _ => pop5⟩⟩⟩⟩⟩⟩
theorem comesOut_OK {d m c : Nat} {x1 : Int32} {σ : Sg} (ht : typed TYP σ) (hW : WV m σ) (hm : m ≤ 60) (hc : (σ.1 97 37).toInt = (c : Int)) (hb : c + (m - opn σ m) ≤ 839) : OkV PRG (d + 1) 198 [.ref 97, .int x1] σ (CO x1 m c σ) :=
  ⟨M_198, rfl, Nat.le_of_ble_eq_true rfl, co_go m c σ ht hW hm hc hb⟩
