/-! the tokens: what must hold -/
set_option maxRecDepth 100000 in
theorem w_189_0 {d : Nat} {Q : Option Value → Sg → Prop} (σ : Sg) (x1 : Int32) (h : (((σ.1 97 13) = 0 → (inR (σ.1 97 11) 403 = true ∧ (((σ.1 100 (σ.1 97 11).toNatClampNeg) = x1 → Q (some (.int (1 : Int32))) σ) ∧ (¬ (σ.1 100 (σ.1 97 11).toNatClampNeg) = x1 → Q (some (.int (0 : Int32))) σ)))) ∧ (¬ (σ.1 97 13) = 0 → Q (some (.int (0 : Int32))) σ))) : Rn PRG d 189 0 [(0, .ref 97), (1, .int x1)] [] σ Q := by
  have hM : PRG[189]? = some M_189 := rfl
  refine Rn.brN (c := (σ.1 97 13) = 0) (a := 24) (b := 7) (ls' := [(0, .ref 97), (1, .int x1)]) (st' := []) (σ' := σ) hM 3 rfl (fun c => ?_) (fun c => ?_)
  · replace h := h.2 c
    refine Rn.seg (pc' := 25) (ls' := [(0, .ref 97), (1, .int x1)]) (st' := [.int (0 : Int32)]) (σ' := σ) hM 1 rfl ?_
    exact Rn.ret hM rfl rfl h
  · replace h := h.1 c
    refine Rn.seg (pc' := 15) (ls' := [(0, .ref 97), (1, .int x1)]) (st' := [.int (σ.1 97 11), .ref 100]) (σ' := σ) hM 4 rfl ?_
    refine Rn.iald hM rfl rfl h.1 ?_
    refine Rn.brN (c := (σ.1 100 (σ.1 97 11).toNatClampNeg) = x1) (a := 24) (b := 20) (ls' := [(0, .ref 97), (1, .int x1)]) (st' := []) (σ' := σ) hM 2 rfl (fun c => ?_) (fun c => ?_)
    · replace h := h.2.2 c
      refine Rn.seg (pc' := 25) (ls' := [(0, .ref 97), (1, .int x1)]) (st' := [.int (0 : Int32)]) (σ' := σ) hM 1 rfl ?_
      exact Rn.ret hM rfl rfl h
    · replace h := h.2.1 c
      refine Rn.seg (pc' := 25) (ls' := [(0, .ref 97), (1, .int x1)]) (st' := [.int (1 : Int32)]) (σ' := σ) hM 2 rfl ?_
      exact Rn.ret hM rfl rfl h
set_option maxRecDepth 100000 in
theorem w_190_0 {d : Nat} {Q : Option Value → Sg → Prop} (σ : Sg) (x1 : Int32) (h : (((σ.1 97 13) ≤ 0 → (inR (σ.1 97 11) 403 = true ∧ Q none (s1 (s1 σ 97 13 x1) 97 14 (σ.1 101 (σ.1 97 11).toNatClampNeg)))) ∧ (¬ (σ.1 97 13) ≤ 0 → Q none σ))) : Rn PRG d 190 0 [(0, .ref 97), (1, .int x1)] [] σ Q := by
  have hM : PRG[190]? = some M_190 := rfl
  refine Rn.br (c := (σ.1 97 13) ≤ 0) (a := 8) (b := 7) (ls' := [(0, .ref 97), (1, .int x1)]) (st' := []) (σ' := σ) hM 3 rfl (fun c => ?_) (fun c => ?_)
  · replace h := h.1 c
    refine Rn.seg (pc' := 22) (ls' := [(0, .ref 97), (1, .int x1)]) (st' := [.int (σ.1 97 11), .ref 101, .ref 97]) (σ' := (s1 σ 97 13 x1)) hM 8 rfl ?_
    refine Rn.iald hM rfl rfl h.1 ?_
    refine Rn.seg (pc' := 26) (ls' := [(0, .ref 97), (1, .int x1)]) (st' := []) (σ' := (s1 (s1 σ 97 13 x1) 97 14 (σ.1 101 (σ.1 97 11).toNatClampNeg))) hM 1 rfl ?_
    exact Rn.ret hM rfl rfl h.2
  · replace h := h.2 c
    refine Rn.seg (pc' := 7) (ls' := [(0, .ref 97), (1, .int x1)]) (st' := []) (σ' := σ) hM 0 rfl ?_
    exact Rn.ret hM rfl rfl h
set_option maxRecDepth 100000 in
theorem w_192_0 {d : Nat} {Q : Option Value → Sg → Prop} (σ : Sg) (h : (((σ.1 97 11) = (400 : Int32) → (∃ Qc : Sg → Prop, OkV PRG d 190 [.ref 97, .int (2 : Int32)] σ Qc ∧ ∀ σ1, Qc σ1 → Q none σ1)) ∧ (¬ (σ.1 97 11) = (400 : Int32) → Q none (s1 σ 97 11 ((σ.1 97 11) + (1 : Int32)))))) : Rn PRG (d + 1) 192 0 [(0, .ref 97)] [] σ Q := by
  have hM : PRG[192]? = some M_192 := rfl
  refine Rn.brN (c := (σ.1 97 11) = (400 : Int32)) (a := 18) (b := 10) (ls' := [(0, .ref 97)]) (st' := []) (σ' := σ) hM 4 rfl (fun c => ?_) (fun c => ?_)
  · replace h := h.2 c
    refine Rn.seg (pc' := 28) (ls' := [(0, .ref 97)]) (st' := []) (σ' := (s1 σ 97 11 ((σ.1 97 11) + (1 : Int32)))) hM 6 rfl ?_
    exact Rn.ret hM rfl rfl h
  · replace h := h.1 c
    refine Rn.seg (pc' := 12) (ls' := [(0, .ref 97)]) (st' := [.int (2 : Int32), .ref 97]) (σ' := σ) hM 2 rfl ?_
    obtain ⟨Qc, hq, h⟩ := h
    refine Rn.cV hM rfl rfl (by decide) hq (fun σ1 hw => ?_)
    replace h := h σ1 hw
    refine Rn.seg (pc' := 28) (ls' := [(0, .ref 97)]) (st' := []) (σ' := σ1) hM 1 rfl ?_
    exact Rn.ret hM rfl rfl h
set_option maxRecDepth 100000 in
theorem w_193_0 {d : Nat} {Q : Option Value → Sg → Prop} (σ : Sg) (x1 : Int32) (h : (∃ Qc : Int32 → Sg → Prop, OkI PRG d 189 [.ref 97, .int x1] σ Qc ∧ ∀ w2 σ1, Qc w2 σ1 → ((w2 = 0 → (∃ Qc : Sg → Prop, OkV PRG d 190 [.ref 97, .int (1 : Int32)] σ1 Qc ∧ ∀ σ3, Qc σ3 → Q none σ3)) ∧ (¬ w2 = 0 → (∃ Qc : Sg → Prop, OkV PRG d 192 [.ref 97] σ1 Qc ∧ ∀ σ4, Qc σ4 → Q none σ4))))) : Rn PRG (d + 1) 193 0 [(0, .ref 97), (1, .int x1)] [] σ Q := by
  have hM : PRG[193]? = some M_193 := rfl
  refine Rn.seg (pc' := 2) (ls' := [(0, .ref 97), (1, .int x1)]) (st' := [.int x1, .ref 97]) (σ' := σ) hM 2 rfl ?_
  obtain ⟨Qc, hq, h⟩ := h
  refine Rn.cI hM rfl rfl (by decide) hq (fun w2 σ1 hw => ?_)
  replace h := h w2 σ1 hw
  refine Rn.br (c := w2 = 0) (a := 15) (b := 8) (ls' := [(0, .ref 97), (1, .int x1)]) (st' := []) (σ' := σ1) hM 1 rfl (fun c => ?_) (fun c => ?_)
  · replace h := h.1 c
    refine Rn.seg (pc' := 17) (ls' := [(0, .ref 97), (1, .int x1)]) (st' := [.int (1 : Int32), .ref 97]) (σ' := σ1) hM 2 rfl ?_
    obtain ⟨Qc, hq, h⟩ := h
    refine Rn.cV hM rfl rfl (by decide) hq (fun σ3 hw => ?_)
    replace h := h σ3 hw
    refine Rn.seg (pc' := 20) (ls' := [(0, .ref 97), (1, .int x1)]) (st' := []) (σ' := σ3) hM 0 rfl ?_
    exact Rn.ret hM rfl rfl h
  · replace h := h.2 c
    refine Rn.seg (pc' := 9) (ls' := [(0, .ref 97), (1, .int x1)]) (st' := [.ref 97]) (σ' := σ1) hM 1 rfl ?_
    obtain ⟨Qc, hq, h⟩ := h
    refine Rn.cV hM rfl rfl (by decide) hq (fun σ4 hw => ?_)
    replace h := h σ4 hw
    refine Rn.seg (pc' := 20) (ls' := [(0, .ref 97), (1, .int x1)]) (st' := []) (σ' := σ4) hM 1 rfl ?_
    exact Rn.ret hM rfl rfl h
set_option maxRecDepth 100000 in
theorem w_191_0 {d : Nat} {Q : Option Value → Sg → Prop} (σ : Sg) (x1 x2 : Int32) (h : (inR x2 403 = true ∧ ((0 < (σ.1 97 13) → Q none σ) ∧ (¬ 0 < (σ.1 97 13) → (((σ.1 97 15) = 0 → Q none (s1 (s1 σ 97 15 x1) 97 16 (σ.1 101 x2.toNatClampNeg))) ∧ (¬ (σ.1 97 15) = 0 → (((σ.1 97 16) < (σ.1 101 x2.toNatClampNeg) → Q none σ) ∧ (¬ (σ.1 97 16) < (σ.1 101 x2.toNatClampNeg) → (((σ.1 101 x2.toNatClampNeg) = (σ.1 97 16) → ((x1 < (σ.1 97 15) → Q none (s1 (s1 σ 97 15 x1) 97 16 (σ.1 101 x2.toNatClampNeg))) ∧ (¬ x1 < (σ.1 97 15) → Q none σ))) ∧ (¬ (σ.1 101 x2.toNatClampNeg) = (σ.1 97 16) → Q none (s1 (s1 σ 97 15 x1) 97 16 (σ.1 101 x2.toNatClampNeg)))))))))))) : Rn PRG d 191 0 [(0, .ref 97), (1, .int x1), (2, .int x2)] [] σ Q := by
  have hM : PRG[191]? = some M_191 := rfl
  refine Rn.seg (pc' := 5) (ls' := [(0, .ref 97), (1, .int x1), (2, .int x2)]) (st' := [.int x2, .ref 101]) (σ' := σ) hM 3 rfl ?_
  refine Rn.iald hM rfl rfl h.1 ?_
  refine Rn.br (c := 0 < (σ.1 97 13)) (a := 45) (b := 14) (ls' := [(3, .int (σ.1 101 x2.toNatClampNeg)), (0, .ref 97), (1, .int x1), (2, .int x2)]) (st' := []) (σ' := σ) hM 4 rfl (fun c => ?_) (fun c => ?_)
  · replace h := h.2.1 c
    refine Rn.seg (pc' := 45) (ls' := [(3, .int (σ.1 101 x2.toNatClampNeg)), (0, .ref 97), (1, .int x1), (2, .int x2)]) (st' := []) (σ' := σ) hM 0 rfl ?_
    exact Rn.ret hM rfl rfl h
  · replace h := h.2.2 c
    refine Rn.br (c := (σ.1 97 15) = 0) (a := 46) (b := 21) (ls' := [(3, .int (σ.1 101 x2.toNatClampNeg)), (0, .ref 97), (1, .int x1), (2, .int x2)]) (st' := []) (σ' := σ) hM 3 rfl (fun c => ?_) (fun c => ?_)
    · replace h := h.1 c
      refine Rn.seg (pc' := 56) (ls' := [(3, .int (σ.1 101 x2.toNatClampNeg)), (0, .ref 97), (1, .int x1), (2, .int x2)]) (st' := []) (σ' := (s1 (s1 σ 97 15 x1) 97 16 (σ.1 101 x2.toNatClampNeg))) hM 6 rfl ?_
      exact Rn.ret hM rfl rfl h
    · replace h := h.2 c
      refine Rn.br (c := (σ.1 97 16) < (σ.1 101 x2.toNatClampNeg)) (a := 45) (b := 29) (ls' := [(3, .int (σ.1 101 x2.toNatClampNeg)), (0, .ref 97), (1, .int x1), (2, .int x2)]) (st' := []) (σ' := σ) hM 4 rfl (fun c => ?_) (fun c => ?_)
      · replace h := h.1 c
        refine Rn.seg (pc' := 45) (ls' := [(3, .int (σ.1 101 x2.toNatClampNeg)), (0, .ref 97), (1, .int x1), (2, .int x2)]) (st' := []) (σ' := σ) hM 0 rfl ?_
        exact Rn.ret hM rfl rfl h
      · replace h := h.2 c
        refine Rn.brN (c := (σ.1 101 x2.toNatClampNeg) = (σ.1 97 16)) (a := 46) (b := 37) (ls' := [(3, .int (σ.1 101 x2.toNatClampNeg)), (0, .ref 97), (1, .int x1), (2, .int x2)]) (st' := []) (σ' := σ) hM 4 rfl (fun c => ?_) (fun c => ?_)
        · replace h := h.2 c
          refine Rn.seg (pc' := 56) (ls' := [(3, .int (σ.1 101 x2.toNatClampNeg)), (0, .ref 97), (1, .int x1), (2, .int x2)]) (st' := []) (σ' := (s1 (s1 σ 97 15 x1) 97 16 (σ.1 101 x2.toNatClampNeg))) hM 6 rfl ?_
          exact Rn.ret hM rfl rfl h
        · replace h := h.1 c
          refine Rn.br (c := x1 < (σ.1 97 15)) (a := 46) (b := 45) (ls' := [(3, .int (σ.1 101 x2.toNatClampNeg)), (0, .ref 97), (1, .int x1), (2, .int x2)]) (st' := []) (σ' := σ) hM 4 rfl (fun c => ?_) (fun c => ?_)
          · replace h := h.1 c
            refine Rn.seg (pc' := 56) (ls' := [(3, .int (σ.1 101 x2.toNatClampNeg)), (0, .ref 97), (1, .int x1), (2, .int x2)]) (st' := []) (σ' := (s1 (s1 σ 97 15 x1) 97 16 (σ.1 101 x2.toNatClampNeg))) hM 6 rfl ?_
            exact Rn.ret hM rfl rfl h
          · replace h := h.2 c
            refine Rn.seg (pc' := 45) (ls' := [(3, .int (σ.1 101 x2.toNatClampNeg)), (0, .ref 97), (1, .int x1), (2, .int x2)]) (st' := []) (σ' := σ) hM 0 rfl ?_
            exact Rn.ret hM rfl rfl h
set_option maxRecDepth 100000 in
theorem w_194_0 {d : Nat} {Q : Option Value → Sg → Prop} (σ : Sg) (x1 x2 : Int32) (h : ((0 < (σ.1 97 13) → (∃ Qc : Sg → Prop, OkV PRG d 190 [.ref 97, .int (1 : Int32)] σ Qc ∧ ∀ σ1, Qc σ1 → Q (some (.int x1)) σ1)) ∧ (¬ 0 < (σ.1 97 13) → (∃ Qc : Int32 → Sg → Prop, OkI PRG d 189 [.ref 97, .int (2 : Int32)] σ Qc ∧ ∀ w3 σ2, Qc w3 σ2 → ((w3 = 0 → (∃ Qc : Sg → Prop, OkV PRG d 190 [.ref 97, .int (1 : Int32)] σ2 Qc ∧ ∀ σ9, Qc σ9 → Q (some (.int x1)) σ9)) ∧ (¬ w3 = 0 → (inR (σ2.1 97 11) 403 = true ∧ (((σ2.1 102 (σ2.1 97 11).toNatClampNeg) < x1 → (∃ Qc : Sg → Prop, OkV PRG d 191 [.ref 97, .int (5 : Int32), .int (σ2.1 97 11)] σ2 Qc ∧ ∀ σ4, Qc σ4 → (∃ Qc : Sg → Prop, OkV PRG d 192 [.ref 97] σ4 Qc ∧ ∀ σ5, Qc σ5 → Q (some (.int (σ2.1 102 (σ2.1 97 11).toNatClampNeg))) σ5))) ∧ (¬ (σ2.1 102 (σ2.1 97 11).toNatClampNeg) < x1 → (((σ2.1 102 (σ2.1 97 11).toNatClampNeg) ≤ x2 → (∃ Qc : Sg → Prop, OkV PRG d 192 [.ref 97] σ2 Qc ∧ ∀ σ6, Qc σ6 → Q (some (.int (σ2.1 102 (σ2.1 97 11).toNatClampNeg))) σ6)) ∧ (¬ (σ2.1 102 (σ2.1 97 11).toNatClampNeg) ≤ x2 → (∃ Qc : Sg → Prop, OkV PRG d 191 [.ref 97, .int (5 : Int32), .int (σ2.1 97 11)] σ2 Qc ∧ ∀ σ7, Qc σ7 → (∃ Qc : Sg → Prop, OkV PRG d 192 [.ref 97] σ7 Qc ∧ ∀ σ8, Qc σ8 → Q (some (.int (σ2.1 102 (σ2.1 97 11).toNatClampNeg))) σ8))))))))))))) : Rn PRG (d + 1) 194 0 [(0, .ref 97), (1, .int x1), (2, .int x2)] [] σ Q := by
  have hM : PRG[194]? = some M_194 := rfl
  refine Rn.br (c := 0 < (σ.1 97 13)) (a := 15) (b := 7) (ls' := [(0, .ref 97), (1, .int x1), (2, .int x2)]) (st' := []) (σ' := σ) hM 3 rfl (fun c => ?_) (fun c => ?_)
  · replace h := h.1 c
    refine Rn.seg (pc' := 17) (ls' := [(0, .ref 97), (1, .int x1), (2, .int x2)]) (st' := [.int (1 : Int32), .ref 97]) (σ' := σ) hM 2 rfl ?_
    obtain ⟨Qc, hq, h⟩ := h
    refine Rn.cV hM rfl rfl (by decide) hq (fun σ1 hw => ?_)
    replace h := h σ1 hw
    refine Rn.seg (pc' := 21) (ls' := [(0, .ref 97), (1, .int x1), (2, .int x2)]) (st' := [.int x1]) (σ' := σ1) hM 1 rfl ?_
    exact Rn.ret hM rfl rfl h
  · replace h := h.2 c
    refine Rn.seg (pc' := 9) (ls' := [(0, .ref 97), (1, .int x1), (2, .int x2)]) (st' := [.int (2 : Int32), .ref 97]) (σ' := σ) hM 2 rfl ?_
    obtain ⟨Qc, hq, h⟩ := h
    refine Rn.cI hM rfl rfl (by decide) hq (fun w3 σ2 hw => ?_)
    replace h := h w3 σ2 hw
    refine Rn.brN (c := w3 = 0) (a := 22) (b := 15) (ls' := [(0, .ref 97), (1, .int x1), (2, .int x2)]) (st' := []) (σ' := σ2) hM 1 rfl (fun c => ?_) (fun c => ?_)
    · replace h := h.2 c
      refine Rn.seg (pc' := 30) (ls' := [(0, .ref 97), (1, .int x1), (2, .int x2)]) (st' := [.int (σ2.1 97 11), .ref 102]) (σ' := σ2) hM 4 rfl ?_
      refine Rn.iald hM rfl rfl h.1 ?_
      refine Rn.br (c := (σ2.1 102 (σ2.1 97 11).toNatClampNeg) < x1) (a := 42) (b := 37) (ls' := [(3, .int (σ2.1 102 (σ2.1 97 11).toNatClampNeg)), (0, .ref 97), (1, .int x1), (2, .int x2)]) (st' := []) (σ' := σ2) hM 4 rfl (fun c => ?_) (fun c => ?_)
      · replace h := h.2.1 c
        refine Rn.seg (pc' := 48) (ls' := [(3, .int (σ2.1 102 (σ2.1 97 11).toNatClampNeg)), (0, .ref 97), (1, .int x1), (2, .int x2)]) (st' := [.int (σ2.1 97 11), .int (5 : Int32), .ref 97]) (σ' := σ2) hM 4 rfl ?_
        obtain ⟨Qc, hq, h⟩ := h
        refine Rn.cV hM rfl rfl (by decide) hq (fun σ4 hw => ?_)
        replace h := h σ4 hw
        refine Rn.seg (pc' := 52) (ls' := [(3, .int (σ2.1 102 (σ2.1 97 11).toNatClampNeg)), (0, .ref 97), (1, .int x1), (2, .int x2)]) (st' := [.ref 97]) (σ' := σ4) hM 1 rfl ?_
        obtain ⟨Qc, hq, h⟩ := h
        refine Rn.cV hM rfl rfl (by decide) hq (fun σ5 hw => ?_)
        replace h := h σ5 hw
        refine Rn.seg (pc' := 56) (ls' := [(3, .int (σ2.1 102 (σ2.1 97 11).toNatClampNeg)), (0, .ref 97), (1, .int x1), (2, .int x2)]) (st' := [.int (σ2.1 102 (σ2.1 97 11).toNatClampNeg)]) (σ' := σ5) hM 1 rfl ?_
        exact Rn.ret hM rfl rfl h
      · replace h := h.2.2 c
        refine Rn.br (c := (σ2.1 102 (σ2.1 97 11).toNatClampNeg) ≤ x2) (a := 51) (b := 42) (ls' := [(3, .int (σ2.1 102 (σ2.1 97 11).toNatClampNeg)), (0, .ref 97), (1, .int x1), (2, .int x2)]) (st' := []) (σ' := σ2) hM 3 rfl (fun c => ?_) (fun c => ?_)
        · replace h := h.1 c
          refine Rn.seg (pc' := 52) (ls' := [(3, .int (σ2.1 102 (σ2.1 97 11).toNatClampNeg)), (0, .ref 97), (1, .int x1), (2, .int x2)]) (st' := [.ref 97]) (σ' := σ2) hM 1 rfl ?_
          obtain ⟨Qc, hq, h⟩ := h
          refine Rn.cV hM rfl rfl (by decide) hq (fun σ6 hw => ?_)
          replace h := h σ6 hw
          refine Rn.seg (pc' := 56) (ls' := [(3, .int (σ2.1 102 (σ2.1 97 11).toNatClampNeg)), (0, .ref 97), (1, .int x1), (2, .int x2)]) (st' := [.int (σ2.1 102 (σ2.1 97 11).toNatClampNeg)]) (σ' := σ6) hM 1 rfl ?_
          exact Rn.ret hM rfl rfl h
        · replace h := h.2 c
          refine Rn.seg (pc' := 48) (ls' := [(3, .int (σ2.1 102 (σ2.1 97 11).toNatClampNeg)), (0, .ref 97), (1, .int x1), (2, .int x2)]) (st' := [.int (σ2.1 97 11), .int (5 : Int32), .ref 97]) (σ' := σ2) hM 4 rfl ?_
          obtain ⟨Qc, hq, h⟩ := h
          refine Rn.cV hM rfl rfl (by decide) hq (fun σ7 hw => ?_)
          replace h := h σ7 hw
          refine Rn.seg (pc' := 52) (ls' := [(3, .int (σ2.1 102 (σ2.1 97 11).toNatClampNeg)), (0, .ref 97), (1, .int x1), (2, .int x2)]) (st' := [.ref 97]) (σ' := σ7) hM 1 rfl ?_
          obtain ⟨Qc, hq, h⟩ := h
          refine Rn.cV hM rfl rfl (by decide) hq (fun σ8 hw => ?_)
          replace h := h σ8 hw
          refine Rn.seg (pc' := 56) (ls' := [(3, .int (σ2.1 102 (σ2.1 97 11).toNatClampNeg)), (0, .ref 97), (1, .int x1), (2, .int x2)]) (st' := [.int (σ2.1 102 (σ2.1 97 11).toNatClampNeg)]) (σ' := σ8) hM 1 rfl ?_
          exact Rn.ret hM rfl rfl h
    · replace h := h.1 c
      refine Rn.seg (pc' := 17) (ls' := [(0, .ref 97), (1, .int x1), (2, .int x2)]) (st' := [.int (1 : Int32), .ref 97]) (σ' := σ2) hM 2 rfl ?_
      obtain ⟨Qc, hq, h⟩ := h
      refine Rn.cV hM rfl rfl (by decide) hq (fun σ9 hw => ?_)
      replace h := h σ9 hw
      refine Rn.seg (pc' := 21) (ls' := [(0, .ref 97), (1, .int x1), (2, .int x2)]) (st' := [.int x1]) (σ' := σ9) hM 1 rfl ?_
      exact Rn.ret hM rfl rfl h
/-! the tokens -/
def mdTok : List (Nat × Nat × Nat) := [(12, 11, 11), (12, 13, 16)]
/-- fault and worst are in range -/
def FV (σ : Sg) : Prop := 0 ≤ (σ.1 97 13).toInt ∧ (σ.1 97 13).toInt ≤ 2 ∧ 0 ≤ (σ.1 97 15).toInt
/-- the reading goes on -/
def ST (σ σ' : Sg) : Prop := FV σ' ∧ (σ.1 97 11).toInt ≤ (σ'.1 97 11).toInt ∧ ((σ'.1 97 13).toInt = 0 → (σ.1 97 13).toInt = 0) ∧ (¬ (σ.1 97 15).toInt = 0 → ¬ (σ'.1 97 15).toInt = 0)
theorem ST.refl {σ : Sg} (h : FV σ) : ST σ σ := ⟨h, Int.le_refl _, id, id⟩
theorem ST.trans {σ σ1 σ2 : Sg} (h1 : ST σ σ1) (h2 : ST σ1 σ2) : ST σ σ2 := ⟨h2.1, Int.le_trans h1.2.1 h2.2.1, fun h => h1.2.2.1 (h2.2.2.1 h), fun h => h2.2.2.2 (h1.2.2.2 h)⟩
theorem ST.of {σ σ' : Sg} (h : FV σ) (e11 : σ'.1 97 11 = σ.1 97 11) (e13 : σ'.1 97 13 = σ.1 97 13) (e15 : σ'.1 97 15 = σ.1 97 15) : ST σ σ' := by
  refine ⟨⟨by rw [e13]; exact h.1, by rw [e13]; exact h.2.1, by rw [e15]; exact h.2.2⟩, by rw [e11]; exact Int.le_refl _, by rw [e13]; exact id, by rw [e15]; exact id⟩
theorem t_rg {σ : Sg} (ht : typed TYP σ) : 0 ≤ (σ.1 97 11).toInt ∧ (σ.1 97 11).toInt ≤ 400 := tyF ht (q := 97) (κ := 12) (k := 11) (lo := 0) (hi := 400) rfl rfl
theorem t_in {σ : Sg} (ht : typed TYP σ) : inR (σ.1 97 11) 403 = true := by
  have := t_rg ht
  exact inR_ok this.1 (by omega)
theorem zq_i {x : Int32} : x = 0 ↔ x.toInt = 0 := by
  have z0 : (0 : Int32).toInt = 0 := by decide
  exact eq_i rfl z0
theorem le0_i {x : Int32} : x ≤ 0 ↔ x.toInt ≤ 0 := by
  have z0 : (0 : Int32).toInt = 0 := by decide
  exact le_i rfl z0
theorem lt0_i {x : Int32} : 0 < x ↔ 0 < x.toInt := by
  have z0 : (0 : Int32).toInt = 0 := by decide
  exact lt_i z0 rfl
/-- the kind of the token at hand -/
def tkn (σ : Sg) : Int32 := σ.1 100 (σ.1 97 11).toNatClampNeg
theorem tkn_rg {σ : Sg} (ht : typed TYP σ) : 0 ≤ (tkn σ).toInt ∧ (tkn σ).toInt ≤ 41 := by
  have h := t_rg ht
  exact tyA ht (q := 100) (κ := 56) (k := (σ.1 97 11).toNatClampNeg) (a := 0) (b := 402) (lo := 0) (hi := 41) rfl rfl (by omega) (by show (σ.1 97 11).toInt.toNat ≤ 402; omega)
theorem is_OK {d : Nat} {k : Int32} {σ : Sg} (ht : typed TYP σ) : OkI PRG d 189 [.ref 97, .int k] σ (fun w σ' => σ' = σ ∧ ((w = 1 ∧ (σ.1 97 13).toInt = 0 ∧ tkn σ = k) ∨ (w = 0 ∧ ¬ ((σ.1 97 13).toInt = 0 ∧ tkn σ = k)))) := by
  refine ⟨M_189, rfl, Nat.le_of_ble_eq_true rfl, w_189_0 σ k ⟨fun c => ⟨t_in ht, fun e => ⟨_, rfl, rfl, Or.inl ⟨rfl, zq_i.mp c, e⟩⟩, fun e => ⟨_, rfl, rfl, Or.inr ⟨rfl, fun h => e h.2⟩⟩⟩, fun c => ⟨_, rfl, rfl, Or.inr ⟨rfl, fun h => c (zq_i.mpr h.1)⟩⟩⟩⟩
theorem fail_OK {d : Nat} {k : Int32} {σ : Sg} (ht : typed TYP σ) (hF : FV σ) (hk : 1 ≤ k.toInt ∧ k.toInt ≤ 2) : OkV PRG d 190 [.ref 97, .int k] σ (fun σ' => Gl mdTok σ σ' ∧ ST σ σ' ∧ ¬ (σ'.1 97 13).toInt = 0) := by
  refine ⟨M_190, rfl, Nat.le_of_ble_eq_true rfl, w_190_0 σ k ⟨fun c => ⟨t_in ht, rfl, ?_⟩, fun c => ⟨rfl, Gl.refl ht, ST.refl hF, fun e => c (le0_i.mpr (by omega))⟩⟩⟩
  have g1 : Gl mdTok σ (s1 σ 97 13 k) := wrG (κ := 12) (a := 13) (b := 13) (vl := FL) (vh := FH) rfl rfl (Gl.refl ht) rfl (Nat.le_refl _) (Nat.le_refl _) (w_lo _) (w_hi _)
  have g2 := wrG (x := σ.1 101 (σ.1 97 11).toNatClampNeg) (q := 97) (k := 14) (κ := 12) (a := 14) (b := 14) (vl := FL) (vh := FH) rfl rfl g1 rfl (Nat.le_refl _) (Nat.le_refl _) (w_lo _) (w_hi _)
  have e13 : (s1 (s1 σ 97 13 k) 97 14 (σ.1 101 (σ.1 97 11).toNatClampNeg)).1 97 13 = k := by rw [s1_off (by omega), s1_on]
  have e11 : (s1 (s1 σ 97 13 k) 97 14 (σ.1 101 (σ.1 97 11).toNatClampNeg)).1 97 11 = σ.1 97 11 := by rw [s1_off (by omega), s1_off (by omega)]
  have e15 : (s1 (s1 σ 97 13 k) 97 14 (σ.1 101 (σ.1 97 11).toNatClampNeg)).1 97 15 = σ.1 97 15 := by rw [s1_off (by omega), s1_off (by omega)]
  refine ⟨g2, ⟨⟨by rw [e13]; omega, by rw [e13]; exact hk.2, by rw [e15]; exact hF.2.2⟩, by rw [e11]; exact Int.le_refl _, fun h => ?_, by rw [e15]; exact id⟩, by rw [e13]; omega⟩
  rw [e13] at h; omega
theorem goesOn_OK {d : Nat} {σ : Sg} (ht : typed TYP σ) (hF : FV σ) : OkV PRG (d + 1) 192 [.ref 97] σ (fun σ' => Gl mdTok σ σ' ∧ ST σ σ' ∧ ((σ'.1 97 13).toInt = 0 → (σ'.1 97 11).toInt = (σ.1 97 11).toInt + 1)) := by
  have hr := t_rg ht
  have k4 : (400 : Int32).toInt = 400 := by decide
  refine ⟨M_192, rfl, Nat.le_of_ble_eq_true rfl, w_192_0 σ ⟨fun c => ⟨_, fail_OK ht hF (by decide), fun σ1 hq => ⟨rfl, hq.1, hq.2.1, fun h => absurd h hq.2.2⟩⟩, fun c => ⟨rfl, ?_⟩⟩⟩
  rw [eq_i rfl k4] at c
  have e1 : ((σ.1 97 11) + (1 : Int32)).toInt = (σ.1 97 11).toInt + 1 := add_lit rfl (by decide) (by unfold FL; omega) (by unfold FH; omega)
  have g1 : Gl mdTok σ (s1 σ 97 11 ((σ.1 97 11) + (1 : Int32))) := wrG (κ := 12) (a := 11) (b := 11) (vl := 0) (vh := 400) rfl rfl (Gl.refl ht) rfl (Nat.le_refl _) (Nat.le_refl _) (by omega) (by omega)
  have e11 : (s1 σ 97 11 ((σ.1 97 11) + (1 : Int32))).1 97 11 = (σ.1 97 11) + (1 : Int32) := s1_on
  have e13 : (s1 σ 97 11 ((σ.1 97 11) + (1 : Int32))).1 97 13 = σ.1 97 13 := s1_off (by omega)
  have e15 : (s1 σ 97 11 ((σ.1 97 11) + (1 : Int32))).1 97 15 = σ.1 97 15 := s1_off (by omega)
  refine ⟨g1, ⟨⟨by rw [e13]; exact hF.1, by rw [e13]; exact hF.2.1, by rw [e15]; exact hF.2.2⟩, by rw [e11]; omega, by rw [e13]; exact id, by rw [e15]; exact id⟩, fun _ => by rw [e11]; exact e1⟩
theorem must_OK {d : Nat} {k : Int32} {σ : Sg} (ht : typed TYP σ) (hF : FV σ) : OkV PRG (d + 1 + 1) 193 [.ref 97, .int k] σ (fun σ' => Gl mdTok σ σ' ∧ ST σ σ' ∧ ((σ'.1 97 13).toInt = 0 → (σ'.1 97 11).toInt = (σ.1 97 11).toInt + 1)) := by
  refine ⟨M_193, rfl, Nat.le_of_ble_eq_true rfl, w_193_0 σ k ⟨_, is_OK ht, fun w2 σ1 hq => ?_⟩⟩
  rw [hq.1]
  exact ⟨fun _ => ⟨_, fail_OK ht hF (by decide), fun σ3 hq => ⟨rfl, hq.1, hq.2.1, fun h => absurd h hq.2.2⟩⟩, fun _ => ⟨_, goesOn_OK ht hF, fun σ4 hq => ⟨rfl, hq⟩⟩⟩
theorem wrong_OK {d : Nat} {k x2 : Int32} {σ : Sg} (ht : typed TYP σ) (hF : FV σ) (hk : 0 < k.toInt) (hx : 0 ≤ x2.toInt ∧ x2.toInt ≤ 402) : OkV PRG d 191 [.ref 97, .int k, .int x2] σ (fun σ' => Gl mdTok σ σ' ∧ ST σ σ' ∧ ((σ'.1 97 13).toInt = 0 → ¬ (σ'.1 97 15).toInt = 0) ∧ σ'.1 97 11 = σ.1 97 11 ∧ σ'.1 97 13 = σ.1 97 13) := by
  have wr : Gl mdTok σ (s1 (s1 σ 97 15 k) 97 16 (σ.1 101 x2.toNatClampNeg)) ∧ ST σ (s1 (s1 σ 97 15 k) 97 16 (σ.1 101 x2.toNatClampNeg)) ∧ (((s1 (s1 σ 97 15 k) 97 16 (σ.1 101 x2.toNatClampNeg)).1 97 13).toInt = 0 → ¬ ((s1 (s1 σ 97 15 k) 97 16 (σ.1 101 x2.toNatClampNeg)).1 97 15).toInt = 0) ∧ (s1 (s1 σ 97 15 k) 97 16 (σ.1 101 x2.toNatClampNeg)).1 97 11 = σ.1 97 11 ∧ (s1 (s1 σ 97 15 k) 97 16 (σ.1 101 x2.toNatClampNeg)).1 97 13 = σ.1 97 13 := by
    have g1 : Gl mdTok σ (s1 σ 97 15 k) := wrG (κ := 12) (a := 15) (b := 15) (vl := FL) (vh := FH) rfl rfl (Gl.refl ht) rfl (Nat.le_refl _) (Nat.le_refl _) (w_lo _) (w_hi _)
    have g2 := wrG (x := σ.1 101 x2.toNatClampNeg) (q := 97) (k := 16) (κ := 12) (a := 16) (b := 16) (vl := FL) (vh := FH) rfl rfl g1 rfl (Nat.le_refl _) (Nat.le_refl _) (w_lo _) (w_hi _)
    have e11 : (s1 (s1 σ 97 15 k) 97 16 (σ.1 101 x2.toNatClampNeg)).1 97 11 = σ.1 97 11 := by rw [s1_off (by omega), s1_off (by omega)]
    have e13 : (s1 (s1 σ 97 15 k) 97 16 (σ.1 101 x2.toNatClampNeg)).1 97 13 = σ.1 97 13 := by rw [s1_off (by omega), s1_off (by omega)]
    have e15 : (s1 (s1 σ 97 15 k) 97 16 (σ.1 101 x2.toNatClampNeg)).1 97 15 = k := by rw [s1_off (by omega), s1_on]
    refine ⟨g2, ⟨⟨by rw [e13]; exact hF.1, by rw [e13]; exact hF.2.1, by rw [e15]; omega⟩, by rw [e11]; exact Int.le_refl _, by rw [e13]; exact id, fun _ => by rw [e15]; omega⟩, fun _ => by rw [e15]; omega, e11, e13⟩
  have no : ¬ (σ.1 97 15) = 0 ∨ ¬ (σ.1 97 13).toInt = 0 → Gl mdTok σ σ ∧ ST σ σ ∧ ((σ.1 97 13).toInt = 0 → ¬ (σ.1 97 15).toInt = 0) ∧ σ.1 97 11 = σ.1 97 11 ∧ σ.1 97 13 = σ.1 97 13 := fun h => ⟨Gl.refl ht, ST.refl hF, fun e0 => by
    rcases h with h | h
    · exact fun e => h (zq_i.mpr e)
    · exact absurd e0 h, rfl, rfl⟩
  refine ⟨M_191, rfl, Nat.le_of_ble_eq_true rfl, w_191_0 σ k x2 ⟨inR_ok hx.1 (by omega), fun c => ⟨rfl, no (Or.inr (fun e => by rw [lt0_i] at c; omega))⟩, fun _ => ⟨fun _ => ⟨rfl, wr⟩, fun c2 => ⟨fun _ => ⟨rfl, no (Or.inl c2)⟩, fun _ => ⟨fun _ => ⟨fun _ => ⟨rfl, wr⟩, fun _ => ⟨rfl, no (Or.inl c2)⟩⟩, fun _ => ⟨rfl, wr⟩⟩⟩⟩⟩⟩
theorem bounded_OK {d : Nat} {lo hi : Int32} {σ : Sg} (ht : typed TYP σ) (hF : FV σ) : OkI PRG (d + 1 + 1) 194 [.ref 97, .int lo, .int hi] σ (fun w σ' => Gl mdTok σ σ' ∧ ST σ σ' ∧ ((σ'.1 97 13).toInt = 0 → (σ'.1 97 11).toInt = (σ.1 97 11).toInt + 1) ∧ ((σ'.1 97 13).toInt = 0 → (σ'.1 97 15).toInt = 0 → lo.toInt ≤ w.toInt ∧ w.toInt ≤ hi.toInt) ∧ (w = lo ∨ (0 ≤ w.toInt ∧ w.toInt ≤ 9999))) := by
  have hr := t_rg ht
  have hv := tyA ht (q := 102) (κ := 58) (k := (σ.1 97 11).toNatClampNeg) (a := 0) (b := 402) (lo := 0) (hi := 9999) rfl rfl (by omega) (by show (σ.1 97 11).toInt.toNat ≤ 402; omega)
  refine ⟨M_194, rfl, Nat.le_of_ble_eq_true rfl, w_194_0 σ lo hi ⟨fun _ => ⟨_, fail_OK ht hF (by decide), fun σ1 hq => ⟨_, rfl, hq.1, hq.2.1, fun h => absurd h hq.2.2, fun h => absurd h hq.2.2, Or.inl rfl⟩⟩, fun _ => ⟨_, is_OK ht, fun w3 σ2 hq => ?_⟩⟩⟩
  rw [hq.1]
  refine ⟨fun _ => ⟨_, fail_OK ht hF (by decide), fun σ9 hq => ⟨_, rfl, hq.1, hq.2.1, fun h => absurd h hq.2.2, fun h => absurd h hq.2.2, Or.inl rfl⟩⟩, fun _ => ⟨t_in ht, ?_⟩⟩
  have bad : ∃ Qc : Sg → Prop, OkV PRG (d + 1) 191 [.ref 97, .int (5 : Int32), .int (σ.1 97 11)] σ Qc ∧ ∀ σ4, Qc σ4 → (∃ Qc : Sg → Prop, OkV PRG (d + 1) 192 [.ref 97] σ4 Qc ∧ ∀ σ5, Qc σ5 → ∃ w : Int32, some (Value.int (σ.1 102 (σ.1 97 11).toNatClampNeg)) = some (.int w) ∧ Gl mdTok σ σ5 ∧ ST σ σ5 ∧ ((σ5.1 97 13).toInt = 0 → (σ5.1 97 11).toInt = (σ.1 97 11).toInt + 1) ∧ ((σ5.1 97 13).toInt = 0 → (σ5.1 97 15).toInt = 0 → lo.toInt ≤ w.toInt ∧ w.toInt ≤ hi.toInt) ∧ (w = lo ∨ (0 ≤ w.toInt ∧ w.toInt ≤ 9999))) := by
    refine ⟨_, wrong_OK ht hF (by decide) (by omega), fun σ4 hq => ?_⟩
    obtain ⟨g4, s4, n4, e4, e4b⟩ := hq
    refine ⟨_, goesOn_OK g4.1 s4.1, fun σ5 hq => ⟨_, rfl, g4.trans hq.1 rfl, s4.trans hq.2.1, fun h => by rw [hq.2.2 h, e4], fun h1 h2 => ?_, Or.inr hv⟩⟩
    exact absurd h2 (hq.2.1.2.2.2 (n4 (hq.2.1.2.2.1 h1)))
  refine ⟨fun _ => bad, fun c1 => ⟨fun c2 => ⟨_, goesOn_OK ht hF, fun σ6 hq => ⟨_, rfl, hq.1, hq.2.1, hq.2.2, fun _ _ => ?_, Or.inr hv⟩⟩, fun _ => bad⟩⟩
  rw [Int32.lt_iff_toInt_lt] at c1
  rw [Int32.le_iff_toInt_le] at c2
  omega
