/-! the reader of the class: what must hold -/
set_option maxRecDepth 100000 in
theorem w_101_0 {d : Nat} {Q : Option Value → Sg → Prop} (σ : Sg) (x1 : Int32) (h : (((σ.1 15 5) = x1 → (((400 : Int32) ≤ (σ.1 15 4) → Rn PRG d 101 46 [(0, .ref 15), (1, .int x1)] [] σ Q) ∧ (¬ (400 : Int32) ≤ (σ.1 15 4) → (inR ((σ.1 15 4) + (1 : Int32)) 402 = true ∧ Q (some (.int (1 : Int32))) (s1 (s1 σ 15 4 ((σ.1 15 4) + (1 : Int32))) 15 5 (σ.1 18 ((σ.1 15 4) + (1 : Int32)).toNatClampNeg)))))) ∧ (¬ (σ.1 15 5) = x1 → Rn PRG d 101 46 [(0, .ref 15), (1, .int x1)] [] σ Q))) : Rn PRG d 101 0 [(0, .ref 15), (1, .int x1)] [] σ Q := by
  have hM : PRG[101]? = some M_101 := rfl
  refine Rn.brN (c := (σ.1 15 5) = x1) (a := 46) (b := 8) (ls' := [(0, .ref 15), (1, .int x1)]) (st' := []) (σ' := σ) hM 4 rfl (fun c => ?_) (fun c => ?_)
  · replace h := h.2 c
    refine Rn.seg (pc' := 46) (ls' := [(0, .ref 15), (1, .int x1)]) (st' := []) (σ' := σ) hM 0 rfl ?_
    exact Rn.sub h (subL_cons rfl (subL_cons rfl subL_nil)) (show ndL _ from (by decide : List.Nodup ([0, 1] : List Nat)))
  · replace h := h.1 c
    refine Rn.br (c := (400 : Int32) ≤ (σ.1 15 4)) (a := 46) (b := 18) (ls' := [(0, .ref 15), (1, .int x1)]) (st' := []) (σ' := σ) hM 4 rfl (fun c => ?_) (fun c => ?_)
    · replace h := h.1 c
      refine Rn.seg (pc' := 46) (ls' := [(0, .ref 15), (1, .int x1)]) (st' := []) (σ' := σ) hM 0 rfl ?_
      exact Rn.sub h (subL_cons rfl (subL_cons rfl subL_nil)) (show ndL _ from (by decide : List.Nodup ([0, 1] : List Nat)))
    · replace h := h.2 c
      refine Rn.seg (pc' := 40) (ls' := [(0, .ref 15), (1, .int x1)]) (st' := [.int ((σ.1 15 4) + (1 : Int32)), .ref 18, .ref 15]) (σ' := (s1 σ 15 4 ((σ.1 15 4) + (1 : Int32)))) hM 12 rfl ?_
      refine Rn.iald hM rfl rfl h.1 ?_
      refine Rn.seg (pc' := 45) (ls' := [(0, .ref 15), (1, .int x1)]) (st' := [.int (1 : Int32)]) (σ' := (s1 (s1 σ 15 4 ((σ.1 15 4) + (1 : Int32))) 15 5 (σ.1 18 ((σ.1 15 4) + (1 : Int32)).toNatClampNeg))) hM 2 rfl ?_
      exact Rn.ret hM rfl rfl h.2
set_option maxRecDepth 100000 in
theorem w_101_46 {d : Nat} {Q : Option Value → Sg → Prop} (σ : Sg) (x1 : Int32) (h : (((σ.1 15 5) = x1 → (inR (σ.1 15 4) 402 = true ∧ Q (some (.int (0 : Int32))) (s1 (s1 σ 15 7 (2 : Int32)) 15 8 (σ.1 19 (σ.1 15 4).toNatClampNeg)))) ∧ (¬ (σ.1 15 5) = x1 → (inR (σ.1 15 4) 402 = true ∧ Q (some (.int (0 : Int32))) (s1 (s1 σ 15 7 (1 : Int32)) 15 8 (σ.1 19 (σ.1 15 4).toNatClampNeg)))))) : Rn PRG d 101 46 [(0, .ref 15), (1, .int x1)] [] σ Q := by
  have hM : PRG[101]? = some M_101 := rfl
  refine Rn.brN (c := (σ.1 15 5) = x1) (a := 59) (b := 55) (ls' := [(0, .ref 15), (1, .int x1)]) (st' := [.ref 15]) (σ' := σ) hM 5 rfl (fun c => ?_) (fun c => ?_)
  · replace h := h.2 c
    refine Rn.seg (pc' := 75) (ls' := [(0, .ref 15), (1, .int x1)]) (st' := [.int (σ.1 15 4), .ref 19, .ref 15]) (σ' := (s1 σ 15 7 (1 : Int32))) hM 8 rfl ?_
    refine Rn.iald hM rfl rfl h.1 ?_
    refine Rn.seg (pc' := 80) (ls' := [(0, .ref 15), (1, .int x1)]) (st' := [.int (0 : Int32)]) (σ' := (s1 (s1 σ 15 7 (1 : Int32)) 15 8 (σ.1 19 (σ.1 15 4).toNatClampNeg))) hM 2 rfl ?_
    exact Rn.ret hM rfl rfl h.2
  · replace h := h.1 c
    refine Rn.seg (pc' := 75) (ls' := [(0, .ref 15), (1, .int x1)]) (st' := [.int (σ.1 15 4), .ref 19, .ref 15]) (σ' := (s1 σ 15 7 (2 : Int32))) hM 9 rfl ?_
    refine Rn.iald hM rfl rfl h.1 ?_
    refine Rn.seg (pc' := 80) (ls' := [(0, .ref 15), (1, .int x1)]) (st' := [.int (0 : Int32)]) (σ' := (s1 (s1 σ 15 7 (2 : Int32)) 15 8 (σ.1 19 (σ.1 15 4).toNatClampNeg))) hM 2 rfl ?_
    exact Rn.ret hM rfl rfl h.2
set_option maxRecDepth 100000 in
theorem w_102_0 {d : Nat} {Q : Option Value → Sg → Prop} (σ : Sg) (x1 x2 : Int32) (h : (((σ.1 15 9) = 0 → ((x2 < 0 → Rn PRG d 102 41 [] [] σ Q) ∧ (¬ x2 < 0 → (((402 : Int32) ≤ x2 → Rn PRG d 102 41 [] [] σ Q) ∧ (¬ (402 : Int32) ≤ x2 → (inR x2 402 = true ∧ Rn PRG d 102 41 [] [] (s1 (s1 σ 15 9 x1) 15 10 (σ.1 19 x2.toNatClampNeg)) Q)))))) ∧ (¬ (σ.1 15 9) = 0 → Rn PRG d 102 41 [] [] σ Q))) : Rn PRG d 102 0 [(0, .ref 15), (1, .int x1), (2, .int x2)] [] σ Q := by
  have hM : PRG[102]? = some M_102 := rfl
  refine Rn.brN (c := (σ.1 15 9) = 0) (a := 41) (b := 7) (ls' := [(0, .ref 15), (1, .int x1), (2, .int x2)]) (st' := []) (σ' := σ) hM 3 rfl (fun c => ?_) (fun c => ?_)
  · replace h := h.2 c
    refine Rn.seg (pc' := 41) (ls' := [(0, .ref 15), (1, .int x1), (2, .int x2)]) (st' := []) (σ' := σ) hM 0 rfl ?_
    exact Rn.sub h subL_nil (show ndL _ from (by decide : List.Nodup ([] : List Nat)))
  · replace h := h.1 c
    refine Rn.br (c := x2 < 0) (a := 41) (b := 11) (ls' := [(0, .ref 15), (1, .int x1), (2, .int x2)]) (st' := []) (σ' := σ) hM 2 rfl (fun c => ?_) (fun c => ?_)
    · replace h := h.1 c
      refine Rn.seg (pc' := 41) (ls' := [(0, .ref 15), (1, .int x1), (2, .int x2)]) (st' := []) (σ' := σ) hM 0 rfl ?_
      exact Rn.sub h subL_nil (show ndL _ from (by decide : List.Nodup ([] : List Nat)))
    · replace h := h.2 c
      refine Rn.br (c := (402 : Int32) ≤ x2) (a := 41) (b := 23) (ls' := [(0, .ref 15), (1, .int x1), (2, .int x2)]) (st' := []) (σ' := σ) hM 6 rfl (fun c => ?_) (fun c => ?_)
      · replace h := h.1 c
        refine Rn.seg (pc' := 41) (ls' := [(0, .ref 15), (1, .int x1), (2, .int x2)]) (st' := []) (σ' := σ) hM 0 rfl ?_
        exact Rn.sub h subL_nil (show ndL _ from (by decide : List.Nodup ([] : List Nat)))
      · replace h := h.2 c
        refine Rn.seg (pc' := 37) (ls' := [(0, .ref 15), (1, .int x1), (2, .int x2)]) (st' := [.int x2, .ref 19, .ref 15]) (σ' := (s1 σ 15 9 x1)) hM 8 rfl ?_
        refine Rn.iald hM rfl rfl h.1 ?_
        refine Rn.seg (pc' := 41) (ls' := [(0, .ref 15), (1, .int x1), (2, .int x2)]) (st' := []) (σ' := (s1 (s1 σ 15 9 x1) 15 10 (σ.1 19 x2.toNatClampNeg))) hM 1 rfl ?_
        exact Rn.sub h.2 subL_nil (show ndL _ from (by decide : List.Nodup ([] : List Nat)))
set_option maxRecDepth 100000 in
theorem w_102_41 {d : Nat} {Q : Option Value → Sg → Prop} (σ : Sg) (h : Q none σ) : Rn PRG d 102 41 [] [] σ Q := by
  have hM : PRG[102]? = some M_102 := rfl
  refine Rn.seg (pc' := 41) (ls' := []) (st' := []) (σ' := σ) hM 0 rfl ?_
  exact Rn.ret hM rfl rfl h
set_option maxRecDepth 100000 in
theorem w_103_0 {d : Nat} {Q : Option Value → Sg → Prop} (σ : Sg) (x1 x2 : Int32) (h : (inR (σ.1 15 4) 402 = true ∧ (∃ Qc : Int32 → Sg → Prop, OkI PRG d 101 [.ref 15, .int (3 : Int32)] σ Qc ∧ ∀ w2 σ1, Qc w2 σ1 → ((w2 = 0 → Q (some (.int (-1 : Int32))) σ1) ∧ (¬ w2 = 0 → (((σ.2 20 (σ.1 15 4).toNatClampNeg).toInt32 < x1 → Rn PRG (d + 1) 103 34 [(0, .ref 15), (3, .int (σ.2 20 (σ.1 15 4).toNatClampNeg).toInt32)] [] σ1 Q) ∧ (¬ (σ.2 20 (σ.1 15 4).toNatClampNeg).toInt32 < x1 → (((σ.2 20 (σ.1 15 4).toNatClampNeg).toInt32 ≤ x2 → Rn PRG (d + 1) 103 45 [(3, .int (σ.2 20 (σ.1 15 4).toNatClampNeg).toInt32)] [] σ1 Q) ∧ (¬ (σ.2 20 (σ.1 15 4).toNatClampNeg).toInt32 ≤ x2 → Rn PRG (d + 1) 103 34 [(0, .ref 15), (3, .int (σ.2 20 (σ.1 15 4).toNatClampNeg).toInt32)] [] σ1 Q))))))))) : Rn PRG (d + 1) 103 0 [(0, .ref 15), (1, .int x1), (2, .int x2)] [] σ Q := by
  have hM : PRG[103]? = some M_103 := rfl
  refine Rn.seg (pc' := 11) (ls' := [(0, .ref 15), (1, .int x1), (2, .int x2)]) (st' := [.int (σ.1 15 4), .ref 20]) (σ' := σ) hM 5 rfl ?_
  refine Rn.lald hM rfl rfl h.1 ?_
  refine Rn.seg (pc' := 16) (ls' := [(3, .int (σ.2 20 (σ.1 15 4).toNatClampNeg).toInt32), (0, .ref 15), (1, .int x1), (2, .int x2)]) (st' := [.int (3 : Int32), .ref 15]) (σ' := σ) hM 4 rfl ?_
  obtain ⟨Qc, hq, h⟩ := h.2
  refine Rn.cI hM rfl rfl (by decide) hq (fun w2 σ1 hw => ?_)
  replace h := h w2 σ1 hw
  refine Rn.brN (c := w2 = 0) (a := 24) (b := 22) (ls' := [(3, .int (σ.2 20 (σ.1 15 4).toNatClampNeg).toInt32), (0, .ref 15), (1, .int x1), (2, .int x2)]) (st' := []) (σ' := σ1) hM 1 rfl (fun c => ?_) (fun c => ?_)
  · replace h := h.2 c
    refine Rn.br (c := (σ.2 20 (σ.1 15 4).toNatClampNeg).toInt32 < x1) (a := 34) (b := 29) (ls' := [(3, .int (σ.2 20 (σ.1 15 4).toNatClampNeg).toInt32), (0, .ref 15), (1, .int x1), (2, .int x2)]) (st' := []) (σ' := σ1) hM 3 rfl (fun c => ?_) (fun c => ?_)
    · replace h := h.1 c
      refine Rn.seg (pc' := 34) (ls' := [(3, .int (σ.2 20 (σ.1 15 4).toNatClampNeg).toInt32), (0, .ref 15), (1, .int x1), (2, .int x2)]) (st' := []) (σ' := σ1) hM 0 rfl ?_
      exact Rn.sub h (subL_cons rfl (subL_cons rfl subL_nil)) (show ndL _ from (by decide : List.Nodup ([0, 3] : List Nat)))
    · replace h := h.2 c
      refine Rn.br (c := (σ.2 20 (σ.1 15 4).toNatClampNeg).toInt32 ≤ x2) (a := 45) (b := 34) (ls' := [(3, .int (σ.2 20 (σ.1 15 4).toNatClampNeg).toInt32), (0, .ref 15), (1, .int x1), (2, .int x2)]) (st' := []) (σ' := σ1) hM 3 rfl (fun c => ?_) (fun c => ?_)
      · replace h := h.1 c
        refine Rn.seg (pc' := 45) (ls' := [(3, .int (σ.2 20 (σ.1 15 4).toNatClampNeg).toInt32), (0, .ref 15), (1, .int x1), (2, .int x2)]) (st' := []) (σ' := σ1) hM 0 rfl ?_
        exact Rn.sub h (subL_cons rfl subL_nil) (show ndL _ from (by decide : List.Nodup ([3] : List Nat)))
      · replace h := h.2 c
        refine Rn.seg (pc' := 34) (ls' := [(3, .int (σ.2 20 (σ.1 15 4).toNatClampNeg).toInt32), (0, .ref 15), (1, .int x1), (2, .int x2)]) (st' := []) (σ' := σ1) hM 0 rfl ?_
        exact Rn.sub h (subL_cons rfl (subL_cons rfl subL_nil)) (show ndL _ from (by decide : List.Nodup ([0, 3] : List Nat)))
  · replace h := h.1 c
    refine Rn.seg (pc' := 23) (ls' := [(3, .int (σ.2 20 (σ.1 15 4).toNatClampNeg).toInt32), (0, .ref 15), (1, .int x1), (2, .int x2)]) (st' := [.int (-1 : Int32)]) (σ' := σ1) hM 1 rfl ?_
    exact Rn.ret hM rfl rfl h
set_option maxRecDepth 100000 in
theorem w_103_34 {d : Nat} {Q : Option Value → Sg → Prop} (σ : Sg) (x3 : Int32) (h : (∃ Qc : Sg → Prop, OkV PRG d 102 [.ref 15, .int (5 : Int32), .int ((σ.1 15 4) - (1 : Int32))] σ Qc ∧ ∀ σ1, Qc σ1 → Rn PRG (d + 1) 103 45 [(3, .int x3)] [] σ1 Q)) : Rn PRG (d + 1) 103 34 [(0, .ref 15), (3, .int x3)] [] σ Q := by
  have hM : PRG[103]? = some M_103 := rfl
  refine Rn.seg (pc' := 42) (ls' := [(0, .ref 15), (3, .int x3)]) (st' := [.int ((σ.1 15 4) - (1 : Int32)), .int (5 : Int32), .ref 15]) (σ' := σ) hM 6 rfl ?_
  obtain ⟨Qc, hq, h⟩ := h
  refine Rn.cV hM rfl rfl (by decide) hq (fun σ1 hw => ?_)
  replace h := h σ1 hw
  refine Rn.seg (pc' := 45) (ls' := [(0, .ref 15), (3, .int x3)]) (st' := []) (σ' := σ1) hM 0 rfl ?_
  exact Rn.sub h (subL_cons rfl subL_nil) (show ndL _ from (by decide : List.Nodup ([3] : List Nat)))
set_option maxRecDepth 100000 in
theorem w_103_45 {d : Nat} {Q : Option Value → Sg → Prop} (σ : Sg) (x3 : Int32) (h : Q (some (.int x3)) σ) : Rn PRG (d + 1) 103 45 [(3, .int x3)] [] σ Q := by
  have hM : PRG[103]? = some M_103 := rfl
  refine Rn.seg (pc' := 46) (ls' := [(3, .int x3)]) (st' := [.int x3]) (σ' := σ) hM 1 rfl ?_
  exact Rn.ret hM rfl rfl h
set_option maxRecDepth 100000 in
theorem w_106_0 {d : Nat} {Q : Option Value → Sg → Prop} (σ : Sg) (h : (inR (σ.1 15 4) 402 = true ∧ Q (some (.int (0 : Int32))) (s1 (s1 σ 15 7 (2 : Int32)) 15 8 (σ.1 19 (σ.1 15 4).toNatClampNeg)))) : Rn PRG d 106 0 [(0, .ref 15)] [] σ Q := by
  have hM : PRG[106]? = some M_106 := rfl
  refine Rn.seg (pc' := 17) (ls' := [(0, .ref 15)]) (st' := [.int (σ.1 15 4), .ref 19, .ref 15]) (σ' := (s1 σ 15 7 (2 : Int32))) hM 9 rfl ?_
  refine Rn.iald hM rfl rfl h.1 ?_
  refine Rn.seg (pc' := 22) (ls' := [(0, .ref 15)]) (st' := [.int (0 : Int32)]) (σ' := (s1 (s1 σ 15 7 (2 : Int32)) 15 8 (σ.1 19 (σ.1 15 4).toNatClampNeg))) hM 2 rfl ?_
  exact Rn.ret hM rfl rfl h.2
/-! the reader of the class: tokens -/
def IR (m0 : Nat) (Gp : Nat → Prop) (σ : Sg) : Prop := σ.1 15 5 = σ.1 18 (wn (σ.1 15 4)) ∧ 0 ≤ (σ.1 15 4).toInt ∧ (σ.1 15 4).toInt ≤ 400 ∧ (m0 : Int) ≤ (σ.1 15 4).toInt ∧ (∀ i : Nat, (i : Int) < (σ.1 15 4).toInt → ¬ σ.1 18 i = 0) ∧ ((∀ i : Nat, (i : Int) < (σ.1 15 4).toInt → (σ.1 18 i = 15 ∨ σ.1 18 i = 16) → Gp i) ∨ ¬ σ.1 15 7 = 0 ∨ ¬ σ.1 15 9 = 0)
def DEPX : List (Nat × Nat × Nat) := [(8, 4, 5), (8, 7, 7), (8, 9, 9), (36, 0, 401)]
theorem IR.frame {m0 : Nat} {Gp : Nat → Prop} {σ σ' : Sg} (h : IR m0 Gp σ) (H : ∀ q κ k, kdn q = some κ → inM DEPX κ k = true → σ'.1 q k = σ.1 q k) : IR m0 Gp σ' := by
  obtain ⟨h1, h2, h3, h4, h5, h6⟩ := h
  have e4 : σ'.1 15 4 = σ.1 15 4 := H 15 8 4 rfl rfl
  have e5 : σ'.1 15 5 = σ.1 15 5 := H 15 8 5 rfl rfl
  have e7 : σ'.1 15 7 = σ.1 15 7 := H 15 8 7 rfl rfl
  have e9 : σ'.1 15 9 = σ.1 15 9 := H 15 8 9 rfl rfl
  have e18 : ∀ k, k ≤ 401 → σ'.1 18 k = σ.1 18 k := fun k hk => H 18 36 k rfl (inM_of (a := 0) (b := 401) (by decide) (by omega) hk)
  refine ⟨?_, by rw [e4]; exact h2, by rw [e4]; exact h3, by rw [e4]; exact h4, fun i hi => ?_, ?_⟩
  · rw [e5, e4, e18 _ (by unfold wn; omega)]; exact h1
  · rw [e4] at hi
    rw [e18 i (by omega)]; exact h5 i hi
  · rw [e7, e9, e4]
    refine h6.imp (fun h i hi hk => ?_) id
    rw [e18 i (by omega)] at hk
    exact h i hi hk
theorem stabX {m0 : Nat} {Gp : Nat → Prop} : stab (IR m0 Gp) DEPX := by
  refine ⟨fun σ q κ k x hq hk hI => hI.frame (fun q' κ' k' hq' hk' => s1_off (fun ⟨h1, h2⟩ => ?_)), fun σ q k x hI => hI⟩
  subst h1; subst h2
  rw [hq'] at hq
  cases hq
  rw [hk'] at hk
  cases hk
theorem IR.keep {m0 : Nat} {Gp : Nat → Prop} {ms : List (Nat × Nat × Nat)} {σ σ' : Sg} (h : IR m0 Gp σ) (hG : Gl ms σ σ') (ho : offD ms DEPX = true) : IR m0 Gp σ' := h.frame (fun q κ k hq hk => hG.2.2 q κ k hq (off_in ho hk))
theorem IR.re {m0 m1 : Nat} {Gp : Nat → Prop} {σ : Sg} (h : IR m0 Gp σ) (h1 : (m1 : Int) ≤ (σ.1 15 4).toInt) : IR m1 Gp σ := ⟨h.1, h.2.1, h.2.2.1, h1, h.2.2.2.2⟩
/-- the token at hand -/
def BS (σ : Sg) : Prop := σ.1 15 5 = σ.1 18 (wn (σ.1 15 4)) ∧ 0 ≤ (σ.1 15 4).toInt ∧ (σ.1 15 4).toInt ≤ 400
theorem IR.bs {m0 : Nat} {Gp : Nat → Prop} {σ : Sg} (h : IR m0 Gp σ) : BS σ := ⟨h.1, h.2.1, h.2.2.1⟩
def mdTk : List (Nat × Nat × Nat) := [(8, 4, 5), (8, 7, 8)]
/-- a token is taken, or there is a fault -/
def TK (x1 : Int32) (σ : Sg) (w : Int32) (σ' : Sg) : Prop := Gl mdTk σ σ' ∧ σ'.2 = σ.2 ∧ σ'.1 15 9 = σ.1 15 9 ∧ BS σ' ∧ ((w = 1 ∧ σ.1 15 5 = x1 ∧ (σ'.1 15 4).toInt = (σ.1 15 4).toInt + 1 ∧ σ'.1 15 7 = σ.1 15 7) ∨ (w = 0 ∧ ¬ σ'.1 15 7 = 0 ∧ σ'.1 15 4 = σ.1 15 4))
theorem take_OK {d : Nat} {x1 : Int32} {σ : Sg} (ht : typed TYP σ) (hB : BS σ) : OkI PRG d 101 [.ref 15, .int x1] σ (TK x1 σ) := by
  obtain ⟨b1, b2, b3⟩ := hB
  have k4 : (400 : Int32).toInt = 400 := by decide
  have hin : inR (σ.1 15 4) 402 = true := inR_ok b2 (by omega)
  have bad : ∀ f : Int32, ¬ f = 0 → ∃ w : Int32, some (Value.int (0 : Int32)) = some (.int w) ∧ TK x1 σ w (s1 (s1 σ 15 7 f) 15 8 (σ.1 19 (σ.1 15 4).toNatClampNeg)) := by
    intro f hf
    have g1 : Gl mdTk σ (s1 σ 15 7 f) := wrG (κ := 8) (a := 7) (b := 7) (vl := FL) (vh := FH) rfl rfl (Gl.refl ht) rfl (Nat.le_refl _) (Nat.le_refl _) (w_lo _) (w_hi _)
    have g2 := wrG (x := σ.1 19 (σ.1 15 4).toNatClampNeg) (q := 15) (k := 8) (κ := 8) (a := 8) (b := 8) (vl := FL) (vh := FH) rfl rfl g1 rfl (Nat.le_refl _) (Nat.le_refl _) (w_lo _) (w_hi _)
    have f4 : (s1 (s1 σ 15 7 f) 15 8 (σ.1 19 (σ.1 15 4).toNatClampNeg)).1 15 4 = σ.1 15 4 := by rw [s1_off (by omega), s1_off (by omega)]
    have f5 : (s1 (s1 σ 15 7 f) 15 8 (σ.1 19 (σ.1 15 4).toNatClampNeg)).1 15 5 = σ.1 15 5 := by rw [s1_off (by omega), s1_off (by omega)]
    have f7 : (s1 (s1 σ 15 7 f) 15 8 (σ.1 19 (σ.1 15 4).toNatClampNeg)).1 15 7 = f := by rw [s1_off (by omega), s1_on]
    have f9 : (s1 (s1 σ 15 7 f) 15 8 (σ.1 19 (σ.1 15 4).toNatClampNeg)).1 15 9 = σ.1 15 9 := by rw [s1_off (by omega), s1_off (by omega)]
    have f18 : ∀ k, (s1 (s1 σ 15 7 f) 15 8 (σ.1 19 (σ.1 15 4).toNatClampNeg)).1 18 k = σ.1 18 k := fun k => by rw [s1_off (by omega), s1_off (by omega)]
    exact ⟨0, rfl, g2, rfl, f9, ⟨by rw [f5, f4, f18]; exact b1, by rw [f4]; exact b2, by rw [f4]; exact b3⟩, Or.inr ⟨rfl, by rw [f7]; exact hf, f4⟩⟩
  have end46 : Rn PRG d 101 46 [(0, .ref 15), (1, .int x1)] [] σ (fun v σ' => ∃ w : Int32, v = some (.int w) ∧ TK x1 σ w σ') := w_101_46 σ x1 ⟨fun _ => ⟨hin, bad 2 (by decide)⟩, fun _ => ⟨hin, bad 1 (by decide)⟩⟩
  refine ⟨M_101, rfl, Nat.le_of_ble_eq_true rfl, w_101_0 σ x1 ⟨fun c => ⟨fun _ => end46, fun c4 => ?_⟩, fun _ => end46⟩⟩
  rw [le_i k4 rfl] at c4
  have e1 : ((σ.1 15 4) + (1 : Int32)).toInt = (σ.1 15 4).toInt + 1 := add_lit rfl (by decide) (by unfold FL; omega) (by unfold FH; omega)
  have hin1 : inR ((σ.1 15 4) + (1 : Int32)) 402 = true := inR_ok (by omega) (by omega)
  have g1 : Gl mdTk σ (s1 σ 15 4 ((σ.1 15 4) + (1 : Int32))) := wrG (κ := 8) (a := 4) (b := 4) (vl := 0) (vh := 400) rfl rfl (Gl.refl ht) rfl (Nat.le_refl _) (Nat.le_refl _) (by omega) (by omega)
  have g2 := wrG (x := σ.1 18 ((σ.1 15 4) + (1 : Int32)).toNatClampNeg) (q := 15) (k := 5) (κ := 8) (a := 5) (b := 5) (vl := FL) (vh := FH) rfl rfl g1 rfl (Nat.le_refl _) (Nat.le_refl _) (w_lo _) (w_hi _)
  have f4 : (s1 (s1 σ 15 4 ((σ.1 15 4) + (1 : Int32))) 15 5 (σ.1 18 ((σ.1 15 4) + (1 : Int32)).toNatClampNeg)).1 15 4 = (σ.1 15 4) + (1 : Int32) := by rw [s1_off (by omega), s1_on]
  have f5 : (s1 (s1 σ 15 4 ((σ.1 15 4) + (1 : Int32))) 15 5 (σ.1 18 ((σ.1 15 4) + (1 : Int32)).toNatClampNeg)).1 15 5 = σ.1 18 ((σ.1 15 4) + (1 : Int32)).toNatClampNeg := s1_on
  have f7 : (s1 (s1 σ 15 4 ((σ.1 15 4) + (1 : Int32))) 15 5 (σ.1 18 ((σ.1 15 4) + (1 : Int32)).toNatClampNeg)).1 15 7 = σ.1 15 7 := by rw [s1_off (by omega), s1_off (by omega)]
  have f9 : (s1 (s1 σ 15 4 ((σ.1 15 4) + (1 : Int32))) 15 5 (σ.1 18 ((σ.1 15 4) + (1 : Int32)).toNatClampNeg)).1 15 9 = σ.1 15 9 := by rw [s1_off (by omega), s1_off (by omega)]
  have f18 : ∀ k, (s1 (s1 σ 15 4 ((σ.1 15 4) + (1 : Int32))) 15 5 (σ.1 18 ((σ.1 15 4) + (1 : Int32)).toNatClampNeg)).1 18 k = σ.1 18 k := fun k => by rw [s1_off (by omega), s1_off (by omega)]
  exact ⟨hin1, 1, rfl, g2, rfl, f9, ⟨by rw [f5, f4, f18]; rfl, by rw [f4]; omega, by rw [f4]; omega⟩, Or.inl ⟨rfl, c, by rw [f4]; exact e1, f7⟩⟩
/-- a token that tells no pack and no trump -/
theorem TK.ir {m0 : Nat} {Gp : Nat → Prop} {x1 w : Int32} {σ σ' : Sg} (h : IR m0 Gp σ) (hk : TK x1 σ w σ') (h0 : ¬ x1 = 0) (h15 : ¬ x1 = 15) (h16 : ¬ x1 = 16) : IR m0 Gp σ' := by
  obtain ⟨a1, a2, a3, a4, a5, a6⟩ := h
  obtain ⟨g, -, e9, ⟨b1, b2, b3⟩, hk⟩ := hk
  have e18 : ∀ k, σ'.1 18 k = σ.1 18 k := fun k => g.get (q := 18) (κ := 36) rfl rfl
  rcases hk with ⟨-, t1, t2, t3⟩ | ⟨-, t1, t2⟩
  · have last : ∀ i : Nat, (i : Int) < (σ'.1 15 4).toInt → ¬ (i : Int) < (σ.1 15 4).toInt → σ.1 18 i = x1 := by
      intro i h1 h2
      have : i = wn (σ.1 15 4) := by unfold wn; omega
      rw [this, ← a1]; exact t1
    refine ⟨b1, b2, b3, by omega, fun i hi => ?_, ?_⟩
    · rw [e18]
      by_cases hlt : (i : Int) < (σ.1 15 4).toInt
      · exact a5 i hlt
      · rw [last i hi hlt]; exact h0
    · rw [t3, e9]
      refine a6.imp (fun hg i hi hty => ?_) id
      rw [e18] at hty
      by_cases hlt : (i : Int) < (σ.1 15 4).toInt
      · exact hg i hlt hty
      · rw [last i hi hlt] at hty
        rcases hty with hty | hty
        · exact absurd hty h15
        · exact absurd hty h16
  · refine ⟨b1, b2, b3, by rw [t2]; exact a4, fun i hi => ?_, Or.inr (Or.inl t1)⟩
    rw [t2] at hi
    rw [e18]; exact a5 i hi
theorem refuse_OK {d : Nat} {x1 x2 : Int32} {σ : Sg} (ht : typed TYP σ) (h1 : ¬ x1 = 0) (h2 : 0 ≤ x2.toInt ∧ x2.toInt ≤ 401) : OkV PRG d 102 [.ref 15, .int x1, .int x2] σ (fun σ' => Gl [(8, 9, 10)] σ σ' ∧ σ'.2 = σ.2 ∧ ¬ σ'.1 15 9 = 0) := by
  have k402 : (402 : Int32).toInt = 402 := by decide
  refine ⟨M_102, rfl, Nat.le_of_ble_eq_true rfl, w_102_0 σ x1 x2 ⟨fun _ => ⟨fun c => ?_, fun _ => ⟨fun c => ?_, fun _ => ⟨inR_ok h2.1 (by omega), w_102_41 _ ⟨rfl, ?_, rfl, by rw [s1_off (by omega), s1_on]; exact h1⟩⟩⟩⟩, fun c => w_102_41 σ ⟨rfl, Gl.refl ht, rfl, c⟩⟩⟩
  · rw [z_lt] at c; omega
  · rw [le_i k402 rfl] at c; omega
  · have g1 : Gl [(8, 9, 10)] σ (s1 σ 15 9 x1) := wrG (κ := 8) (a := 9) (b := 9) (vl := FL) (vh := FH) rfl rfl (Gl.refl ht) rfl (Nat.le_refl _) (Nat.le_refl _) (w_lo _) (w_hi _)
    exact wrG (x := σ.1 19 x2.toNatClampNeg) (q := 15) (k := 10) (κ := 8) (a := 10) (b := 10) (vl := FL) (vh := FH) rfl rfl g1 rfl (Nat.le_refl _) (Nat.le_refl _) (w_lo _) (w_hi _)
def mdNum : List (Nat × Nat × Nat) := [(8, 4, 5), (8, 7, 10)]
/-- a number is taken, in its bounds or told as wrong, or there is a fault -/
def NM (lo hi : Int32) (σ : Sg) (w : Int32) (σ' : Sg) : Prop := Gl mdNum σ σ' ∧ σ'.2 = σ.2 ∧ (¬ σ.1 15 9 = 0 → ¬ σ'.1 15 9 = 0) ∧ BS σ' ∧ ((w = -1 ∧ ¬ σ'.1 15 7 = 0 ∧ σ'.1 15 4 = σ.1 15 4) ∨ (σ.1 15 5 = 3 ∧ (σ'.1 15 4).toInt = (σ.1 15 4).toInt + 1 ∧ σ'.1 15 7 = σ.1 15 7 ∧ w = (σ.2 20 (wn (σ.1 15 4))).toInt32 ∧ ((lo.toInt ≤ w.toInt ∧ w.toInt ≤ hi.toInt) ∨ ¬ σ'.1 15 9 = 0)))
theorem number_OK {d : Nat} {lo hi : Int32} {σ : Sg} (ht : typed TYP σ) (hB : BS σ) : OkI PRG (d + 1) 103 [.ref 15, .int lo, .int hi] σ (NM lo hi σ) := by
  have hin : inR (σ.1 15 4) 402 = true := inR_ok hB.2.1 (by have := hB.2.2; omega)
  have one : (1 : Int32).toInt = 1 := by decide
  refine ⟨M_103, rfl, Nat.le_of_ble_eq_true rfl, w_103_0 σ lo hi ⟨hin, _, take_OK ht hB, fun w2 σ1 hq => ?_⟩⟩
  obtain ⟨g1, l1, e9, b1, hq⟩ := hq
  have hB2 := b1.2
  refine ⟨fun hz => ⟨_, rfl, g1.mono rfl, l1, by rw [e9]; exact id, b1, Or.inl ?_⟩, fun hne => ?_⟩
  · rcases hq with ⟨h, -⟩ | ⟨-, h2, h3⟩
    · rw [h] at hz; exact absurd hz (by decide)
    · exact ⟨rfl, h2, h3⟩
  have hq : σ.1 15 5 = 3 ∧ (σ1.1 15 4).toInt = (σ.1 15 4).toInt + 1 ∧ σ1.1 15 7 = σ.1 15 7 := by
    rcases hq with ⟨-, h⟩ | ⟨h, -⟩
    · exact h
    · exact absurd h hne
  obtain ⟨q1, q2, q3⟩ := hq
  have hval : (σ.2 20 (σ.1 15 4).toNatClampNeg).toInt32 = (σ.2 20 (wn (σ.1 15 4))).toInt32 := rfl
  have bad : Rn PRG (d + 1) 103 34 [(0, .ref 15), (3, .int (σ.2 20 (σ.1 15 4).toNatClampNeg).toInt32)] [] σ1 (fun v σ' => ∃ w : Int32, v = some (.int w) ∧ NM lo hi σ w σ') := by
    have es : ((σ1.1 15 4) - (1 : Int32)).toInt = (σ.1 15 4).toInt := by
      rw [sub_ex (by rw [one]; unfold FL; omega) (by rw [one]; unfold FH; omega), one]; omega
    have hat := hB.2
    refine w_103_34 σ1 _ ⟨_, refuse_OK g1.1 (by decide) (by rw [es]; omega), fun σ3 hq => w_103_45 σ3 _ ⟨_, rfl, ?_⟩⟩
    obtain ⟨g3, l3, n3⟩ := hq
    have f4 : σ3.1 15 4 = σ1.1 15 4 := g3.get (q := 15) (κ := 8) rfl rfl
    have f5 : σ3.1 15 5 = σ1.1 15 5 := g3.get (q := 15) (κ := 8) rfl rfl
    have f7 : σ3.1 15 7 = σ1.1 15 7 := g3.get (q := 15) (κ := 8) rfl rfl
    refine ⟨(g1.mono rfl : Gl mdNum σ σ1).trans g3 rfl, l3.trans l1, fun _ => n3, ⟨by rw [f5, f4, g3.get (q := 18) (κ := 36) rfl rfl]; exact b1.1, by rw [f4]; exact hB2.1, by rw [f4]; exact hB2.2⟩, Or.inr ⟨q1, by rw [f4]; exact q2, by rw [f7]; exact q3, hval, Or.inr n3⟩⟩
  refine ⟨fun _ => bad, fun c1 => ⟨fun c2 => w_103_45 σ1 _ ⟨_, rfl, g1.mono rfl, l1, by rw [e9]; exact id, b1, Or.inr ⟨q1, q2, q3, hval, Or.inl ?_⟩⟩, fun _ => bad⟩⟩
  rw [Int32.lt_iff_toInt_lt] at c1
  rw [Int32.le_iff_toInt_le] at c2
  omega
theorem NM.ir {m0 : Nat} {Gp : Nat → Prop} {lo hi w : Int32} {σ σ' : Sg} (h : IR m0 Gp σ) (hk : NM lo hi σ w σ') : IR m0 Gp σ' := by
  obtain ⟨a1, a2, a3, a4, a5, a6⟩ := h
  obtain ⟨g, -, n9, ⟨b1, b2, b3⟩, hk⟩ := hk
  have e18 : ∀ k, σ'.1 18 k = σ.1 18 k := fun k => g.get (q := 18) (κ := 36) rfl rfl
  rcases hk with ⟨-, t1, t2⟩ | ⟨t0, t2, t3, -, -⟩
  · refine ⟨b1, b2, b3, by rw [t2]; exact a4, fun i hi => ?_, Or.inr (Or.inl t1)⟩
    rw [t2] at hi
    rw [e18]; exact a5 i hi
  · have last : ∀ i : Nat, (i : Int) < (σ'.1 15 4).toInt → ¬ (i : Int) < (σ.1 15 4).toInt → σ.1 18 i = 3 := by
      intro i h1 h2
      have : i = wn (σ.1 15 4) := by unfold wn; omega
      rw [this, ← a1]; exact t0
    refine ⟨b1, b2, b3, by omega, fun i hi => ?_, ?_⟩
    · rw [e18]
      by_cases hlt : (i : Int) < (σ.1 15 4).toInt
      · exact a5 i hlt
      · rw [last i hi hlt]; decide
    · rw [t3]
      rcases a6 with hg | hb | hb
      · refine Or.inl (fun i hi hty => ?_)
        rw [e18] at hty
        by_cases hlt : (i : Int) < (σ.1 15 4).toInt
        · exact hg i hlt hty
        · rw [last i hi hlt] at hty
          rcases hty with hty | hty <;> exact absurd hty (by decide)
      · exact Or.inr (Or.inl hb)
      · exact Or.inr (Or.inr (n9 hb))
theorem full_OK {d : Nat} {σ : Sg} (ht : typed TYP σ) (hB : BS σ) : OkI PRG d 106 [.ref 15] σ (fun w σ' => w = 0 ∧ Gl mdTk σ σ' ∧ σ'.2 = σ.2 ∧ ¬ σ'.1 15 7 = 0 ∧ σ'.1 15 4 = σ.1 15 4 ∧ σ'.1 15 5 = σ.1 15 5) := by
  have hin : inR (σ.1 15 4) 402 = true := inR_ok hB.2.1 (by have := hB.2.2; omega)
  have g1 : Gl mdTk σ (s1 σ 15 7 (2 : Int32)) := wrG (κ := 8) (a := 7) (b := 7) (vl := FL) (vh := FH) rfl rfl (Gl.refl ht) rfl (Nat.le_refl _) (Nat.le_refl _) (w_lo _) (w_hi _)
  have g2 := wrG (x := σ.1 19 (σ.1 15 4).toNatClampNeg) (q := 15) (k := 8) (κ := 8) (a := 8) (b := 8) (vl := FL) (vh := FH) rfl rfl g1 rfl (Nat.le_refl _) (Nat.le_refl _) (w_lo _) (w_hi _)
  exact ⟨M_106, rfl, Nat.le_of_ble_eq_true rfl, w_106_0 σ ⟨hin, _, rfl, rfl, g2, rfl, by rw [s1_off (by omega), s1_on]; decide, by rw [s1_off (by omega), s1_off (by omega)], by rw [s1_off (by omega), s1_off (by omega)]⟩⟩
theorem IR.bad {m0 : Nat} {Gp : Nat → Prop} {σ σ' : Sg} (h : IR m0 Gp σ) (g : Gl mdTk σ σ') (h7 : ¬ σ'.1 15 7 = 0) (h4 : σ'.1 15 4 = σ.1 15 4) (h5 : σ'.1 15 5 = σ.1 15 5) : IR m0 Gp σ' := by
  obtain ⟨a1, a2, a3, a4, a5, a6⟩ := h
  have e18 : ∀ k, σ'.1 18 k = σ.1 18 k := fun k => g.get (q := 18) (κ := 36) rfl rfl
  refine ⟨by rw [h5, h4, e18]; exact a1, by rw [h4]; exact a2, by rw [h4]; exact a3, by rw [h4]; exact a4, fun i hi => ?_, Or.inr (Or.inl h7)⟩
  rw [h4] at hi
  rw [e18]; exact a5 i hi
/-- promises of methods walked by hand, while the reader's invariant stands -/
theorem avR {av : List Value} {t : Nat × Int × Int} {ts : List (Nat × Int × Int)} (h : avsOK (t :: ts) av) : ∃ v r, av = v :: r ∧ avOK t v ∧ avsOK ts r := by
  cases av with
  | nil => exact absurd h.1 (by simp)
  | cons v r =>
    refine ⟨v, r, rfl, h.2 0 t v rfl rfl, by have := h.1; simpa using this, fun j t' v' h1 h2 => h.2 (j + 1) t' v' h1 h2⟩
theorem avR0 {av : List Value} (h : avsOK [] av) : av = [] := by
  cases av with
  | nil => rfl
  | cons v r => exact absurd h.1 (by simp)
theorem k8 {q : Nat} (h : kdn q = some 8) : q = 15 := kdn_one (by decide +kernel) h
def sp_101a : SP := ([(1, 8, 0), (0, 2, 14)], [], some (0, 0, 1), [], [], [(8, 4, 5), (8, 7, 8)], 0, 0, [])
def sp_101b : SP := ([(1, 8, 0), (0, 17, 36)], [], some (0, 0, 1), [], [], [(8, 4, 5), (8, 7, 8)], 0, 0, [])
def sp_103 : SP := ([(1, 8, 0), (0, -2147483648, 2147483647), (0, -2147483648, 2147483647)], [], some (0, -2147483648, 2147483647), [], [], [(8, 4, 5), (8, 7, 10)], 1, 0, [])
def sp_106 : SP := ([(1, 8, 0)], [], some (0, 0, 0), [], [], [(8, 7, 8)], 0, 0, [])
theorem TK.sp {m0 : Nat} {Gp : Nat → Prop} {lo hi : Int} (h2 : 2 ≤ lo) (hx : hi ≤ 14 ∨ 17 ≤ lo) : SpecOK PRG TYP (IR m0 Gp) 101 ([(1, 8, 0), (0, lo, hi)], [], some (0, 0, 1), [], [], [(8, 4, 5), (8, 7, 8)], 0, 0, []) := by
  refine ⟨by decide, fun av σ ht hI hav _ _ => ?_⟩
  obtain ⟨v, r, rfl, hv, hav⟩ := avR hav
  obtain ⟨v2, r2, rfl, hv2, hav⟩ := avR hav
  rw [avR0 hav]
  obtain ⟨q, rfl, hq⟩ := hv
  rw [k8 hq]
  obtain ⟨x, rfl, x1, x2⟩ := hv2
  simp only at x1 x2
  refine Ok.mono (take_OK (d := 0) ht hI.bs) (fun v σ' hz => ?_)
  obtain ⟨w, rfl, hk⟩ := hz
  have hne : ∀ y : Int32, (y = 0 ∨ y = 15 ∨ y = 16) → ¬ x = y := by
    intro y hy e
    rw [e] at x1 x2
    rcases hy with rfl | rfl | rfl
    · have : (0 : Int32).toInt = 0 := by decide
      omega
    · have : (15 : Int32).toInt = 15 := by decide
      omega
    · have : (16 : Int32).toInt = 16 := by decide
      omega
  have hir := hk.ir hI (hne 0 (Or.inl rfl)) (hne 15 (Or.inr (Or.inl rfl))) (hne 16 (Or.inr (Or.inr rfl)))
  have hw : 0 ≤ w.toInt ∧ w.toInt ≤ 1 := by
    rcases hk.2.2.2.2 with ⟨rfl, -⟩ | ⟨rfl, -⟩ <;> decide
  exact ⟨⟨hk.1.1, hir, hk.1.2.2⟩, ⟨w, rfl, hw.1, hw.2⟩, fun w' _ _ => ⟨fun t h => (by cases h), fun h => absurd (show (0 : Nat) = 1 from h) (by decide)⟩, fun p h => (by cases h), fun h => absurd (show 2 ≤ 0 from h) (by decide)⟩
theorem c_101a {m0 : Nat} {Gp : Nat → Prop} : SpecOK PRG TYP (IR m0 Gp) 101 sp_101a := TK.sp (by omega) (by omega)
theorem c_101b {m0 : Nat} {Gp : Nat → Prop} : SpecOK PRG TYP (IR m0 Gp) 101 sp_101b := TK.sp (by omega) (by omega)
theorem c_103 {m0 : Nat} {Gp : Nat → Prop} : SpecOK PRG TYP (IR m0 Gp) 103 sp_103 := by
  refine ⟨by decide, fun av σ ht hI hav _ _ => ?_⟩
  obtain ⟨v, r, rfl, hv, hav⟩ := avR hav
  obtain ⟨v2, r2, rfl, hv2, hav⟩ := avR hav
  obtain ⟨v3, r3, rfl, hv3, hav⟩ := avR hav
  rw [avR0 hav]
  obtain ⟨q, rfl, hq⟩ := hv
  rw [k8 hq]
  obtain ⟨x, rfl, -, -⟩ := hv2
  obtain ⟨y, rfl, -, -⟩ := hv3
  refine Ok.mono (number_OK (d := 0) ht hI.bs) (fun v σ' hz => ?_)
  obtain ⟨w, rfl, hk⟩ := hz
  have hir := hk.ir hI
  exact ⟨⟨hk.1.1, hir, hk.1.2.2⟩, ⟨w, rfl, w_lo w, w_hi w⟩, fun w' _ _ => ⟨fun t h => (by cases h), fun h => absurd h (by decide)⟩, fun p h => (by cases h), fun h => absurd h (by decide)⟩
theorem c_106 {m0 : Nat} {Gp : Nat → Prop} : SpecOK PRG TYP (IR m0 Gp) 106 sp_106 := by
  refine ⟨by decide, fun av σ ht hI hav _ _ => ?_⟩
  obtain ⟨v, r, rfl, hv, hav⟩ := avR hav
  rw [avR0 hav]
  obtain ⟨q, rfl, hq⟩ := hv
  rw [k8 hq]
  have hin : inR (σ.1 15 4) 402 = true := inR_ok hI.2.1 (by have := hI.2.2.1; omega)
  have g1 : Gl [(8, 7, 8)] σ (s1 σ 15 7 (2 : Int32)) := wrG (κ := 8) (a := 7) (b := 7) (vl := FL) (vh := FH) rfl rfl (Gl.refl ht) rfl (Nat.le_refl _) (Nat.le_refl _) (w_lo _) (w_hi _)
  have g2 := wrG (x := σ.1 19 (σ.1 15 4).toNatClampNeg) (q := 15) (k := 8) (κ := 8) (a := 8) (b := 8) (vl := FL) (vh := FH) rfl rfl g1 rfl (Nat.le_refl _) (Nat.le_refl _) (w_lo _) (w_hi _)
  have f4 : (s1 (s1 σ 15 7 (2 : Int32)) 15 8 (σ.1 19 (σ.1 15 4).toNatClampNeg)).1 15 4 = σ.1 15 4 := by rw [s1_off (by omega), s1_off (by omega)]
  have f5 : (s1 (s1 σ 15 7 (2 : Int32)) 15 8 (σ.1 19 (σ.1 15 4).toNatClampNeg)).1 15 5 = σ.1 15 5 := by rw [s1_off (by omega), s1_off (by omega)]
  have f7 : ¬ (s1 (s1 σ 15 7 (2 : Int32)) 15 8 (σ.1 19 (σ.1 15 4).toNatClampNeg)).1 15 7 = 0 := by rw [s1_off (by omega), s1_on]; decide
  refine ⟨M_106, rfl, Nat.le_of_ble_eq_true rfl, w_106_0 σ ⟨hin, ⟨g2.1, hI.bad (g2.mono rfl) f7 f4 f5, g2.2.2⟩, ⟨0, rfl, by decide, by decide⟩, fun w' _ _ => ⟨fun t h => (by cases h), fun h => absurd h (by decide)⟩, fun p h => (by cases h), fun h => absurd h (by decide)⟩⟩
