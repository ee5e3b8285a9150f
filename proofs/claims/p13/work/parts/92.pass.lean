/-! passes over a text: what must hold -/
set_option maxRecDepth 100000 in
theorem w_104_0 {d : Nat} {Q : Option Value → Sg → Prop} (σ : Sg) (h : (∃ Qc : Int32 → Sg → Prop, OkI PRG d 101 [.ref 15, .int (15 : Int32)] σ Qc ∧ ∀ w2 σ1, Qc w2 σ1 → ((w2 = 0 → Q none σ1) ∧ (¬ w2 = 0 → (∃ Qc : Int32 → Sg → Prop, OkI PRG d 103 [.ref 15, .int (1 : Int32), .int (4 : Int32)] σ1 Qc ∧ ∀ w4 σ3, Qc w4 σ3 → ((w4 < 0 → Q none σ3) ∧ (¬ w4 < 0 → (∃ Qc : Int32 → Sg → Prop, OkI PRG d 103 [.ref 15, .int (1 : Int32), .int (16 : Int32)] σ3 Qc ∧ ∀ w6 σ5, Qc w6 σ5 → ((0 ≤ w6 → (((16 : Int32) < (w4 * w6) → Rn PRG (d + 1) 104 57 [(0, .ref 15), (1, .int w4), (2, .int w6)] [] σ5 Q) ∧ (¬ (16 : Int32) < (w4 * w6) → ((((w4 * w6) - (w4 * w6) / (4 : Int32) * (4 : Int32)) = 0 → Rn PRG (d + 1) 104 68 [(0, .ref 15), (1, .int w4), (2, .int w6)] [] σ5 Q) ∧ (¬ ((w4 * w6) - (w4 * w6) / (4 : Int32) * (4 : Int32)) = 0 → Rn PRG (d + 1) 104 57 [(0, .ref 15), (1, .int w4), (2, .int w6)] [] σ5 Q))))) ∧ (¬ 0 ≤ w6 → Q none σ5)))))))))) : Rn PRG (d + 1) 104 0 [(0, .ref 15)] [] σ Q := by
  have hM : PRG[104]? = some M_104 := rfl
  refine Rn.seg (pc' := 3) (ls' := [(0, .ref 15)]) (st' := [.int (15 : Int32), .ref 15]) (σ' := σ) hM 2 rfl ?_
  obtain ⟨Qc, hq, h⟩ := h
  refine Rn.cI hM rfl rfl (by decide) hq (fun w2 σ1 hw => ?_)
  replace h := h w2 σ1 hw
  refine Rn.br (c := w2 = 0) (a := 18) (b := 9) (ls' := [(0, .ref 15)]) (st' := []) (σ' := σ1) hM 1 rfl (fun c => ?_) (fun c => ?_)
  · replace h := h.1 c
    refine Rn.seg (pc' := 40) (ls' := [(2, .int (-1 : Int32)), (1, .int (-1 : Int32)), (0, .ref 15)]) (st' := []) (σ' := σ1) hM 8 rfl ?_
    exact Rn.ret hM rfl rfl h
  · replace h := h.2 c
    refine Rn.seg (pc' := 12) (ls' := [(0, .ref 15)]) (st' := [.int (4 : Int32), .int (1 : Int32), .ref 15]) (σ' := σ1) hM 3 rfl ?_
    obtain ⟨Qc, hq, h⟩ := h
    refine Rn.cI hM rfl rfl (by decide) hq (fun w4 σ3 hw => ?_)
    replace h := h w4 σ3 hw
    refine Rn.br (c := w4 < 0) (a := 34) (b := 24) (ls' := [(1, .int w4), (0, .ref 15)]) (st' := []) (σ' := σ3) hM 4 rfl (fun c => ?_) (fun c => ?_)
    · replace h := h.1 c
      refine Rn.seg (pc' := 40) (ls' := [(2, .int (-1 : Int32)), (1, .int w4), (0, .ref 15)]) (st' := []) (σ' := σ3) hM 4 rfl ?_
      exact Rn.ret hM rfl rfl h
    · replace h := h.2 c
      refine Rn.seg (pc' := 28) (ls' := [(1, .int w4), (0, .ref 15)]) (st' := [.int (16 : Int32), .int (1 : Int32), .ref 15]) (σ' := σ3) hM 3 rfl ?_
      obtain ⟨Qc, hq, h⟩ := h
      refine Rn.cI hM rfl rfl (by decide) hq (fun w6 σ5 hw => ?_)
      replace h := h w6 σ5 hw
      refine Rn.br (c := 0 ≤ w6) (a := 41) (b := 40) (ls' := [(2, .int w6), (1, .int w4), (0, .ref 15)]) (st' := []) (σ' := σ5) hM 4 rfl (fun c => ?_) (fun c => ?_)
      · replace h := h.1 c
        refine Rn.br (c := (16 : Int32) < (w4 * w6)) (a := 57) (b := 49) (ls' := [(2, .int w6), (1, .int w4), (0, .ref 15)]) (st' := []) (σ' := σ5) hM 5 rfl (fun c => ?_) (fun c => ?_)
        · replace h := h.1 c
          refine Rn.seg (pc' := 57) (ls' := [(2, .int w6), (1, .int w4), (0, .ref 15)]) (st' := []) (σ' := σ5) hM 0 rfl ?_
          exact Rn.sub h (subL_cons rfl (subL_cons rfl (subL_cons rfl subL_nil))) (show ndL _ from (by decide : List.Nodup ([0, 1, 2] : List Nat)))
        · replace h := h.2 c
          refine Rn.br (c := ((w4 * w6) - (w4 * w6) / (4 : Int32) * (4 : Int32)) = 0) (a := 68) (b := 57) (ls' := [(2, .int w6), (1, .int w4), (0, .ref 15)]) (st' := []) (σ' := σ5) hM 6 rfl (fun c => ?_) (fun c => ?_)
          · replace h := h.1 c
            refine Rn.seg (pc' := 68) (ls' := [(2, .int w6), (1, .int w4), (0, .ref 15)]) (st' := []) (σ' := σ5) hM 0 rfl ?_
            exact Rn.sub h (subL_cons rfl (subL_cons rfl (subL_cons rfl subL_nil))) (show ndL _ from (by decide : List.Nodup ([0, 1, 2] : List Nat)))
          · replace h := h.2 c
            refine Rn.seg (pc' := 57) (ls' := [(2, .int w6), (1, .int w4), (0, .ref 15)]) (st' := []) (σ' := σ5) hM 0 rfl ?_
            exact Rn.sub h (subL_cons rfl (subL_cons rfl (subL_cons rfl subL_nil))) (show ndL _ from (by decide : List.Nodup ([0, 1, 2] : List Nat)))
      · replace h := h.2 c
        refine Rn.seg (pc' := 40) (ls' := [(2, .int w6), (1, .int w4), (0, .ref 15)]) (st' := []) (σ' := σ5) hM 0 rfl ?_
        exact Rn.ret hM rfl rfl h
set_option maxRecDepth 100000 in
theorem w_104_57 {d : Nat} {Q : Option Value → Sg → Prop} (σ : Sg) (x1 x2 : Int32) (h : (∃ Qc : Sg → Prop, OkV PRG d 102 [.ref 15, .int (5 : Int32), .int ((σ.1 15 4) - (1 : Int32))] σ Qc ∧ ∀ σ1, Qc σ1 → Rn PRG (d + 1) 104 68 [(0, .ref 15), (1, .int x1), (2, .int x2)] [] σ1 Q)) : Rn PRG (d + 1) 104 57 [(0, .ref 15), (1, .int x1), (2, .int x2)] [] σ Q := by
  have hM : PRG[104]? = some M_104 := rfl
  refine Rn.seg (pc' := 65) (ls' := [(0, .ref 15), (1, .int x1), (2, .int x2)]) (st' := [.int ((σ.1 15 4) - (1 : Int32)), .int (5 : Int32), .ref 15]) (σ' := σ) hM 6 rfl ?_
  obtain ⟨Qc, hq, h⟩ := h
  refine Rn.cV hM rfl rfl (by decide) hq (fun σ1 hw => ?_)
  replace h := h σ1 hw
  refine Rn.seg (pc' := 68) (ls' := [(0, .ref 15), (1, .int x1), (2, .int x2)]) (st' := []) (σ' := σ1) hM 0 rfl ?_
  exact Rn.sub h (subL_cons rfl (subL_cons rfl (subL_cons rfl subL_nil))) (show ndL _ from (by decide : List.Nodup ([0, 1, 2] : List Nat)))
set_option maxRecDepth 100000 in
theorem w_104_68 {d : Nat} {Q : Option Value → Sg → Prop} (σ : Sg) (x1 x2 : Int32) (h : (∃ Qc : Int32 → Sg → Prop, OkI PRG d 101 [.ref 15, .int (4 : Int32)] σ Qc ∧ ∀ w2 σ1, Qc w2 σ1 → ((w2 = 0 → Rn PRG (d + 1) 104 99 [] [] σ1 Q) ∧ (¬ w2 = 0 → (((σ1.1 15 3) = 0 → Rn PRG (d + 1) 104 99 [] [] σ1 Q) ∧ (¬ (σ1.1 15 3) = 0 → Rn PRG (d + 1) 104 99 [] [] (s1 (s1 σ1 3 0 x1) 3 1 x2) Q)))))) : Rn PRG (d + 1) 104 68 [(0, .ref 15), (1, .int x1), (2, .int x2)] [] σ Q := by
  have hM : PRG[104]? = some M_104 := rfl
  refine Rn.seg (pc' := 70) (ls' := [(0, .ref 15), (1, .int x1), (2, .int x2)]) (st' := [.int (4 : Int32), .ref 15]) (σ' := σ) hM 2 rfl ?_
  obtain ⟨Qc, hq, h⟩ := h
  refine Rn.cI hM rfl rfl (by decide) hq (fun w2 σ1 hw => ?_)
  replace h := h w2 σ1 hw
  refine Rn.br (c := w2 = 0) (a := 99) (b := 76) (ls' := [(0, .ref 15), (1, .int x1), (2, .int x2)]) (st' := []) (σ' := σ1) hM 1 rfl (fun c => ?_) (fun c => ?_)
  · replace h := h.1 c
    refine Rn.seg (pc' := 99) (ls' := [(0, .ref 15), (1, .int x1), (2, .int x2)]) (st' := []) (σ' := σ1) hM 0 rfl ?_
    exact Rn.sub h subL_nil (show ndL _ from (by decide : List.Nodup ([] : List Nat)))
  · replace h := h.2 c
    refine Rn.br (c := (σ1.1 15 3) = 0) (a := 99) (b := 83) (ls' := [(0, .ref 15), (1, .int x1), (2, .int x2)]) (st' := []) (σ' := σ1) hM 3 rfl (fun c => ?_) (fun c => ?_)
    · replace h := h.1 c
      refine Rn.seg (pc' := 99) (ls' := [(0, .ref 15), (1, .int x1), (2, .int x2)]) (st' := []) (σ' := σ1) hM 0 rfl ?_
      exact Rn.sub h subL_nil (show ndL _ from (by decide : List.Nodup ([] : List Nat)))
    · replace h := h.2 c
      refine Rn.seg (pc' := 99) (ls' := [(0, .ref 15), (1, .int x1), (2, .int x2)]) (st' := []) (σ' := (s1 (s1 σ1 3 0 x1) 3 1 x2)) hM 8 rfl ?_
      exact Rn.sub h subL_nil (show ndL _ from (by decide : List.Nodup ([] : List Nat)))
set_option maxRecDepth 100000 in
theorem w_104_99 {d : Nat} {Q : Option Value → Sg → Prop} (σ : Sg) (h : Q none σ) : Rn PRG (d + 1) 104 99 [] [] σ Q := by
  have hM : PRG[104]? = some M_104 := rfl
  refine Rn.seg (pc' := 99) (ls' := []) (st' := []) (σ' := σ) hM 0 rfl ?_
  exact Rn.ret hM rfl rfl h
set_option maxRecDepth 100000 in
theorem w_105_0 {d : Nat} {Q : Option Value → Sg → Prop} (σ : Sg) (h : (∃ Qc : Int32 → Sg → Prop, OkI PRG d 101 [.ref 15, .int (16 : Int32)] σ Qc ∧ ∀ w2 σ1, Qc w2 σ1 → ((w2 = 0 → Rn PRG (d + 1) 105 47 [] [] σ1 Q) ∧ (¬ w2 = 0 → (∃ Qc : Int32 → Sg → Prop, OkI PRG d 103 [.ref 15, .int (0 : Int32), .int (3 : Int32)] σ1 Qc ∧ ∀ w4 σ3, Qc w4 σ3 → ((w4 < 0 → Rn PRG (d + 1) 105 47 [] [] σ3 Q) ∧ (¬ w4 < 0 → (∃ Qc : Int32 → Sg → Prop, OkI PRG d 101 [.ref 15, .int (4 : Int32)] σ3 Qc ∧ ∀ w6 σ5, Qc w6 σ5 → ((w6 = 0 → Rn PRG (d + 1) 105 47 [] [] σ5 Q) ∧ (¬ w6 = 0 → (((σ5.1 15 3) = 0 → Rn PRG (d + 1) 105 47 [] [] σ5 Q) ∧ (¬ (σ5.1 15 3) = 0 → Rn PRG (d + 1) 105 47 [] [] (s1 σ5 3 2 w4) Q)))))))))))) : Rn PRG (d + 1) 105 0 [(0, .ref 15)] [] σ Q := by
  have hM : PRG[105]? = some M_105 := rfl
  refine Rn.seg (pc' := 3) (ls' := [(0, .ref 15)]) (st' := [.int (16 : Int32), .ref 15]) (σ' := σ) hM 2 rfl ?_
  obtain ⟨Qc, hq, h⟩ := h
  refine Rn.cI hM rfl rfl (by decide) hq (fun w2 σ1 hw => ?_)
  replace h := h w2 σ1 hw
  refine Rn.br (c := w2 = 0) (a := 18) (b := 9) (ls' := [(0, .ref 15)]) (st' := []) (σ' := σ1) hM 1 rfl (fun c => ?_) (fun c => ?_)
  · replace h := h.1 c
    refine Rn.seg (pc' := 47) (ls' := [(1, .int (-1 : Int32)), (0, .ref 15)]) (st' := []) (σ' := σ1) hM 4 rfl ?_
    exact Rn.sub h subL_nil (show ndL _ from (by decide : List.Nodup ([] : List Nat)))
  · replace h := h.2 c
    refine Rn.seg (pc' := 12) (ls' := [(0, .ref 15)]) (st' := [.int (3 : Int32), .int (0 : Int32), .ref 15]) (σ' := σ1) hM 3 rfl ?_
    obtain ⟨Qc, hq, h⟩ := h
    refine Rn.cI hM rfl rfl (by decide) hq (fun w4 σ3 hw => ?_)
    replace h := h w4 σ3 hw
    refine Rn.br (c := w4 < 0) (a := 47) (b := 24) (ls' := [(1, .int w4), (0, .ref 15)]) (st' := []) (σ' := σ3) hM 4 rfl (fun c => ?_) (fun c => ?_)
    · replace h := h.1 c
      refine Rn.seg (pc' := 47) (ls' := [(1, .int w4), (0, .ref 15)]) (st' := []) (σ' := σ3) hM 0 rfl ?_
      exact Rn.sub h subL_nil (show ndL _ from (by decide : List.Nodup ([] : List Nat)))
    · replace h := h.2 c
      refine Rn.seg (pc' := 26) (ls' := [(1, .int w4), (0, .ref 15)]) (st' := [.int (4 : Int32), .ref 15]) (σ' := σ3) hM 2 rfl ?_
      obtain ⟨Qc, hq, h⟩ := h
      refine Rn.cI hM rfl rfl (by decide) hq (fun w6 σ5 hw => ?_)
      replace h := h w6 σ5 hw
      refine Rn.br (c := w6 = 0) (a := 47) (b := 32) (ls' := [(1, .int w4), (0, .ref 15)]) (st' := []) (σ' := σ5) hM 1 rfl (fun c => ?_) (fun c => ?_)
      · replace h := h.1 c
        refine Rn.seg (pc' := 47) (ls' := [(1, .int w4), (0, .ref 15)]) (st' := []) (σ' := σ5) hM 0 rfl ?_
        exact Rn.sub h subL_nil (show ndL _ from (by decide : List.Nodup ([] : List Nat)))
      · replace h := h.2 c
        refine Rn.br (c := (σ5.1 15 3) = 0) (a := 47) (b := 39) (ls' := [(1, .int w4), (0, .ref 15)]) (st' := []) (σ' := σ5) hM 3 rfl (fun c => ?_) (fun c => ?_)
        · replace h := h.1 c
          refine Rn.seg (pc' := 47) (ls' := [(1, .int w4), (0, .ref 15)]) (st' := []) (σ' := σ5) hM 0 rfl ?_
          exact Rn.sub h subL_nil (show ndL _ from (by decide : List.Nodup ([] : List Nat)))
        · replace h := h.2 c
          refine Rn.seg (pc' := 47) (ls' := [(1, .int w4), (0, .ref 15)]) (st' := []) (σ' := (s1 σ5 3 2 w4)) hM 4 rfl ?_
          exact Rn.sub h subL_nil (show ndL _ from (by decide : List.Nodup ([] : List Nat)))
set_option maxRecDepth 100000 in
theorem w_105_47 {d : Nat} {Q : Option Value → Sg → Prop} (σ : Sg) (h : Q none σ) : Rn PRG (d + 1) 105 47 [] [] σ Q := by
  have hM : PRG[105]? = some M_105 := rfl
  refine Rn.seg (pc' := 47) (ls' := []) (st' := []) (σ' := σ) hM 0 rfl ?_
  exact Rn.ret hM rfl rfl h
set_option maxRecDepth 100000 in
theorem w_107_0 {d : Nat} {Q : Option Value → Sg → Prop} (σ : Sg) (h : (inR (σ.1 15 4) 402 = true ∧ (∃ Qc : Int32 → Sg → Prop, OkI PRG d 101 [.ref 15, .int (2 : Int32)] σ Qc ∧ ∀ w2 σ1, Qc w2 σ1 → ((w2 = 0 → Rn PRG (d + 1) 107 30 [] [] σ1 Q) ∧ (¬ w2 = 0 → (((σ1.1 15 6) < (6 : Int32) → Rn PRG (d + 1) 107 34 [(0, .ref 15), (1, .long (σ.2 20 (σ.1 15 4).toNatClampNeg)), (3, .int (0 : Int32))] [] σ1 Q) ∧ (¬ (σ1.1 15 6) < (6 : Int32) → Rn PRG (d + 1) 107 30 [] [] σ1 Q))))))) : Rn PRG (d + 1) 107 0 [(0, .ref 15)] [] σ Q := by
  have hM : PRG[107]? = some M_107 := rfl
  refine Rn.seg (pc' := 11) (ls' := [(0, .ref 15)]) (st' := [.int (σ.1 15 4), .ref 20]) (σ' := σ) hM 5 rfl ?_
  refine Rn.lald hM rfl rfl h.1 ?_
  refine Rn.seg (pc' := 15) (ls' := [(1, .long (σ.2 20 (σ.1 15 4).toNatClampNeg)), (0, .ref 15)]) (st' := [.int (2 : Int32), .ref 15]) (σ' := σ) hM 3 rfl ?_
  obtain ⟨Qc, hq, h⟩ := h.2
  refine Rn.cI hM rfl rfl (by decide) hq (fun w2 σ1 hw => ?_)
  replace h := h w2 σ1 hw
  refine Rn.br (c := w2 = 0) (a := 30) (b := 21) (ls' := [(1, .long (σ.2 20 (σ.1 15 4).toNatClampNeg)), (0, .ref 15)]) (st' := []) (σ' := σ1) hM 1 rfl (fun c => ?_) (fun c => ?_)
  · replace h := h.1 c
    refine Rn.seg (pc' := 30) (ls' := [(1, .long (σ.2 20 (σ.1 15 4).toNatClampNeg)), (0, .ref 15)]) (st' := []) (σ' := σ1) hM 0 rfl ?_
    exact Rn.sub h subL_nil (show ndL _ from (by decide : List.Nodup ([] : List Nat)))
  · replace h := h.2 c
    refine Rn.br (c := (σ1.1 15 6) < (6 : Int32)) (a := 32) (b := 30) (ls' := [(1, .long (σ.2 20 (σ.1 15 4).toNatClampNeg)), (0, .ref 15)]) (st' := []) (σ' := σ1) hM 4 rfl (fun c => ?_) (fun c => ?_)
    · replace h := h.1 c
      refine Rn.seg (pc' := 34) (ls' := [(3, .int (0 : Int32)), (1, .long (σ.2 20 (σ.1 15 4).toNatClampNeg)), (0, .ref 15)]) (st' := []) (σ' := σ1) hM 2 rfl ?_
      exact Rn.sub h (subL_cons rfl (subL_cons rfl (subL_cons rfl subL_nil))) (show ndL _ from (by decide : List.Nodup ([0, 1, 3] : List Nat)))
    · replace h := h.2 c
      refine Rn.seg (pc' := 30) (ls' := [(1, .long (σ.2 20 (σ.1 15 4).toNatClampNeg)), (0, .ref 15)]) (st' := []) (σ' := σ1) hM 0 rfl ?_
      exact Rn.sub h subL_nil (show ndL _ from (by decide : List.Nodup ([] : List Nat)))
set_option maxRecDepth 100000 in
theorem w_107_30 {d : Nat} {Q : Option Value → Sg → Prop} (σ : Sg) (h : Q (some (.int (0 : Int32))) σ) : Rn PRG (d + 1) 107 30 [] [] σ Q := by
  have hM : PRG[107]? = some M_107 := rfl
  refine Rn.seg (pc' := 31) (ls' := []) (st' := [.int (0 : Int32)]) (σ' := σ) hM 1 rfl ?_
  exact Rn.ret hM rfl rfl h
set_option maxRecDepth 100000 in
theorem w_107_34 {d : Nat} {Q : Option Value → Sg → Prop} (σ : Sg) (x3 : Int32) (x1 : Int64) (h : (((σ.1 15 6) ≤ x3 → (inR (σ.1 15 6) 6 = true ∧ Q (some (.int (1 : Int32))) (s2 σ 16 (σ.1 15 6).toNatClampNeg x1))) ∧ (¬ (σ.1 15 6) ≤ x3 → (inR x3 6 = true ∧ (((lg_cmp (σ.2 16 x3.toNatClampNeg) x1) = 0 → (∃ Qc : Sg → Prop, OkV PRG d 102 [.ref 15, .int (3 : Int32), .int ((σ.1 15 4) - (1 : Int32))] σ Qc ∧ ∀ σ1, Qc σ1 → Rn PRG (d + 1) 107 64 [(0, .ref 15), (1, .long x1), (3, .int x3)] [] σ1 Q)) ∧ (¬ (lg_cmp (σ.2 16 x3.toNatClampNeg) x1) = 0 → Rn PRG (d + 1) 107 64 [(0, .ref 15), (1, .long x1), (3, .int x3)] [] σ Q)))))) : Rn PRG (d + 1) 107 34 [(0, .ref 15), (1, .long x1), (3, .int x3)] [] σ Q := by
  have hM : PRG[107]? = some M_107 := rfl
  refine Rn.br (c := (σ.1 15 6) ≤ x3) (a := 70) (b := 42) (ls' := [(0, .ref 15), (1, .long x1), (3, .int x3)]) (st' := []) (σ' := σ) hM 4 rfl (fun c => ?_) (fun c => ?_)
  · replace h := h.1 c
    refine Rn.seg (pc' := 79) (ls' := [(0, .ref 15), (1, .long x1), (3, .int x3)]) (st' := [.long x1, .int (σ.1 15 6), .ref 16]) (σ' := σ) hM 5 rfl ?_
    refine Rn.last hM rfl rfl h.1 ?_
    refine Rn.seg (pc' := 81) (ls' := [(0, .ref 15), (1, .long x1), (3, .int x3)]) (st' := [.int (1 : Int32)]) (σ' := (s2 σ 16 (σ.1 15 6).toNatClampNeg x1)) hM 1 rfl ?_
    exact Rn.ret hM rfl rfl h.2
  · replace h := h.2 c
    refine Rn.seg (pc' := 47) (ls' := [(0, .ref 15), (1, .long x1), (3, .int x3)]) (st' := [.int x3, .ref 16]) (σ' := σ) hM 3 rfl ?_
    refine Rn.lald hM rfl rfl h.1 ?_
    refine Rn.brN (c := (lg_cmp (σ.2 16 x3.toNatClampNeg) x1) = 0) (a := 64) (b := 53) (ls' := [(0, .ref 15), (1, .long x1), (3, .int x3)]) (st' := []) (σ' := σ) hM 3 rfl (fun c => ?_) (fun c => ?_)
    · replace h := h.2.2 c
      refine Rn.seg (pc' := 64) (ls' := [(0, .ref 15), (1, .long x1), (3, .int x3)]) (st' := []) (σ' := σ) hM 0 rfl ?_
      exact Rn.sub h (subL_cons rfl (subL_cons rfl (subL_cons rfl subL_nil))) (show ndL _ from (by decide : List.Nodup ([0, 1, 3] : List Nat)))
    · replace h := h.2.1 c
      refine Rn.seg (pc' := 61) (ls' := [(0, .ref 15), (1, .long x1), (3, .int x3)]) (st' := [.int ((σ.1 15 4) - (1 : Int32)), .int (3 : Int32), .ref 15]) (σ' := σ) hM 6 rfl ?_
      obtain ⟨Qc, hq, h⟩ := h
      refine Rn.cV hM rfl rfl (by decide) hq (fun σ1 hw => ?_)
      replace h := h σ1 hw
      refine Rn.seg (pc' := 64) (ls' := [(0, .ref 15), (1, .long x1), (3, .int x3)]) (st' := []) (σ' := σ1) hM 0 rfl ?_
      exact Rn.sub h (subL_cons rfl (subL_cons rfl (subL_cons rfl subL_nil))) (show ndL _ from (by decide : List.Nodup ([0, 1, 3] : List Nat)))
set_option maxRecDepth 100000 in
theorem w_107_64 {d : Nat} {Q : Option Value → Sg → Prop} (σ : Sg) (x3 : Int32) (x1 : Int64) (h : Rn PRG (d + 1) 107 34 [(0, .ref 15), (1, .long x1), (3, .int (x3 + (1 : Int32)))] [] σ Q) : Rn PRG (d + 1) 107 64 [(0, .ref 15), (1, .long x1), (3, .int x3)] [] σ Q := by
  have hM : PRG[107]? = some M_107 := rfl
  refine Rn.seg (pc' := 34) (ls' := [(3, .int (x3 + (1 : Int32))), (0, .ref 15), (1, .long x1)]) (st' := []) (σ' := σ) hM 2 rfl ?_
  exact Rn.sub h (subL_cons rfl (subL_cons rfl (subL_cons rfl subL_nil))) (show ndL _ from (by decide : List.Nodup ([0, 1, 3] : List Nat)))
set_option maxRecDepth 100000 in
theorem w_113_0 {d : Nat} {Q : Option Value → Sg → Prop} (σ : Sg) (h : (∃ Qc : Int32 → Sg → Prop, OkI PRG d 107 [.ref 15] σ Qc ∧ ∀ w2 σ1, Qc w2 σ1 → ((w2 = 0 → Q none σ1) ∧ (¬ w2 = 0 → (∃ Qc : Int32 → Sg → Prop, OkI PRG d 103 [.ref 15, .int (0 : Int32), .int (2 : Int32)] σ1 Qc ∧ ∀ w4 σ3, Qc w4 σ3 → ((0 ≤ w4 → (∃ Qc : Int32 → Sg → Prop, OkI PRG d 101 [.ref 15, .int ((18 : Int32) + (if (0 : Int32) < (if ((σ3.1 15 5) - (18 : Int32)) < (2 : Int32) then ((σ3.1 15 5) - (18 : Int32)) else (2 : Int32)) then (if ((σ3.1 15 5) - (18 : Int32)) < (2 : Int32) then ((σ3.1 15 5) - (18 : Int32)) else (2 : Int32)) else (0 : Int32)))] σ3 Qc ∧ ∀ w6 σ5, Qc w6 σ5 → ((w6 = 0 → Q none σ5) ∧ (¬ w6 = 0 → (((σ5.1 15 5) = (21 : Int32) → (∃ Qc : Int32 → Sg → Prop, OkI PRG d 101 [.ref 15, .int (21 : Int32)] σ5 Qc ∧ ∀ w8 σ7, Qc w8 σ7 → ((w8 = 0 → Rn PRG (d + 1) 113 84 [] [] σ7 Q) ∧ (¬ w8 = 0 → (∃ Qc : Int32 → Sg → Prop, OkI PRG d 112 [.ref 15] σ7 Qc ∧ ∀ w10 σ9, Qc w10 σ9 → ((w10 = 0 → Rn PRG (d + 1) 113 84 [] [] σ9 Q) ∧ (¬ w10 = 0 → Rn PRG (d + 1) 113 85 [(0, .ref 15), (1, .int w4), (2, .int (if (0 : Int32) < (if ((σ3.1 15 5) - (18 : Int32)) < (2 : Int32) then ((σ3.1 15 5) - (18 : Int32)) else (2 : Int32)) then (if ((σ3.1 15 5) - (18 : Int32)) < (2 : Int32) then ((σ3.1 15 5) - (18 : Int32)) else (2 : Int32)) else (0 : Int32))), (3, .int (σ5.1 3 9))] [] σ9 Q))))))) ∧ (¬ (σ5.1 15 5) = (21 : Int32) → Rn PRG (d + 1) 113 85 [(0, .ref 15), (1, .int w4), (2, .int (if (0 : Int32) < (if ((σ3.1 15 5) - (18 : Int32)) < (2 : Int32) then ((σ3.1 15 5) - (18 : Int32)) else (2 : Int32)) then (if ((σ3.1 15 5) - (18 : Int32)) < (2 : Int32) then ((σ3.1 15 5) - (18 : Int32)) else (2 : Int32)) else (0 : Int32))), (3, .int (σ5.1 3 9))] [] σ5 Q)))))) ∧ (¬ 0 ≤ w4 → Q none σ3))))))) : Rn PRG (d + 1) 113 0 [(0, .ref 15)] [] σ Q := by
  have hM : PRG[113]? = some M_113 := rfl
  refine Rn.seg (pc' := 1) (ls' := [(0, .ref 15)]) (st' := [.ref 15]) (σ' := σ) hM 1 rfl ?_
  obtain ⟨Qc, hq, h⟩ := h
  refine Rn.cI hM rfl rfl (by decide) hq (fun w2 σ1 hw => ?_)
  replace h := h w2 σ1 hw
  refine Rn.br (c := w2 = 0) (a := 16) (b := 7) (ls' := [(0, .ref 15)]) (st' := []) (σ' := σ1) hM 1 rfl (fun c => ?_) (fun c => ?_)
  · replace h := h.1 c
    refine Rn.seg (pc' := 22) (ls' := [(1, .int (-1 : Int32)), (0, .ref 15)]) (st' := []) (σ' := σ1) hM 4 rfl ?_
    exact Rn.ret hM rfl rfl h
  · replace h := h.2 c
    refine Rn.seg (pc' := 10) (ls' := [(0, .ref 15)]) (st' := [.int (2 : Int32), .int (0 : Int32), .ref 15]) (σ' := σ1) hM 3 rfl ?_
    obtain ⟨Qc, hq, h⟩ := h
    refine Rn.cI hM rfl rfl (by decide) hq (fun w4 σ3 hw => ?_)
    replace h := h w4 σ3 hw
    refine Rn.br (c := 0 ≤ w4) (a := 23) (b := 22) (ls' := [(1, .int w4), (0, .ref 15)]) (st' := []) (σ' := σ3) hM 4 rfl (fun c => ?_) (fun c => ?_)
    · replace h := h.1 c
      refine Rn.seg (pc' := 32) (ls' := [(1, .int w4), (0, .ref 15)]) (st' := [.int ((σ3.1 15 5) - (18 : Int32)), .int (2 : Int32), .int (0 : Int32)]) (σ' := σ3) hM 6 rfl ?_
      refine Rn.mm hM rfl rfl rfl ?_
      refine Rn.seg (pc' := 35) (ls' := [(1, .int w4), (0, .ref 15)]) (st' := [.int (if ((σ3.1 15 5) - (18 : Int32)) < (2 : Int32) then ((σ3.1 15 5) - (18 : Int32)) else (2 : Int32)), .int (0 : Int32)]) (σ' := σ3) hM 0 rfl ?_
      refine Rn.mm hM rfl rfl rfl ?_
      refine Rn.seg (pc' := 44) (ls' := [(2, .int (if (0 : Int32) < (if ((σ3.1 15 5) - (18 : Int32)) < (2 : Int32) then ((σ3.1 15 5) - (18 : Int32)) else (2 : Int32)) then (if ((σ3.1 15 5) - (18 : Int32)) < (2 : Int32) then ((σ3.1 15 5) - (18 : Int32)) else (2 : Int32)) else (0 : Int32))), (1, .int w4), (0, .ref 15)]) (st' := [.int ((18 : Int32) + (if (0 : Int32) < (if ((σ3.1 15 5) - (18 : Int32)) < (2 : Int32) then ((σ3.1 15 5) - (18 : Int32)) else (2 : Int32)) then (if ((σ3.1 15 5) - (18 : Int32)) < (2 : Int32) then ((σ3.1 15 5) - (18 : Int32)) else (2 : Int32)) else (0 : Int32))), .ref 15]) (σ' := σ3) hM 5 rfl ?_
      obtain ⟨Qc, hq, h⟩ := h
      refine Rn.cI hM rfl rfl (by decide) hq (fun w6 σ5 hw => ?_)
      replace h := h w6 σ5 hw
      refine Rn.brN (c := w6 = 0) (a := 51) (b := 50) (ls' := [(2, .int (if (0 : Int32) < (if ((σ3.1 15 5) - (18 : Int32)) < (2 : Int32) then ((σ3.1 15 5) - (18 : Int32)) else (2 : Int32)) then (if ((σ3.1 15 5) - (18 : Int32)) < (2 : Int32) then ((σ3.1 15 5) - (18 : Int32)) else (2 : Int32)) else (0 : Int32))), (1, .int w4), (0, .ref 15)]) (st' := []) (σ' := σ5) hM 1 rfl (fun c => ?_) (fun c => ?_)
      · replace h := h.2 c
        refine Rn.brN (c := (σ5.1 15 5) = (21 : Int32)) (a := 85) (b := 68) (ls' := [(3, .int (σ5.1 3 9)), (2, .int (if (0 : Int32) < (if ((σ3.1 15 5) - (18 : Int32)) < (2 : Int32) then ((σ3.1 15 5) - (18 : Int32)) else (2 : Int32)) then (if ((σ3.1 15 5) - (18 : Int32)) < (2 : Int32) then ((σ3.1 15 5) - (18 : Int32)) else (2 : Int32)) else (0 : Int32))), (1, .int w4), (0, .ref 15)]) (st' := []) (σ' := σ5) hM 8 rfl (fun c => ?_) (fun c => ?_)
        · replace h := h.2 c
          refine Rn.seg (pc' := 85) (ls' := [(3, .int (σ5.1 3 9)), (2, .int (if (0 : Int32) < (if ((σ3.1 15 5) - (18 : Int32)) < (2 : Int32) then ((σ3.1 15 5) - (18 : Int32)) else (2 : Int32)) then (if ((σ3.1 15 5) - (18 : Int32)) < (2 : Int32) then ((σ3.1 15 5) - (18 : Int32)) else (2 : Int32)) else (0 : Int32))), (1, .int w4), (0, .ref 15)]) (st' := []) (σ' := σ5) hM 0 rfl ?_
          exact Rn.sub h (subL_cons rfl (subL_cons rfl (subL_cons rfl (subL_cons rfl subL_nil)))) (show ndL _ from (by decide : List.Nodup ([0, 1, 2, 3] : List Nat)))
        · replace h := h.1 c
          refine Rn.seg (pc' := 71) (ls' := [(3, .int (σ5.1 3 9)), (2, .int (if (0 : Int32) < (if ((σ3.1 15 5) - (18 : Int32)) < (2 : Int32) then ((σ3.1 15 5) - (18 : Int32)) else (2 : Int32)) then (if ((σ3.1 15 5) - (18 : Int32)) < (2 : Int32) then ((σ3.1 15 5) - (18 : Int32)) else (2 : Int32)) else (0 : Int32))), (1, .int w4), (0, .ref 15)]) (st' := [.int (21 : Int32), .ref 15]) (σ' := σ5) hM 2 rfl ?_
          obtain ⟨Qc, hq, h⟩ := h
          refine Rn.cI hM rfl rfl (by decide) hq (fun w8 σ7 hw => ?_)
          replace h := h w8 σ7 hw
          refine Rn.br (c := w8 = 0) (a := 84) (b := 77) (ls' := [(3, .int (σ5.1 3 9)), (2, .int (if (0 : Int32) < (if ((σ3.1 15 5) - (18 : Int32)) < (2 : Int32) then ((σ3.1 15 5) - (18 : Int32)) else (2 : Int32)) then (if ((σ3.1 15 5) - (18 : Int32)) < (2 : Int32) then ((σ3.1 15 5) - (18 : Int32)) else (2 : Int32)) else (0 : Int32))), (1, .int w4), (0, .ref 15)]) (st' := []) (σ' := σ7) hM 1 rfl (fun c => ?_) (fun c => ?_)
          · replace h := h.1 c
            refine Rn.seg (pc' := 84) (ls' := [(3, .int (σ5.1 3 9)), (2, .int (if (0 : Int32) < (if ((σ3.1 15 5) - (18 : Int32)) < (2 : Int32) then ((σ3.1 15 5) - (18 : Int32)) else (2 : Int32)) then (if ((σ3.1 15 5) - (18 : Int32)) < (2 : Int32) then ((σ3.1 15 5) - (18 : Int32)) else (2 : Int32)) else (0 : Int32))), (1, .int w4), (0, .ref 15)]) (st' := []) (σ' := σ7) hM 0 rfl ?_
            exact Rn.sub h subL_nil (show ndL _ from (by decide : List.Nodup ([] : List Nat)))
          · replace h := h.2 c
            refine Rn.seg (pc' := 78) (ls' := [(3, .int (σ5.1 3 9)), (2, .int (if (0 : Int32) < (if ((σ3.1 15 5) - (18 : Int32)) < (2 : Int32) then ((σ3.1 15 5) - (18 : Int32)) else (2 : Int32)) then (if ((σ3.1 15 5) - (18 : Int32)) < (2 : Int32) then ((σ3.1 15 5) - (18 : Int32)) else (2 : Int32)) else (0 : Int32))), (1, .int w4), (0, .ref 15)]) (st' := [.ref 15]) (σ' := σ7) hM 1 rfl ?_
            obtain ⟨Qc, hq, h⟩ := h
            refine Rn.cI hM rfl rfl (by decide) hq (fun w10 σ9 hw => ?_)
            replace h := h w10 σ9 hw
            refine Rn.brN (c := w10 = 0) (a := 85) (b := 84) (ls' := [(3, .int (σ5.1 3 9)), (2, .int (if (0 : Int32) < (if ((σ3.1 15 5) - (18 : Int32)) < (2 : Int32) then ((σ3.1 15 5) - (18 : Int32)) else (2 : Int32)) then (if ((σ3.1 15 5) - (18 : Int32)) < (2 : Int32) then ((σ3.1 15 5) - (18 : Int32)) else (2 : Int32)) else (0 : Int32))), (1, .int w4), (0, .ref 15)]) (st' := []) (σ' := σ9) hM 1 rfl (fun c => ?_) (fun c => ?_)
            · replace h := h.2 c
              refine Rn.seg (pc' := 85) (ls' := [(3, .int (σ5.1 3 9)), (2, .int (if (0 : Int32) < (if ((σ3.1 15 5) - (18 : Int32)) < (2 : Int32) then ((σ3.1 15 5) - (18 : Int32)) else (2 : Int32)) then (if ((σ3.1 15 5) - (18 : Int32)) < (2 : Int32) then ((σ3.1 15 5) - (18 : Int32)) else (2 : Int32)) else (0 : Int32))), (1, .int w4), (0, .ref 15)]) (st' := []) (σ' := σ9) hM 0 rfl ?_
              exact Rn.sub h (subL_cons rfl (subL_cons rfl (subL_cons rfl (subL_cons rfl subL_nil)))) (show ndL _ from (by decide : List.Nodup ([0, 1, 2, 3] : List Nat)))
            · replace h := h.1 c
              refine Rn.seg (pc' := 84) (ls' := [(3, .int (σ5.1 3 9)), (2, .int (if (0 : Int32) < (if ((σ3.1 15 5) - (18 : Int32)) < (2 : Int32) then ((σ3.1 15 5) - (18 : Int32)) else (2 : Int32)) then (if ((σ3.1 15 5) - (18 : Int32)) < (2 : Int32) then ((σ3.1 15 5) - (18 : Int32)) else (2 : Int32)) else (0 : Int32))), (1, .int w4), (0, .ref 15)]) (st' := []) (σ' := σ9) hM 0 rfl ?_
              exact Rn.sub h subL_nil (show ndL _ from (by decide : List.Nodup ([] : List Nat)))
      · replace h := h.1 c
        refine Rn.seg (pc' := 50) (ls' := [(2, .int (if (0 : Int32) < (if ((σ3.1 15 5) - (18 : Int32)) < (2 : Int32) then ((σ3.1 15 5) - (18 : Int32)) else (2 : Int32)) then (if ((σ3.1 15 5) - (18 : Int32)) < (2 : Int32) then ((σ3.1 15 5) - (18 : Int32)) else (2 : Int32)) else (0 : Int32))), (1, .int w4), (0, .ref 15)]) (st' := []) (σ' := σ5) hM 0 rfl ?_
        exact Rn.ret hM rfl rfl h
    · replace h := h.2 c
      refine Rn.seg (pc' := 22) (ls' := [(1, .int w4), (0, .ref 15)]) (st' := []) (σ' := σ3) hM 0 rfl ?_
      exact Rn.ret hM rfl rfl h
set_option maxRecDepth 100000 in
theorem w_113_85 {d : Nat} {Q : Option Value → Sg → Prop} (σ : Sg) (x1 x2 x3 : Int32) (h : (∃ Qc : Int32 → Sg → Prop, OkI PRG d 101 [.ref 15, .int (22 : Int32)] σ Qc ∧ ∀ w2 σ1, Qc w2 σ1 → ((w2 = 0 → Rn PRG (d + 1) 113 118 [] [] σ1 Q) ∧ (¬ w2 = 0 → (∃ Qc : Int32 → Sg → Prop, OkI PRG d 112 [.ref 15] σ1 Qc ∧ ∀ w4 σ3, Qc w4 σ3 → ((w4 = 0 → Rn PRG (d + 1) 113 118 [] [] σ3 Q) ∧ (¬ w4 = 0 → (∃ Qc : Int32 → Sg → Prop, OkI PRG d 101 [.ref 15, .int (4 : Int32)] σ3 Qc ∧ ∀ w6 σ5, Qc w6 σ5 → ((w6 = 0 → Rn PRG (d + 1) 113 118 [] [] σ5 Q) ∧ (¬ w6 = 0 → (((σ5.1 15 3) = 0 → Rn PRG (d + 1) 113 138 [(0, .ref 15)] [] σ5 Q) ∧ (¬ (σ5.1 15 3) = 0 → (∃ Qc : Sg → Prop, OkV PRG d 73 [.ref 3, .int x1, .int x2, .int x3, .int (σ.1 3 9)] σ5 Qc ∧ ∀ σ7, Qc σ7 → Rn PRG (d + 1) 113 138 [(0, .ref 15)] [] σ7 Q))))))))))))) : Rn PRG (d + 1) 113 85 [(0, .ref 15), (1, .int x1), (2, .int x2), (3, .int x3)] [] σ Q := by
  have hM : PRG[113]? = some M_113 := rfl
  refine Rn.seg (pc' := 97) (ls' := [(4, .int (σ.1 3 9)), (0, .ref 15), (1, .int x1), (2, .int x2), (3, .int x3)]) (st' := [.int (22 : Int32), .ref 15]) (σ' := σ) hM 6 rfl ?_
  obtain ⟨Qc, hq, h⟩ := h
  refine Rn.cI hM rfl rfl (by decide) hq (fun w2 σ1 hw => ?_)
  replace h := h w2 σ1 hw
  refine Rn.br (c := w2 = 0) (a := 118) (b := 103) (ls' := [(4, .int (σ.1 3 9)), (0, .ref 15), (1, .int x1), (2, .int x2), (3, .int x3)]) (st' := []) (σ' := σ1) hM 1 rfl (fun c => ?_) (fun c => ?_)
  · replace h := h.1 c
    refine Rn.seg (pc' := 118) (ls' := [(4, .int (σ.1 3 9)), (0, .ref 15), (1, .int x1), (2, .int x2), (3, .int x3)]) (st' := []) (σ' := σ1) hM 0 rfl ?_
    exact Rn.sub h subL_nil (show ndL _ from (by decide : List.Nodup ([] : List Nat)))
  · replace h := h.2 c
    refine Rn.seg (pc' := 104) (ls' := [(4, .int (σ.1 3 9)), (0, .ref 15), (1, .int x1), (2, .int x2), (3, .int x3)]) (st' := [.ref 15]) (σ' := σ1) hM 1 rfl ?_
    obtain ⟨Qc, hq, h⟩ := h
    refine Rn.cI hM rfl rfl (by decide) hq (fun w4 σ3 hw => ?_)
    replace h := h w4 σ3 hw
    refine Rn.br (c := w4 = 0) (a := 118) (b := 110) (ls' := [(4, .int (σ.1 3 9)), (0, .ref 15), (1, .int x1), (2, .int x2), (3, .int x3)]) (st' := []) (σ' := σ3) hM 1 rfl (fun c => ?_) (fun c => ?_)
    · replace h := h.1 c
      refine Rn.seg (pc' := 118) (ls' := [(4, .int (σ.1 3 9)), (0, .ref 15), (1, .int x1), (2, .int x2), (3, .int x3)]) (st' := []) (σ' := σ3) hM 0 rfl ?_
      exact Rn.sub h subL_nil (show ndL _ from (by decide : List.Nodup ([] : List Nat)))
    · replace h := h.2 c
      refine Rn.seg (pc' := 112) (ls' := [(4, .int (σ.1 3 9)), (0, .ref 15), (1, .int x1), (2, .int x2), (3, .int x3)]) (st' := [.int (4 : Int32), .ref 15]) (σ' := σ3) hM 2 rfl ?_
      obtain ⟨Qc, hq, h⟩ := h
      refine Rn.cI hM rfl rfl (by decide) hq (fun w6 σ5 hw => ?_)
      replace h := h w6 σ5 hw
      refine Rn.brN (c := w6 = 0) (a := 119) (b := 118) (ls' := [(4, .int (σ.1 3 9)), (0, .ref 15), (1, .int x1), (2, .int x2), (3, .int x3)]) (st' := []) (σ' := σ5) hM 1 rfl (fun c => ?_) (fun c => ?_)
      · replace h := h.2 c
        refine Rn.br (c := (σ5.1 15 3) = 0) (a := 138) (b := 126) (ls' := [(4, .int (σ.1 3 9)), (0, .ref 15), (1, .int x1), (2, .int x2), (3, .int x3)]) (st' := []) (σ' := σ5) hM 3 rfl (fun c => ?_) (fun c => ?_)
        · replace h := h.1 c
          refine Rn.seg (pc' := 138) (ls' := [(4, .int (σ.1 3 9)), (0, .ref 15), (1, .int x1), (2, .int x2), (3, .int x3)]) (st' := []) (σ' := σ5) hM 0 rfl ?_
          exact Rn.sub h (subL_cons rfl subL_nil) (show ndL _ from (by decide : List.Nodup ([0] : List Nat)))
        · replace h := h.2 c
          refine Rn.seg (pc' := 135) (ls' := [(4, .int (σ.1 3 9)), (0, .ref 15), (1, .int x1), (2, .int x2), (3, .int x3)]) (st' := [.int (σ.1 3 9), .int x3, .int x2, .int x1, .ref 3]) (σ' := σ5) hM 6 rfl ?_
          obtain ⟨Qc, hq, h⟩ := h
          refine Rn.cV hM rfl rfl (by decide) hq (fun σ7 hw => ?_)
          replace h := h σ7 hw
          refine Rn.seg (pc' := 138) (ls' := [(4, .int (σ.1 3 9)), (0, .ref 15), (1, .int x1), (2, .int x2), (3, .int x3)]) (st' := []) (σ' := σ7) hM 0 rfl ?_
          exact Rn.sub h (subL_cons rfl subL_nil) (show ndL _ from (by decide : List.Nodup ([0] : List Nat)))
      · replace h := h.1 c
        refine Rn.seg (pc' := 118) (ls' := [(4, .int (σ.1 3 9)), (0, .ref 15), (1, .int x1), (2, .int x2), (3, .int x3)]) (st' := []) (σ' := σ5) hM 0 rfl ?_
        exact Rn.sub h subL_nil (show ndL _ from (by decide : List.Nodup ([] : List Nat)))
set_option maxRecDepth 100000 in
theorem w_113_84 {d : Nat} {Q : Option Value → Sg → Prop} (σ : Sg) (h : Q none σ) : Rn PRG (d + 1) 113 84 [] [] σ Q := by
  have hM : PRG[113]? = some M_113 := rfl
  refine Rn.seg (pc' := 84) (ls' := []) (st' := []) (σ' := σ) hM 0 rfl ?_
  exact Rn.ret hM rfl rfl h
set_option maxRecDepth 100000 in
theorem w_113_118 {d : Nat} {Q : Option Value → Sg → Prop} (σ : Sg) (h : Q none σ) : Rn PRG (d + 1) 113 118 [] [] σ Q := by
  have hM : PRG[113]? = some M_113 := rfl
  refine Rn.seg (pc' := 118) (ls' := []) (st' := []) (σ' := σ) hM 0 rfl ?_
  exact Rn.ret hM rfl rfl h
set_option maxRecDepth 100000 in
theorem w_113_138 {d : Nat} {Q : Option Value → Sg → Prop} (σ : Sg) (h : Q none (s1 σ 15 6 ((σ.1 15 6) + (1 : Int32)))) : Rn PRG (d + 1) 113 138 [(0, .ref 15)] [] σ Q := by
  have hM : PRG[113]? = some M_113 := rfl
  refine Rn.seg (pc' := 148) (ls' := [(0, .ref 15)]) (st' := []) (σ' := (s1 σ 15 6 ((σ.1 15 6) + (1 : Int32)))) hM 6 rfl ?_
  exact Rn.ret hM rfl rfl h
set_option maxRecDepth 100000 in
theorem w_114_0 {d : Nat} {Q : Option Value → Sg → Prop} (σ : Sg) (x1 : Int32) (h : ((x1 = 0 ∨ x1 = 1) ∧ Rn PRG (d + 1) 114 45 [(0, .ref 15), (2, .int (0 : Int32))] [] (s1 (s1 (s1 (s1 (s1 (s1 (s1 σ 15 3 x1) 15 4 (0 : Int32)) 15 5 (σ.1 18 0)) 15 6 (0 : Int32)) 15 7 (0 : Int32)) 15 8 (-1 : Int32)) 15 9 (0 : Int32)) Q)) : Rn PRG (d + 1) 114 0 [(0, .ref 15), (1, .int x1)] [] σ Q := by
  have hM : PRG[114]? = some M_114 := rfl
  refine Rn.seg (pc' := 2) (ls' := [(0, .ref 15), (1, .int x1)]) (st' := [.int x1, .ref 15]) (σ' := σ) hM 2 rfl ?_
  refine Rn.putZ hM rfl rfl rfl rfl h.1 ?_
  refine Rn.seg (pc' := 45) (ls' := [(2, .int (0 : Int32)), (0, .ref 15), (1, .int x1)]) (st' := []) (σ' := (s1 (s1 (s1 (s1 (s1 (s1 (s1 σ 15 3 x1) 15 4 (0 : Int32)) 15 5 (σ.1 18 0)) 15 6 (0 : Int32)) 15 7 (0 : Int32)) 15 8 (-1 : Int32)) 15 9 (0 : Int32))) hM 24 rfl ?_
  exact Rn.sub h.2 (subL_cons rfl (subL_cons rfl subL_nil)) (show ndL _ from (by decide : List.Nodup ([0, 2] : List Nat)))
set_option maxRecDepth 100000 in
theorem w_114_45 {d : Nat} {Q : Option Value → Sg → Prop} (σ : Sg) (x2 : Int32) (h : (((400 : Int32) < x2 → Rn PRG (d + 1) 114 143 [(0, .ref 15)] [] σ Q) ∧ (¬ (400 : Int32) < x2 → (((σ.1 15 7) = 0 → (((σ.1 15 5) = 0 → Rn PRG (d + 1) 114 143 [(0, .ref 15)] [] σ Q) ∧ (¬ (σ.1 15 5) = 0 → (((σ.1 15 5) = (15 : Int32) → (∃ Qc : Sg → Prop, OkV PRG d 104 [.ref 15] σ Qc ∧ ∀ σ4, Qc σ4 → Rn PRG (d + 1) 114 137 [(0, .ref 15), (2, .int x2)] [] σ4 Q)) ∧ (¬ (σ.1 15 5) = (15 : Int32) → (((σ.1 15 5) = (16 : Int32) → (∃ Qc : Sg → Prop, OkV PRG d 105 [.ref 15] σ Qc ∧ ∀ σ3, Qc σ3 → Rn PRG (d + 1) 114 137 [(0, .ref 15), (2, .int x2)] [] σ3 Q)) ∧ (¬ (σ.1 15 5) = (16 : Int32) → (((σ.1 15 5) = (17 : Int32) → (((σ.1 15 6) < (6 : Int32) → Rn PRG (d + 1) 114 124 [(0, .ref 15), (2, .int x2)] [] σ Q) ∧ (¬ (σ.1 15 6) < (6 : Int32) → (∃ Qc : Int32 → Sg → Prop, OkI PRG d 106 [.ref 15] σ Qc ∧ ∀ w2 σ1, Qc w2 σ1 → Rn PRG (d + 1) 114 137 [(0, .ref 15), (2, .int x2)] [] σ1 Q)))) ∧ (¬ (σ.1 15 5) = (17 : Int32) → Rn PRG (d + 1) 114 124 [(0, .ref 15), (2, .int x2)] [] σ Q))))))))) ∧ (¬ (σ.1 15 7) = 0 → Rn PRG (d + 1) 114 143 [(0, .ref 15)] [] σ Q))))) : Rn PRG (d + 1) 114 45 [(0, .ref 15), (2, .int x2)] [] σ Q := by
  have hM : PRG[114]? = some M_114 := rfl
  refine Rn.br (c := (400 : Int32) < x2) (a := 143) (b := 52) (ls' := [(0, .ref 15), (2, .int x2)]) (st' := []) (σ' := σ) hM 3 rfl (fun c => ?_) (fun c => ?_)
  · replace h := h.1 c
    refine Rn.seg (pc' := 143) (ls' := [(0, .ref 15), (2, .int x2)]) (st' := []) (σ' := σ) hM 0 rfl ?_
    exact Rn.sub h (subL_cons rfl subL_nil) (show ndL _ from (by decide : List.Nodup ([0] : List Nat)))
  · replace h := h.2 c
    refine Rn.brN (c := (σ.1 15 7) = 0) (a := 143) (b := 59) (ls' := [(0, .ref 15), (2, .int x2)]) (st' := []) (σ' := σ) hM 3 rfl (fun c => ?_) (fun c => ?_)
    · replace h := h.2 c
      refine Rn.seg (pc' := 143) (ls' := [(0, .ref 15), (2, .int x2)]) (st' := []) (σ' := σ) hM 0 rfl ?_
      exact Rn.sub h (subL_cons rfl subL_nil) (show ndL _ from (by decide : List.Nodup ([0] : List Nat)))
    · replace h := h.1 c
      refine Rn.br (c := (σ.1 15 5) = 0) (a := 143) (b := 66) (ls' := [(0, .ref 15), (2, .int x2)]) (st' := []) (σ' := σ) hM 3 rfl (fun c => ?_) (fun c => ?_)
      · replace h := h.1 c
        refine Rn.seg (pc' := 143) (ls' := [(0, .ref 15), (2, .int x2)]) (st' := []) (σ' := σ) hM 0 rfl ?_
        exact Rn.sub h (subL_cons rfl subL_nil) (show ndL _ from (by decide : List.Nodup ([0] : List Nat)))
      · replace h := h.2 c
        refine Rn.brN (c := (σ.1 15 5) = (15 : Int32)) (a := 82) (b := 75) (ls' := [(0, .ref 15), (2, .int x2)]) (st' := []) (σ' := σ) hM 4 rfl (fun c => ?_) (fun c => ?_)
        · replace h := h.2 c
          refine Rn.brN (c := (σ.1 15 5) = (16 : Int32)) (a := 98) (b := 91) (ls' := [(0, .ref 15), (2, .int x2)]) (st' := []) (σ' := σ) hM 4 rfl (fun c => ?_) (fun c => ?_)
          · replace h := h.2 c
            refine Rn.brN (c := (σ.1 15 5) = (17 : Int32)) (a := 124) (b := 107) (ls' := [(0, .ref 15), (2, .int x2)]) (st' := []) (σ' := σ) hM 4 rfl (fun c => ?_) (fun c => ?_)
            · replace h := h.2 c
              refine Rn.seg (pc' := 124) (ls' := [(0, .ref 15), (2, .int x2)]) (st' := []) (σ' := σ) hM 0 rfl ?_
              exact Rn.sub h (subL_cons rfl (subL_cons rfl subL_nil)) (show ndL _ from (by decide : List.Nodup ([0, 2] : List Nat)))
            · replace h := h.1 c
              refine Rn.br (c := (σ.1 15 6) < (6 : Int32)) (a := 124) (b := 116) (ls' := [(0, .ref 15), (2, .int x2)]) (st' := []) (σ' := σ) hM 4 rfl (fun c => ?_) (fun c => ?_)
              · replace h := h.1 c
                refine Rn.seg (pc' := 124) (ls' := [(0, .ref 15), (2, .int x2)]) (st' := []) (σ' := σ) hM 0 rfl ?_
                exact Rn.sub h (subL_cons rfl (subL_cons rfl subL_nil)) (show ndL _ from (by decide : List.Nodup ([0, 2] : List Nat)))
              · replace h := h.2 c
                refine Rn.seg (pc' := 117) (ls' := [(0, .ref 15), (2, .int x2)]) (st' := [.ref 15]) (σ' := σ) hM 1 rfl ?_
                obtain ⟨Qc, hq, h⟩ := h
                refine Rn.cI hM rfl rfl (by decide) hq (fun w2 σ1 hw => ?_)
                replace h := h w2 σ1 hw
                refine Rn.seg (pc' := 137) (ls' := [(0, .ref 15), (2, .int x2)]) (st' := []) (σ' := σ1) hM 2 rfl ?_
                exact Rn.sub h (subL_cons rfl (subL_cons rfl subL_nil)) (show ndL _ from (by decide : List.Nodup ([0, 2] : List Nat)))
          · replace h := h.1 c
            refine Rn.seg (pc' := 92) (ls' := [(0, .ref 15), (2, .int x2)]) (st' := [.ref 15]) (σ' := σ) hM 1 rfl ?_
            obtain ⟨Qc, hq, h⟩ := h
            refine Rn.cV hM rfl rfl (by decide) hq (fun σ3 hw => ?_)
            replace h := h σ3 hw
            refine Rn.seg (pc' := 137) (ls' := [(0, .ref 15), (2, .int x2)]) (st' := []) (σ' := σ3) hM 1 rfl ?_
            exact Rn.sub h (subL_cons rfl (subL_cons rfl subL_nil)) (show ndL _ from (by decide : List.Nodup ([0, 2] : List Nat)))
        · replace h := h.1 c
          refine Rn.seg (pc' := 76) (ls' := [(0, .ref 15), (2, .int x2)]) (st' := [.ref 15]) (σ' := σ) hM 1 rfl ?_
          obtain ⟨Qc, hq, h⟩ := h
          refine Rn.cV hM rfl rfl (by decide) hq (fun σ4 hw => ?_)
          replace h := h σ4 hw
          refine Rn.seg (pc' := 137) (ls' := [(0, .ref 15), (2, .int x2)]) (st' := []) (σ' := σ4) hM 1 rfl ?_
          exact Rn.sub h (subL_cons rfl (subL_cons rfl subL_nil)) (show ndL _ from (by decide : List.Nodup ([0, 2] : List Nat)))
set_option maxRecDepth 100000 in
theorem w_114_143 {d : Nat} {Q : Option Value → Sg → Prop} (σ : Sg) (h : (((σ.1 15 7) = 0 → (((σ.1 15 9) = 0 → Rn PRG (d + 1) 114 173 [(0, .ref 15)] [] σ Q) ∧ (¬ (σ.1 15 9) = 0 → Rn PRG (d + 1) 114 173 [(0, .ref 15)] [] (s1 (s1 σ 15 7 (σ.1 15 9)) 15 8 (σ.1 15 10)) Q))) ∧ (¬ (σ.1 15 7) = 0 → Rn PRG (d + 1) 114 173 [(0, .ref 15)] [] σ Q))) : Rn PRG (d + 1) 114 143 [(0, .ref 15)] [] σ Q := by
  have hM : PRG[114]? = some M_114 := rfl
  refine Rn.brN (c := (σ.1 15 7) = 0) (a := 173) (b := 150) (ls' := [(0, .ref 15)]) (st' := []) (σ' := σ) hM 3 rfl (fun c => ?_) (fun c => ?_)
  · replace h := h.2 c
    refine Rn.seg (pc' := 173) (ls' := [(0, .ref 15)]) (st' := []) (σ' := σ) hM 0 rfl ?_
    exact Rn.sub h (subL_cons rfl subL_nil) (show ndL _ from (by decide : List.Nodup ([0] : List Nat)))
  · replace h := h.1 c
    refine Rn.br (c := (σ.1 15 9) = 0) (a := 173) (b := 157) (ls' := [(0, .ref 15)]) (st' := []) (σ' := σ) hM 3 rfl (fun c => ?_) (fun c => ?_)
    · replace h := h.1 c
      refine Rn.seg (pc' := 173) (ls' := [(0, .ref 15)]) (st' := []) (σ' := σ) hM 0 rfl ?_
      exact Rn.sub h (subL_cons rfl subL_nil) (show ndL _ from (by decide : List.Nodup ([0] : List Nat)))
    · replace h := h.2 c
      refine Rn.seg (pc' := 173) (ls' := [(0, .ref 15)]) (st' := []) (σ' := (s1 (s1 σ 15 7 (σ.1 15 9)) 15 8 (σ.1 15 10))) hM 8 rfl ?_
      exact Rn.sub h (subL_cons rfl subL_nil) (show ndL _ from (by decide : List.Nodup ([0] : List Nat)))
set_option maxRecDepth 100000 in
theorem w_114_124 {d : Nat} {Q : Option Value → Sg → Prop} (σ : Sg) (x2 : Int32) (h : (∃ Qc : Int32 → Sg → Prop, OkI PRG d 101 [.ref 15, .int (17 : Int32)] σ Qc ∧ ∀ w2 σ1, Qc w2 σ1 → ((w2 = 0 → Rn PRG (d + 1) 114 137 [(0, .ref 15), (2, .int x2)] [] σ1 Q) ∧ (¬ w2 = 0 → (∃ Qc : Sg → Prop, OkV PRG d 113 [.ref 15] σ1 Qc ∧ ∀ σ3, Qc σ3 → Rn PRG (d + 1) 114 137 [(0, .ref 15), (2, .int x2)] [] σ3 Q))))) : Rn PRG (d + 1) 114 124 [(0, .ref 15), (2, .int x2)] [] σ Q := by
  have hM : PRG[114]? = some M_114 := rfl
  refine Rn.seg (pc' := 127) (ls' := [(0, .ref 15), (2, .int x2)]) (st' := [.int (17 : Int32), .ref 15]) (σ' := σ) hM 2 rfl ?_
  obtain ⟨Qc, hq, h⟩ := h
  refine Rn.cI hM rfl rfl (by decide) hq (fun w2 σ1 hw => ?_)
  replace h := h w2 σ1 hw
  refine Rn.br (c := w2 = 0) (a := 137) (b := 133) (ls' := [(0, .ref 15), (2, .int x2)]) (st' := []) (σ' := σ1) hM 1 rfl (fun c => ?_) (fun c => ?_)
  · replace h := h.1 c
    refine Rn.seg (pc' := 137) (ls' := [(0, .ref 15), (2, .int x2)]) (st' := []) (σ' := σ1) hM 0 rfl ?_
    exact Rn.sub h (subL_cons rfl (subL_cons rfl subL_nil)) (show ndL _ from (by decide : List.Nodup ([0, 2] : List Nat)))
  · replace h := h.2 c
    refine Rn.seg (pc' := 134) (ls' := [(0, .ref 15), (2, .int x2)]) (st' := [.ref 15]) (σ' := σ1) hM 1 rfl ?_
    obtain ⟨Qc, hq, h⟩ := h
    refine Rn.cV hM rfl rfl (by decide) hq (fun σ3 hw => ?_)
    replace h := h σ3 hw
    refine Rn.seg (pc' := 137) (ls' := [(0, .ref 15), (2, .int x2)]) (st' := []) (σ' := σ3) hM 0 rfl ?_
    exact Rn.sub h (subL_cons rfl (subL_cons rfl subL_nil)) (show ndL _ from (by decide : List.Nodup ([0, 2] : List Nat)))
set_option maxRecDepth 100000 in
theorem w_114_137 {d : Nat} {Q : Option Value → Sg → Prop} (σ : Sg) (x2 : Int32) (h : Rn PRG (d + 1) 114 45 [(0, .ref 15), (2, .int (x2 + (1 : Int32)))] [] σ Q) : Rn PRG (d + 1) 114 137 [(0, .ref 15), (2, .int x2)] [] σ Q := by
  have hM : PRG[114]? = some M_114 := rfl
  refine Rn.seg (pc' := 45) (ls' := [(2, .int (x2 + (1 : Int32))), (0, .ref 15)]) (st' := []) (σ' := σ) hM 2 rfl ?_
  exact Rn.sub h (subL_cons rfl (subL_cons rfl subL_nil)) (show ndL _ from (by decide : List.Nodup ([0, 2] : List Nat)))
set_option maxRecDepth 100000 in
theorem w_114_173 {d : Nat} {Q : Option Value → Sg → Prop} (σ : Sg) (h : Q (some (.int (σ.1 15 7))) σ) : Rn PRG (d + 1) 114 173 [(0, .ref 15)] [] σ Q := by
  have hM : PRG[114]? = some M_114 := rfl
  refine Rn.seg (pc' := 177) (ls' := [(0, .ref 15)]) (st' := [.int (σ.1 15 7)]) (σ' := σ) hM 2 rfl ?_
  exact Rn.ret hM rfl rfl h
/-! passes over a text -/
def mdPs : List (Nat × Nat × Nat) := [(8, 3, 10), (5, 0, 3), (5, 9, 9), (23, 0, 5), (24, 0, 5), (25, 0, 11), (26, 0, 11), (27, 0, 399)]
def PKv (a b : Int32) : Prop := 1 ≤ a.toInt ∧ a.toInt ≤ 4 ∧ 1 ≤ b.toInt ∧ b.toInt ≤ 16 ∧ a.toInt * b.toInt ≤ 16 ∧ (a.toInt * b.toInt) % 4 = 0
def TRv (a : Int32) : Prop := 0 ≤ a.toInt ∧ a.toInt ≤ 3
/-- a pack or a trump that is told at i is well told -/
def GPv (T : Nat → Int32) (val : Nat → Int64) (i : Nat) : Prop := (T i = 15 → PKv (val (i + 1)).toInt32 (val (i + 2)).toInt32) ∧ (T i = 16 → TRv (val (i + 1)).toInt32)
def LW (σ : Sg) : Prop := PKv (σ.1 3 0) (σ.1 3 1)
/-- the text that is passed over -/
def CX (T : Nat → Int32) (val : Nat → Int64) (σ : Sg) : Prop := (∀ i, i ≤ 401 → σ.1 18 i = T i) ∧ σ.2 20 = val
theorem CX.keep {T : Nat → Int32} {val : Nat → Int64} {σ σ' : Sg} {ms : List (Nat × Nat × Nat)} (h : CX T val σ) (g : Gl ms σ σ') (ho : offD ms [(36, 0, 401)] = true) (hl : σ'.2 20 = σ.2 20) : CX T val σ' :=
  ⟨fun i hi => by rw [g.get (q := 18) (κ := 36) rfl (off_in ho (inM_of (a := 0) (b := 401) List.mem_cons_self (by omega) hi))]; exact h.1 i hi, hl.trans h.2⟩
theorem IR.grow {m0 : Nat} {Gp : Nat → Prop} {σ σ' : Sg} (h : IR m0 Gp σ) (e18 : ∀ k, k ≤ 401 → σ'.1 18 k = σ.1 18 k) (hB : BS σ') (hle : (σ.1 15 4).toInt ≤ (σ'.1 15 4).toInt) (hnew : ∀ i : Nat, (σ.1 15 4).toInt ≤ (i : Int) → (i : Int) < (σ'.1 15 4).toInt → ¬ σ.1 18 i = 0) (h3 : (∀ i : Nat, (σ.1 15 4).toInt ≤ (i : Int) → (i : Int) < (σ'.1 15 4).toInt → (σ.1 18 i = 15 ∨ σ.1 18 i = 16) → Gp i) ∨ ¬ σ'.1 15 7 = 0 ∨ ¬ σ'.1 15 9 = 0) (m7 : ¬ σ.1 15 7 = 0 → ¬ σ'.1 15 7 = 0) (m9 : ¬ σ.1 15 9 = 0 → ¬ σ'.1 15 9 = 0) : IR m0 Gp σ' := by
  obtain ⟨a1, a2, a3, a4, a5, a6⟩ := h
  obtain ⟨b1, b2, b3⟩ := hB
  refine ⟨b1, b2, b3, by omega, fun i hi => ?_, ?_⟩
  · rw [e18 i (by omega)]
    by_cases hlt : (i : Int) < (σ.1 15 4).toInt
    · exact a5 i hlt
    · exact hnew i (by omega) hi
  · rcases a6 with a6 | a6 | a6
    · rcases h3 with h3 | h3
      · refine Or.inl (fun i hi hty => ?_)
        rw [e18 i (by omega)] at hty
        by_cases hlt : (i : Int) < (σ.1 15 4).toInt
        · exact a6 i hlt hty
        · exact h3 i (by omega) hi hty
      · exact Or.inr h3
    · exact Or.inr (Or.inl (m7 a6))
    · exact Or.inr (Or.inr (m9 a6))
/-- behind a statement -/
def RS (T : Nat → Int32) (val : Nat → Int64) (σ σ' : Sg) : Prop := Gl mdPs σ σ' ∧ IR 0 (GPv T val) σ' ∧ σ'.2 20 = σ.2 20 ∧ σ'.1 15 3 = σ.1 15 3 ∧ (σ'.1 15 7 = 0 → (σ.1 15 4).toInt + 1 ≤ (σ'.1 15 4).toInt) ∧ (LW σ → LW σ')
theorem LW.keep {σ σ' : Sg} (h : LW σ) (e0 : σ'.1 3 0 = σ.1 3 0) (e1 : σ'.1 3 1 = σ.1 3 1) : LW σ' := by
  unfold LW
  rw [e0, e1]
  exact h
theorem type_at {m0 : Nat} {Gp : Nat → Prop} {T : Nat → Int32} {val : Nat → Int64} {σ : Sg} (h : IR m0 Gp σ) (hC : CX T val σ) : σ.1 15 5 = T (wn (σ.1 15 4)) := by
  rw [h.1]
  exact hC.1 _ (by have := h.2.2.1; unfold wn; omega)
/-- the token taken by TK -/
theorem TK.ty {x1 w : Int32} {σ σ' : Sg} (h : TK x1 σ w σ') (hw : ¬ w = 0) : σ.1 15 5 = x1 ∧ (σ'.1 15 4).toInt = (σ.1 15 4).toInt + 1 ∧ σ'.1 15 7 = σ.1 15 7 := by
  rcases h.2.2.2.2 with ⟨-, h1⟩ | ⟨h1, -⟩
  · exact h1
  · exact absurd h1 hw
theorem TK.no {x1 w : Int32} {σ σ' : Sg} (h : TK x1 σ w σ') (hw : w = 0) : ¬ σ'.1 15 7 = 0 ∧ σ'.1 15 4 = σ.1 15 4 := by
  rcases h.2.2.2.2 with ⟨h1, -⟩ | ⟨-, h1⟩
  · rw [h1] at hw; exact absurd hw (by decide)
  · exact h1
section Pass
variable {T : Nat → Int32} {val : Nat → Int64}
theorem pack_68 {a : Nat} {w4 w6 : Int32} {σ σa : Sg} (ha : (σ.1 15 4).toInt = (a : Int)) (hI : IR 0 (GPv T val) σ) (hC : CX T val σ) (hw : ¬ σ.1 15 3 = 0 → GPv T val a) (h15 : T a = 15) (h3 : T (a + 1) = 3) (h4 : T (a + 2) = 3) (e4 : w4 = (val (a + 1)).toInt32) (e6 : w6 = (val (a + 2)).toInt32) (g : Gl mdNum σ σa) (hl : σa.2 = σ.2) (hB : BS σa) (hat : (σa.1 15 4).toInt = (a : Int) + 3) (h7 : σa.1 15 7 = σ.1 15 7) (m9 : ¬ σ.1 15 9 = 0 → ¬ σa.1 15 9 = 0) (hok : PKv w4 w6 ∨ ¬ σa.1 15 9 = 0) : Rn PRG (1 + 1) 104 68 [(0, .ref 15), (1, .int w4), (2, .int w6)] [] σa (fun v σ' => v = none ∧ RS T val σ σ') := by
  have hCa : CX T val σa := hC.keep g rfl (by rw [hl])
  have ha400 := hI.2.2.1
  have ha3 : a + 3 ≤ 400 := by have := hB.2.2; omega
  have tys : ∀ i : Nat, (a : Int) ≤ (i : Int) → (i : Int) < (a : Int) + 3 → (i = a ∧ σ.1 18 i = 15) ∨ (¬ i = a ∧ σ.1 18 i = 3) := by
    intro i i1 i2
    have : i = a ∨ i = a + 1 ∨ i = a + 2 := by omega
    rcases this with rfl | rfl | rfl
    · exact Or.inl ⟨rfl, by rw [hC.1 _ (by omega)]; exact h15⟩
    · exact Or.inr ⟨by omega, by rw [hC.1 _ (by omega)]; exact h3⟩
    · exact Or.inr ⟨by omega, by rw [hC.1 _ (by omega)]; exact h4⟩
  have gp : PKv w4 w6 → GPv T val a := fun h => ⟨fun _ => by rw [← e4, ← e6]; exact h, fun h16 => by rw [h15] at h16; exact absurd h16 (by decide)⟩
  refine w_104_68 σa w4 w6 ⟨_, take_OK g.1 hB, fun w2 σ1 hq => ?_⟩
  have g1 : Gl mdPs σ σ1 := (g.mono rfl : Gl mdPs σ σa).trans hq.1 rfl
  have e18 : ∀ k, k ≤ 401 → σ1.1 18 k = σ.1 18 k := fun k _ => g1.get (q := 18) (κ := 36) rfl rfl
  have w3 : σ1.1 15 3 = σ.1 15 3 := by rw [hq.1.get (q := 15) (κ := 8) rfl rfl, g.get (q := 15) (κ := 8) rfl rfl]
  have l1 : σ1.2 = σ.2 := hq.2.1.trans hl
  have e9 := hq.2.2.1
  have lw30 : σ1.1 3 0 = σ.1 3 0 := by rw [hq.1.get (q := 3) (κ := 5) rfl rfl, g.get (q := 3) (κ := 5) rfl rfl]
  have lw31 : σ1.1 3 1 = σ.1 3 1 := by rw [hq.1.get (q := 3) (κ := 5) rfl rfl, g.get (q := 3) (κ := 5) rfl rfl]
  refine ⟨fun hz => w_104_99 σ1 ⟨rfl, ?_⟩, fun hne => ?_⟩
  · obtain ⟨n7, n4⟩ := hq.no hz
    refine ⟨g1, hI.grow e18 hq.2.2.2.1 (by rw [n4]; omega) (fun i i1 i2 => ?_) (Or.inr (Or.inl n7)) (fun _ => n7) (fun h => by rw [e9]; exact m9 h), by rw [l1], w3, fun h => absurd h n7, fun h => h.keep lw30 lw31⟩
    rw [n4, hat] at i2
    rcases tys i (by omega) i2 with ⟨-, h⟩ | ⟨-, h⟩ <;> rw [h] <;> decide
  · obtain ⟨ty, at1, f1⟩ := hq.ty hne
    have t4 : T (a + 3) = 4 := by
      have hat3 : wn (σa.1 15 4) = a + 3 := by unfold wn; omega
      have b1 := hB.1
      rw [hat3, hCa.1 _ (by omega)] at b1
      rw [← b1]; exact ty
    have ir : IR 0 (GPv T val) σ1 := by
      refine hI.grow e18 hq.2.2.2.1 (by omega) (fun i i1 i2 => ?_) ?_ (fun h => by rw [f1, h7]; exact h) (fun h => by rw [e9]; exact m9 h)
      · by_cases hi3 : i = a + 3
        · rw [hi3, hC.1 _ (by omega), t4]; decide
        · rcases tys i (by omega) (by omega) with ⟨-, h⟩ | ⟨-, h⟩ <;> rw [h] <;> decide
      · rcases hok with hok | hok
        · refine Or.inl (fun i i1 i2 hty => ?_)
          by_cases hi3 : i = a + 3
          · rw [hi3, hC.1 _ (by omega), t4] at hty
            rcases hty with h | h <;> exact absurd h (by decide)
          · rcases tys i (by omega) (by omega) with ⟨hia, -⟩ | ⟨-, h⟩
            · rw [hia]; exact gp hok
            · rw [h] at hty
              rcases hty with h | h <;> exact absurd h (by decide)
        · exact Or.inr (Or.inr (by rw [e9]; exact hok))
    refine ⟨fun _ => w_104_99 σ1 ⟨rfl, g1, ir, by rw [l1], w3, fun _ => by omega, fun h => h.keep lw30 lw31⟩, fun hwr => ?_⟩
    have hpk : PKv w4 w6 := by
      have := (hw (by rw [← w3]; exact hwr)).1 h15
      rw [← e4, ← e6] at this
      exact this
    have k1 := wrG (x := w4) (q := 3) (k := 0) (κ := 5) (a := 0) (b := 0) (vl := 1) (vh := 4) rfl rfl g1 rfl (Nat.le_refl _) (Nat.le_refl _) hpk.1 hpk.2.1
    have k2 := wrG (x := w6) (q := 3) (k := 1) (κ := 5) (a := 1) (b := 1) (vl := 1) (vh := 16) rfl rfl k1 rfl (Nat.le_refl _) (Nat.le_refl _) hpk.2.2.1 hpk.2.2.2.1
    have f : ∀ q k, ¬ q = 3 → (s1 (s1 σ1 3 0 w4) 3 1 w6).1 q k = σ1.1 q k := fun q k h => by rw [s1_off (by omega), s1_off (by omega)]
    refine w_104_99 _ ⟨rfl, k2, ir.frame (fun q κ k hq hk => f q k (fun e => ?_)), by show σ1.2 20 = _; rw [l1], by rw [f 15 3 (by omega)]; exact w3, fun _ => by rw [f 15 4 (by omega)]; omega, fun _ => ?_⟩
    · subst e
      have h9 : kdn 3 = some 5 := rfl
      rw [h9] at hq; cases hq; cases hk
    · unfold LW
      rw [s1_off (by omega), s1_on, s1_on]
      exact hpk
theorem readPack_OK {σ : Sg} (ht : typed TYP σ) (hI : IR 0 (GPv T val) σ) (hC : CX T val σ) (h15 : σ.1 15 5 = 15) (hw : ¬ σ.1 15 3 = 0 → GPv T val (wn (σ.1 15 4))) : OkV PRG 2 104 [.ref 15] σ (RS T val σ) := by
  have k1 : (1 : Int32).toInt = 1 := by decide
  have k4 : (4 : Int32).toInt = 4 := by decide
  have k16 : (16 : Int32).toInt = 16 := by decide
  have ha : (σ.1 15 4).toInt = ((wn (σ.1 15 4) : Nat) : Int) := by have := hI.2.1; unfold wn; omega
  have t15 : T (wn (σ.1 15 4)) = 15 := by rw [← type_at hI hC]; exact h15
  generalize wn (σ.1 15 4) = a at ha t15 hw
  have ha400 := hI.2.2.1
  have s15 : σ.1 18 a = 15 := by rw [hC.1 _ (by omega)]; exact t15
  -- a fault or a later one: the way out
  have out : ∀ σ' : Sg, Gl mdNum σ σ' → σ'.2 = σ.2 → BS σ' → (σ.1 15 4).toInt ≤ (σ'.1 15 4).toInt → (σ'.1 15 7 = 0 → (σ.1 15 4).toInt + 1 ≤ (σ'.1 15 4).toInt) → (∀ i : Nat, (σ.1 15 4).toInt ≤ (i : Int) → (i : Int) < (σ'.1 15 4).toInt → ¬ σ.1 18 i = 0) → (¬ σ'.1 15 7 = 0 ∨ ¬ σ'.1 15 9 = 0) → (¬ σ.1 15 7 = 0 → ¬ σ'.1 15 7 = 0) → (¬ σ.1 15 9 = 0 → ¬ σ'.1 15 9 = 0) → RS T val σ σ' := by
    intro σ' g l b le le1 nw bad m7 m9
    exact ⟨g.mono rfl, hI.grow (fun k _ => g.get (q := 18) (κ := 36) rfl rfl) b le nw (Or.inr bad) m7 m9, by rw [l], g.get (q := 15) (κ := 8) rfl rfl, le1, fun h => h.keep (g.get (q := 3) (κ := 5) rfl rfl) (g.get (q := 3) (κ := 5) rfl rfl)⟩
  refine ⟨M_104, rfl, Nat.le_of_ble_eq_true rfl, w_104_0 σ ⟨_, take_OK ht hI.bs, fun w2 σ1 hq => ?_⟩⟩
  have g1 : Gl mdNum σ σ1 := hq.1.mono rfl
  have l1 := hq.2.1
  have e9 := hq.2.2.1
  have b1 := hq.2.2.2.1
  refine ⟨fun hz => ⟨rfl, ?_⟩, fun hne => ?_⟩
  · obtain ⟨n7, n4⟩ := hq.no hz
    exact out σ1 g1 l1 b1 (by rw [n4]; exact Int.le_refl _) (fun h => absurd h n7) (fun i i1 i2 => by rw [n4] at i2; omega) (Or.inl n7) (fun _ => n7) (by rw [e9]; exact id)
  obtain ⟨-, at1, f1⟩ := hq.ty hne
  have hC1 : CX T val σ1 := hC.keep g1 rfl (by rw [l1])
  have wn1 : wn (σ1.1 15 4) = a + 1 := by unfold wn; omega
  refine ⟨_, number_OK (d := 0) g1.1 b1, fun w4 σ3 hq3 => ?_⟩
  obtain ⟨g3, l3, m3, b3, hq3⟩ := hq3
  have g13 : Gl mdNum σ σ3 := g1.trans g3 rfl
  have l13 := l3.trans l1
  have hC3 : CX T val σ3 := hC.keep g13 rfl (by rw [l13])
  rw [wn1, l1, hC.2] at hq3
  have m13 : ¬ σ.1 15 9 = 0 → ¬ σ3.1 15 9 = 0 := fun h => m3 (by rw [e9]; exact h)
  refine ⟨fun hneg => ⟨rfl, ?_⟩, fun hpos => ?_⟩
  · rw [z_lt] at hneg
    rcases hq3 with ⟨-, n7, n4⟩ | ⟨ty3, at3, f3, -, hr⟩
    · exact out σ3 g13 l13 b3 (by rw [n4]; omega) (fun h => absurd h n7) (fun i i1 i2 => by
        rw [n4] at i2
        have : i = a := by omega
        rw [this, s15]; decide) (Or.inl n7) (fun _ => n7) m13
    · have bad : ¬ σ3.1 15 9 = 0 := by
        rcases hr with hr | hr
        · rw [k1] at hr; omega
        · exact hr
      have s3 : σ.1 18 (a + 1) = 3 := by
        have := b1.1
        rw [wn1, g1.get (q := 18) (κ := 36) rfl rfl] at this
        rw [← this]; exact ty3
      exact out σ3 g13 l13 b3 (by omega) (fun _ => by omega) (fun i i1 i2 => by
        have : i = a ∨ i = a + 1 := by omega
        rcases this with rfl | rfl
        · rw [s15]; decide
        · rw [s3]; decide) (Or.inr bad) (fun h => by rw [f3, f1]; exact h) m13
  rw [z_lt] at hpos
  have hq3 : σ1.1 15 5 = 3 ∧ (σ3.1 15 4).toInt = (σ1.1 15 4).toInt + 1 ∧ σ3.1 15 7 = σ1.1 15 7 ∧ w4 = (val (a + 1)).toInt32 ∧ (((1 : Int32).toInt ≤ w4.toInt ∧ w4.toInt ≤ (4 : Int32).toInt) ∨ ¬ σ3.1 15 9 = 0) := by
    rcases hq3 with ⟨h, -⟩ | h
    · rw [h] at hpos; exact absurd (by decide) hpos
    · exact h
  obtain ⟨ty3, at3, f3, v4, r4⟩ := hq3
  rw [k1, k4] at r4
  have s3 : σ.1 18 (a + 1) = 3 := by
    have := b1.1
    rw [wn1, g1.get (q := 18) (κ := 36) rfl rfl] at this
    rw [← this]; exact ty3
  have t3 : T (a + 1) = 3 := by rw [← hC.1 _ (by have := b1.2.2; omega)]; exact s3
  have wn3 : wn (σ3.1 15 4) = a + 2 := by unfold wn; omega
  refine ⟨_, number_OK (d := 0) g13.1 b3, fun w6 σ5 hq5 => ?_⟩
  obtain ⟨g5, l5, m5, b5, hq5⟩ := hq5
  have g15 : Gl mdNum σ σ5 := g13.trans g5 rfl
  have l15 := l5.trans l13
  rw [wn3, l13, hC.2] at hq5
  have m15 : ¬ σ.1 15 9 = 0 → ¬ σ5.1 15 9 = 0 := fun h => m5 (m13 h)
  have s4' : σ3.1 15 5 = 3 → σ.1 18 (a + 2) = 3 := by
    intro h
    have := b3.1
    rw [wn3, g13.get (q := 18) (κ := 36) rfl rfl] at this
    rw [← this]; exact h
  refine ⟨fun h6 => ?_, fun h6 => ⟨rfl, ?_⟩⟩
  · rw [z_le] at h6
    have hq5 : σ3.1 15 5 = 3 ∧ (σ5.1 15 4).toInt = (σ3.1 15 4).toInt + 1 ∧ σ5.1 15 7 = σ3.1 15 7 ∧ w6 = (val (a + 2)).toInt32 ∧ (((1 : Int32).toInt ≤ w6.toInt ∧ w6.toInt ≤ (16 : Int32).toInt) ∨ ¬ σ5.1 15 9 = 0) := by
      rcases hq5 with ⟨h, -⟩ | h
      · rw [h] at h6; exact absurd h6 (by decide)
      · exact h
    obtain ⟨ty5, at5, f5, v6, r6⟩ := hq5
    rw [k1, k16] at r6
    have s5 := s4' ty5
    have t5 : T (a + 2) = 3 := by rw [← hC.1 _ (by have := b3.2.2; omega)]; exact s5
    have f15 : σ5.1 15 7 = σ.1 15 7 := by rw [f5, f3, f1]
    have hrng : (PKv w4 w6 ∨ ¬ σ5.1 15 9 = 0) ∨ ((1 ≤ w4.toInt ∧ w4.toInt ≤ 4) ∧ (1 ≤ w6.toInt ∧ w6.toInt ≤ 16)) := by
      rcases r4 with r4 | r4
      · rcases r6 with r6 | r6
        · exact Or.inr ⟨r4, r6⟩
        · exact Or.inl (Or.inr r6)
      · exact Or.inl (Or.inr (m5 r4))
    have bad : Rn PRG (1 + 1) 104 57 [(0, .ref 15), (1, .int w4), (2, .int w6)] [] σ5 (fun v σ' => v = none ∧ RS T val σ σ') := by
      have es : ((σ5.1 15 4) - (1 : Int32)).toInt = (σ5.1 15 4).toInt - 1 := by
        have := b5.2
        rw [sub_ex (by rw [k1]; unfold FL; omega) (by rw [k1]; unfold FH; omega), k1]
      have := b5.2
      refine w_104_57 σ5 w4 w6 ⟨_, refuse_OK g15.1 (by decide) (by rw [es]; omega), fun σ7 hq7 => ?_⟩
      obtain ⟨g7, l7, n7⟩ := hq7
      have h4 : σ7.1 15 4 = σ5.1 15 4 := g7.get (q := 15) (κ := 8) rfl rfl
      have h5 : σ7.1 15 5 = σ5.1 15 5 := g7.get (q := 15) (κ := 8) rfl rfl
      have h7 : σ7.1 15 7 = σ5.1 15 7 := g7.get (q := 15) (κ := 8) rfl rfl
      exact pack_68 ha hI hC hw t15 t3 t5 v4 v6 (g15.trans g7 rfl) (l7.trans l15) ⟨by rw [h5, h4, g7.get (q := 18) (κ := 36) rfl rfl]; exact b5.1, by rw [h4]; exact b5.2.1, by rw [h4]; exact b5.2.2⟩ (by rw [h4]; omega) (by rw [h7]; exact f15) (fun _ => n7) (Or.inr n7)
    have hm : (1 ≤ w4.toInt ∧ w4.toInt ≤ 4) ∧ (1 ≤ w6.toInt ∧ w6.toInt ≤ 16) → (w4 * w6).toInt = w4.toInt * w6.toInt := by
      intro h
      have : 1 ≤ w4.toInt * w6.toInt ∧ w4.toInt * w6.toInt ≤ 64 := by
        have h4 : w4.toInt = 1 ∨ w4.toInt = 2 ∨ w4.toInt = 3 ∨ w4.toInt = 4 := by omega
        rcases h4 with h4 | h4 | h4 | h4 <;> rw [h4] <;> omega
      exact mul_ex (by unfold FL; omega) (by unfold FH; omega)
    refine ⟨fun _ => bad, fun c16 => ⟨fun c4 => ?_, fun _ => bad⟩⟩
    refine pack_68 ha hI hC hw t15 t3 t5 v4 v6 g15 l15 b5 (by omega) f15 m15 ?_
    rcases hrng with h | h
    · exact h
    · refine Or.inl ⟨h.1.1, h.1.2, h.2.1, h.2.2, ?_, ?_⟩
      · rw [lt_i k16 (hm h)] at c16; omega
      · have hp : 0 ≤ w4.toInt * w6.toInt := Int.mul_nonneg (by omega) (by omega)
        have e4 : ((w4 * w6) - (w4 * w6) / (4 : Int32) * (4 : Int32)).toInt = (w4.toInt * w6.toInt) % 4 := by
          rw [rem_ex (by decide), hm h, k4, Int.tmod_eq_emod_of_nonneg hp]
        rw [zq_i, e4] at c4
        exact c4
  · rw [z_le] at h6
    rcases hq5 with ⟨-, n7, n4⟩ | ⟨ty5, at5, f5, -, hr⟩
    · exact out σ5 g15 l15 b5 (by rw [n4]; omega) (fun h => absurd h n7) (fun i i1 i2 => by
        rw [n4] at i2
        have : i = a ∨ i = a + 1 := by omega
        rcases this with rfl | rfl
        · rw [s15]; decide
        · rw [s3]; decide) (Or.inl n7) (fun _ => n7) m15
    · have bad : ¬ σ5.1 15 9 = 0 := by
        rcases hr with hr | hr
        · rw [k1] at hr; omega
        · exact hr
      have s5 := s4' ty5
      exact out σ5 g15 l15 b5 (by omega) (fun _ => by omega) (fun i i1 i2 => by
        have : i = a ∨ i = a + 1 ∨ i = a + 2 := by omega
        rcases this with rfl | rfl | rfl
        · rw [s15]; decide
        · rw [s3]; decide
        · rw [s5]; decide) (Or.inr bad) (fun h => by rw [f5, f3, f1]; exact h) m15
theorem readTrump_OK {σ : Sg} (ht : typed TYP σ) (hI : IR 0 (GPv T val) σ) (hC : CX T val σ) (h16 : σ.1 15 5 = 16) (hw : ¬ σ.1 15 3 = 0 → GPv T val (wn (σ.1 15 4))) : OkV PRG 2 105 [.ref 15] σ (RS T val σ) := by
  have k0 : (0 : Int32).toInt = 0 := by decide
  have k3 : (3 : Int32).toInt = 3 := by decide
  have ha : (σ.1 15 4).toInt = ((wn (σ.1 15 4) : Nat) : Int) := by have := hI.2.1; unfold wn; omega
  have t16 : T (wn (σ.1 15 4)) = 16 := by rw [← type_at hI hC]; exact h16
  generalize wn (σ.1 15 4) = a at ha t16 hw
  have ha400 := hI.2.2.1
  have s16 : σ.1 18 a = 16 := by rw [hC.1 _ (by omega)]; exact t16
  have out : ∀ σ' : Sg, Gl mdNum σ σ' → σ'.2 = σ.2 → BS σ' → (σ.1 15 4).toInt ≤ (σ'.1 15 4).toInt → (σ'.1 15 7 = 0 → (σ.1 15 4).toInt + 1 ≤ (σ'.1 15 4).toInt) → (∀ i : Nat, (σ.1 15 4).toInt ≤ (i : Int) → (i : Int) < (σ'.1 15 4).toInt → ¬ σ.1 18 i = 0) → ((∀ i : Nat, (σ.1 15 4).toInt ≤ (i : Int) → (i : Int) < (σ'.1 15 4).toInt → (σ.1 18 i = 15 ∨ σ.1 18 i = 16) → GPv T val i) ∨ ¬ σ'.1 15 7 = 0 ∨ ¬ σ'.1 15 9 = 0) → (¬ σ.1 15 7 = 0 → ¬ σ'.1 15 7 = 0) → (¬ σ.1 15 9 = 0 → ¬ σ'.1 15 9 = 0) → RS T val σ σ' := by
    intro σ' g l b le le1 nw bad m7 m9
    exact ⟨g.mono rfl, hI.grow (fun k _ => g.get (q := 18) (κ := 36) rfl rfl) b le nw bad m7 m9, by rw [l], g.get (q := 15) (κ := 8) rfl rfl, le1, fun h => h.keep (g.get (q := 3) (κ := 5) rfl rfl) (g.get (q := 3) (κ := 5) rfl rfl)⟩
  refine ⟨M_105, rfl, Nat.le_of_ble_eq_true rfl, w_105_0 σ ⟨_, take_OK ht hI.bs, fun w2 σ1 hq => ?_⟩⟩
  have g1 : Gl mdNum σ σ1 := hq.1.mono rfl
  have l1 := hq.2.1
  have e9 := hq.2.2.1
  have b1 := hq.2.2.2.1
  refine ⟨fun hz => w_105_47 σ1 ⟨rfl, ?_⟩, fun hne => ?_⟩
  · obtain ⟨n7, n4⟩ := hq.no hz
    exact out σ1 g1 l1 b1 (by rw [n4]; exact Int.le_refl _) (fun h => absurd h n7) (fun i i1 i2 => by rw [n4] at i2; omega) (Or.inr (Or.inl n7)) (fun _ => n7) (by rw [e9]; exact id)
  obtain ⟨-, at1, f1⟩ := hq.ty hne
  have wn1 : wn (σ1.1 15 4) = a + 1 := by unfold wn; omega
  refine ⟨_, number_OK (d := 0) g1.1 b1, fun w4 σ3 hq3 => ?_⟩
  obtain ⟨g3, l3, m3, b3, hq3⟩ := hq3
  have g13 : Gl mdNum σ σ3 := g1.trans g3 rfl
  have l13 := l3.trans l1
  rw [wn1, l1, hC.2] at hq3
  have m13 : ¬ σ.1 15 9 = 0 → ¬ σ3.1 15 9 = 0 := fun h => m3 (by rw [e9]; exact h)
  have s3' : σ1.1 15 5 = 3 → σ.1 18 (a + 1) = 3 := by
    intro h
    have := b1.1
    rw [wn1, g1.get (q := 18) (κ := 36) rfl rfl] at this
    rw [← this]; exact h
  refine ⟨fun hneg => w_105_47 σ3 ⟨rfl, ?_⟩, fun hpos => ?_⟩
  · rw [z_lt] at hneg
    rcases hq3 with ⟨-, n7, n4⟩ | ⟨ty3, at3, f3, -, hr⟩
    · exact out σ3 g13 l13 b3 (by rw [n4]; omega) (fun h => absurd h n7) (fun i i1 i2 => by
        rw [n4] at i2
        have : i = a := by omega
        rw [this, s16]; decide) (Or.inr (Or.inl n7)) (fun _ => n7) m13
    · have bad : ¬ σ3.1 15 9 = 0 := by
        rcases hr with hr | hr
        · rw [k0] at hr; omega
        · exact hr
      have s3 := s3' ty3
      exact out σ3 g13 l13 b3 (by omega) (fun _ => by omega) (fun i i1 i2 => by
        have : i = a ∨ i = a + 1 := by omega
        rcases this with rfl | rfl
        · rw [s16]; decide
        · rw [s3]; decide) (Or.inr (Or.inr bad)) (fun h => by rw [f3, f1]; exact h) m13
  rw [z_lt] at hpos
  have hq3 : σ1.1 15 5 = 3 ∧ (σ3.1 15 4).toInt = (σ1.1 15 4).toInt + 1 ∧ σ3.1 15 7 = σ1.1 15 7 ∧ w4 = (val (a + 1)).toInt32 ∧ (((0 : Int32).toInt ≤ w4.toInt ∧ w4.toInt ≤ (3 : Int32).toInt) ∨ ¬ σ3.1 15 9 = 0) := by
    rcases hq3 with ⟨h, -⟩ | h
    · rw [h] at hpos; exact absurd (by decide) hpos
    · exact h
  obtain ⟨ty3, at3, f3, v4, r4⟩ := hq3
  rw [k0, k3] at r4
  have s3 := s3' ty3
  have t3 : T (a + 1) = 3 := by rw [← hC.1 _ (by have := b1.2.2; omega)]; exact s3
  have wn3 : wn (σ3.1 15 4) = a + 2 := by unfold wn; omega
  refine ⟨_, take_OK g13.1 b3, fun w6 σ5 hq5 => ?_⟩
  have g15 : Gl mdNum σ σ5 := g13.trans hq5.1 rfl
  have l15 := hq5.2.1.trans l13
  have e95 := hq5.2.2.1
  have b5 := hq5.2.2.2.1
  have m15 : ¬ σ.1 15 9 = 0 → ¬ σ5.1 15 9 = 0 := fun h => by rw [e95]; exact m13 h
  refine ⟨fun hz => w_105_47 σ5 ⟨rfl, ?_⟩, fun hne5 => ?_⟩
  · obtain ⟨n7, n4⟩ := hq5.no hz
    exact out σ5 g15 l15 b5 (by rw [n4]; omega) (fun h => absurd h n7) (fun i i1 i2 => by
      rw [n4] at i2
      have : i = a ∨ i = a + 1 := by omega
      rcases this with rfl | rfl
      · rw [s16]; decide
      · rw [s3]; decide) (Or.inr (Or.inl n7)) (fun _ => n7) m15
  obtain ⟨ty5, at5, f5⟩ := hq5.ty hne5
  have s4 : σ.1 18 (a + 2) = 4 := by
    have := b3.1
    rw [wn3, g13.get (q := 18) (κ := 36) rfl rfl] at this
    rw [← this]; exact ty5
  have rs : RS T val σ σ5 := by
    refine out σ5 g15 l15 b5 (by omega) (fun _ => by omega) (fun i i1 i2 => ?_) ?_ (fun h => by rw [f5, f3, f1]; exact h) m15
    · have : i = a ∨ i = a + 1 ∨ i = a + 2 := by omega
      rcases this with rfl | rfl | rfl
      · rw [s16]; decide
      · rw [s3]; decide
      · rw [s4]; decide
    · rcases r4 with r4 | r4
      · refine Or.inl (fun i i1 i2 hty => ?_)
        have : i = a ∨ i = a + 1 ∨ i = a + 2 := by omega
        rcases this with rfl | rfl | rfl
        · exact ⟨fun h => by rw [t16] at h; exact absurd h (by decide), fun _ => by rw [← v4]; exact r4⟩
        · rw [s3] at hty
          rcases hty with h | h <;> exact absurd h (by decide)
        · rw [s4] at hty
          rcases hty with h | h <;> exact absurd h (by decide)
      · exact Or.inr (Or.inr (by rw [e95]; exact r4))
  refine ⟨fun _ => w_105_47 σ5 ⟨rfl, rs⟩, fun hwr => ?_⟩
  obtain ⟨g, ir, lr, w3, le, lw⟩ := rs
  have htr : TRv w4 := by
    have := (hw (by rw [← w3]; exact hwr)).2 t16
    rw [← v4] at this
    exact this
  have kk1 := wrG (x := w4) (q := 3) (k := 2) (κ := 5) (a := 2) (b := 2) (vl := -1) (vh := 3) rfl rfl g rfl (Nat.le_refl _) (Nat.le_refl _) (by have := htr.1; omega) htr.2
  have f : ∀ q k, ¬ q = 3 → (s1 σ5 3 2 w4).1 q k = σ5.1 q k := fun q k h => s1_off (by omega)
  refine w_105_47 _ ⟨rfl, kk1, ir.frame (fun q κ k hq hk => f q k (fun e => ?_)), lr, by rw [f 15 3 (by omega)]; exact w3, fun h => by rw [f 15 4 (by omega)]; rw [f 15 7 (by omega)] at h; exact le h, fun h => (lw h).keep (s1_off (by omega)) (s1_off (by omega))⟩
  subst e
  have h9 : kdn 3 = some 5 := rfl
  rw [h9] at hq; cases hq; cases hk
end Pass
/-- behind a call in a custom -/
def mdCu : List (Nat × Nat × Nat) := [(8, 4, 10), (5, 3, 3), (5, 9, 9), (23, 0, 5), (24, 0, 5), (25, 0, 11), (26, 0, 11), (27, 0, 399)]
def RC (a : Nat) (Gp : Nat → Prop) (σ σ' : Sg) : Prop := Gl mdCu σ σ' ∧ IR a Gp σ' ∧ σ'.2 20 = σ.2 20
theorem readName_OK {m0 : Nat} {Gp : Nat → Prop} {σ : Sg} (ht : typed TYP σ) (hI : IR m0 Gp σ) : OkI PRG 1 107 [.ref 15] σ (fun w σ' => Gl mdNum σ σ' ∧ IR m0 Gp σ' ∧ σ'.2 20 = σ.2 20 ∧ (¬ w = 0 → (σ'.1 15 6).toInt ≤ 5)) := by
  have hin : inR (σ.1 15 4) 402 = true := inR_ok hI.2.1 (by have := hI.2.2.1; omega)
  have k6 : (6 : Int32).toInt = 6 := by decide
  have k1 : (1 : Int32).toInt = 1 := by decide
  refine ⟨M_107, rfl, Nat.le_of_ble_eq_true rfl, w_107_0 σ ⟨hin, _, take_OK ht hI.bs, fun w2 σ1 hq => ?_⟩⟩
  have ir := hq.ir hI (by decide) (by decide) (by decide)
  have g1 : Gl mdNum σ σ1 := hq.1.mono rfl
  have l1 : σ1.2 20 = σ.2 20 := by rw [hq.2.1]
  refine ⟨fun _ => w_107_30 σ1 ⟨0, rfl, g1, ir, l1, fun h => absurd rfl h⟩, fun hne => ⟨fun c6 => ?_, fun _ => w_107_30 σ1 ⟨0, rfl, g1, ir, l1, fun h => absurd rfl h⟩⟩⟩
  obtain ⟨-, at1, -⟩ := hq.ty hne
  rw [lt_i rfl k6] at c6
  have cu0 := (tyF g1.1 (q := 15) (κ := 8) (k := 6) (lo := 0) (hi := 6) rfl rfl).1
  generalize σ.2 20 (σ.1 15 4).toNatClampNeg = nm
  have loop : ∀ (n : Nat) (x3 : Int32) (σa : Sg), 0 ≤ x3.toInt → x3.toInt ≤ (σ1.1 15 6).toInt → (σ1.1 15 6).toInt - x3.toInt < (n : Int) → Gl mdNum σ σa → IR m0 Gp σa → σa.2 20 = σ.2 20 → σa.1 15 4 = σ1.1 15 4 → σa.1 15 6 = σ1.1 15 6 → Rn PRG (0 + 1) 107 34 [(0, .ref 15), (1, .long nm), (3, .int x3)] [] σa (fun v σ' => ∃ w : Int32, v = some (.int w) ∧ Gl mdNum σ σ' ∧ IR m0 Gp σ' ∧ σ'.2 20 = σ.2 20 ∧ (¬ w = 0 → (σ'.1 15 6).toInt ≤ 5)) := by
    intro n
    induction n with
    | zero => intro x3 σa h1 h2 h3; omega
    | succ n ih =>
      intro x3 σa h1 h2 h3 ga ia la a4 a6
      have e1 : x3.toInt < (σ1.1 15 6).toInt → (x3 + (1 : Int32)).toInt = x3.toInt + 1 := fun h => add_lit rfl k1 (by unfold FL; omega) (by unfold FH; omega)
      refine w_107_34 σa x3 nm ⟨fun c => ⟨by rw [a6]; exact inR_ok cu0 (by omega), 1, rfl, ga, ia, ?_, fun _ => by show (σa.1 15 6).toInt ≤ 5; rw [a6]; omega⟩, fun c => ?_⟩
      · exact ((s2_ne σa nm (show (20 : Nat) ≠ 16 by decide)).2).symm.trans la
      rw [le_i (by rw [a6]) rfl] at c
      refine ⟨inR_ok h1 (by omega), fun _ => ?_, fun _ => w_107_64 σa x3 nm (ih _ _ (by rw [e1 (by omega)]; omega) (by rw [e1 (by omega)]; omega) (by rw [e1 (by omega)]; omega) ga ia la a4 a6)⟩
      have es : ((σa.1 15 4) - (1 : Int32)).toInt = (σ.1 15 4).toInt := by
        have := hI.2.1
        have := hI.2.2.1
        rw [a4, sub_ex (by rw [k1]; unfold FL; omega) (by rw [k1]; unfold FH; omega), k1]; omega
      refine ⟨_, refuse_OK ga.1 (by decide) (by rw [es]; have := hI.2.1; have := hI.2.2.1; omega), fun σb hb => ?_⟩
      obtain ⟨gb, lb, n9⟩ := hb
      have f4 : σb.1 15 4 = σa.1 15 4 := gb.get (q := 15) (κ := 8) rfl rfl
      have f5 : σb.1 15 5 = σa.1 15 5 := gb.get (q := 15) (κ := 8) rfl rfl
      have ib : IR m0 Gp σb := by
        obtain ⟨a1, a2, a3, a7, a8, a9⟩ := ia
        have e18 : ∀ k, σb.1 18 k = σa.1 18 k := fun k => gb.get (q := 18) (κ := 36) rfl rfl
        exact ⟨by rw [f5, f4, e18]; exact a1, by rw [f4]; exact a2, by rw [f4]; exact a3, by rw [f4]; exact a7, fun i hi => by rw [e18]; rw [f4] at hi; exact a8 i hi, Or.inr (Or.inr n9)⟩
      exact w_107_64 σb x3 nm (ih _ _ (by rw [e1 (by omega)]; omega) (by rw [e1 (by omega)]; omega) (by rw [e1 (by omega)]; omega) (ga.trans gb rfl) ib (by rw [lb]; exact la) (f4.trans a4) ((gb.get (q := 15) (κ := 8) rfl rfl).trans a6))
  exact loop 7 0 σ1 (by decide) cu0 (by have : (0 : Int32).toInt = 0 := by decide
                                        omega) g1 ir l1 rfl rfl
theorem clamp2 (x : Int32) : ∃ K : Int32, (if (0 : Int32) < (if x < (2 : Int32) then x else (2 : Int32)) then (if x < (2 : Int32) then x else (2 : Int32)) else (0 : Int32)) = K ∧ 0 ≤ K.toInt ∧ K.toInt ≤ 2 := by
  refine ⟨_, rfl, ?_, ?_⟩ <;> split <;> rename_i h <;> (try split) <;> rename_i h2 <;> simp only [Int32.lt_iff_toInt_lt] at * <;> simp_all <;> omega
theorem cond_OK {m0 : Nat} {Gp : Nat → Prop} {σ : Sg} (ht : typed TYP σ) (hI : IR m0 Gp σ) : OkI PRG 17 112 [.ref 15] σ (fun _ σ' => Gl (spMods sp_112r) σ σ' ∧ IR m0 Gp σ' ∧ σ'.2 = σ.2) :=
  Ok.mono (Ok.longs (S := [112, 111, 110, 109, 108, 103, 102, 101, 106, 72, 1000, 1001]) (by decide +kernel) (by decide) (c_112r.atI ht hI (avsC ⟨15, rfl, rfl⟩ avsN) rfl rfl rfl)) (fun v σ' h => by
    obtain ⟨h1, w, h2, h3, h4, -⟩ := h
    exact ⟨w, h2, h3, h4, h1⟩)
theorem readCustom_OK {m0 : Nat} {Gp : Nat → Prop} {σ : Sg} (ht : typed TYP σ) (hI : IR m0 Gp σ) : OkV PRG 18 113 [.ref 15] σ (RC m0 Gp σ) := by
  have sk : ∀ {σa w σb} {x : Int32}, RC m0 Gp σ σa → TK x σa w σb → (x.toInt = 4 ∨ 18 ≤ x.toInt) → RC m0 Gp σ σb := by
    intro σa w σb x h hk hx
    have hne : ∀ y : Int32, (y = 0 ∨ y = 15 ∨ y = 16) → ¬ x = y := by
      intro y hy e
      rw [e] at hx
      rcases hy with rfl | rfl | rfl
      · have : (0 : Int32).toInt = 0 := by decide
        omega
      · have : (15 : Int32).toInt = 15 := by decide
        omega
      · have : (16 : Int32).toInt = 16 := by decide
        omega
    exact ⟨h.1.trans hk.1 rfl, hk.ir h.2.1 (hne 0 (Or.inl rfl)) (hne 15 (Or.inr (Or.inl rfl))) (hne 16 (Or.inr (Or.inr rfl))), by rw [hk.2.1]; exact h.2.2⟩
  have sc : ∀ {σa σb}, RC m0 Gp σ σa → (Gl (spMods sp_112r) σa σb ∧ IR m0 Gp σb ∧ σb.2 = σa.2) → RC m0 Gp σ σb := by
    intro σa σb h hk
    exact ⟨h.1.trans hk.1 rfl, hk.2.1, by rw [hk.2.2]; exact h.2.2⟩
  have q84 : ∀ σa, RC m0 Gp σ σa → Rn PRG (17 + 1) 113 84 [] [] σa (fun v σ' => v = none ∧ RC m0 Gp σ σ') := fun σa h => w_113_84 σa ⟨rfl, h⟩
  have q118 : ∀ σa, RC m0 Gp σ σa → Rn PRG (17 + 1) 113 118 [] [] σa (fun v σ' => v = none ∧ RC m0 Gp σ σ') := fun σa h => w_113_118 σa ⟨rfl, h⟩
  have q138 : ∀ σa, RC m0 Gp σ σa → (σa.1 15 6).toInt ≤ 5 → Rn PRG (17 + 1) 113 138 [(0, .ref 15)] [] σa (fun v σ' => v = none ∧ RC m0 Gp σ σ') := by
    intro σa h h5
    have cu0 := (tyF h.1.1 (q := 15) (κ := 8) (k := 6) (lo := 0) (hi := 6) rfl rfl).1
    have e1 : ((σa.1 15 6) + (1 : Int32)).toInt = (σa.1 15 6).toInt + 1 := add_lit rfl (by decide) (by unfold FL; omega) (by unfold FH; omega)
    exact w_113_138 σa ⟨rfl, wrG (κ := 8) (a := 6) (b := 6) (vl := 0) (vh := 6) rfl rfl h.1 rfl (Nat.le_refl _) (Nat.le_refl _) (by omega) (by omega), h.2.1.frame (fun q κ k hq hk => s1_off (fun ⟨e1, e2⟩ => by
      subst e1; subst e2
      have h9 : kdn 15 = some 8 := rfl
      rw [h9] at hq; cases hq; cases hk)), h.2.2⟩
  have q85 : ∀ σa (x1 x2 x3 : Int32), RC m0 Gp σ σa → (σa.1 15 6).toInt ≤ 5 → 0 ≤ x3.toInt → x3.toInt ≤ 400 → Rn PRG (17 + 1) 113 85 [(0, .ref 15), (1, .int x1), (2, .int x2), (3, .int x3)] [] σa (fun v σ' => v = none ∧ RC m0 Gp σ σ') := by
    intro σa x1 x2 x3 h h5 h3 h3'
    have s9 := tyF h.1.1 (q := 3) (κ := 5) (k := 9) (lo := 0) (hi := 400) rfl rfl
    refine w_113_85 σa x1 x2 x3 ⟨_, take_OK h.1.1 h.2.1.bs, fun w2 σ1 hq1 => ?_⟩
    have r1 := sk h hq1 (by decide)
    have u1 : σ1.1 15 6 = σa.1 15 6 := hq1.1.get (q := 15) (κ := 8) rfl rfl
    refine ⟨fun _ => q118 σ1 r1, fun _ => ⟨_, cond_OK r1.1.1 r1.2.1, fun w4 σ3 hq3 => ?_⟩⟩
    have r3 := sc r1 hq3
    have u3 : σ3.1 15 6 = σ1.1 15 6 := hq3.1.get (q := 15) (κ := 8) rfl rfl
    refine ⟨fun _ => q118 σ3 r3, fun _ => ⟨_, take_OK r3.1.1 r3.2.1.bs, fun w6 σ5 hq5 => ?_⟩⟩
    have r5 := sk r3 hq5 (by decide)
    have u5 : σ5.1 15 6 = σ3.1 15 6 := hq5.1.get (q := 15) (κ := 8) rfl rfl
    have v5 : (σ5.1 15 6).toInt ≤ 5 := by rw [u5, u3, u1]; exact h5
    refine ⟨fun _ => q118 σ5 r5, fun _ => ⟨fun _ => q138 σ5 r5 v5, fun _ => ?_⟩⟩
    have c73 : SpecOK PRG TYP (fun _ => True) 73 sp_73 := c_73 ⟨fun _ _ _ _ _ _ _ _ => trivial, fun _ _ _ _ _ => trivial⟩
    refine ⟨_, OkV.deep (Ok.longs (S := [73]) (by decide +kernel) (by decide) (c73.atV r5.1.1 trivial (avsC ⟨3, rfl, rfl⟩ (avsC avF (avsC avF (avsC (avI h3 h3') (avsC (avI s9.1 s9.2) avsN))))) rfl rfl rfl) |>.mono (fun v σ' h => (⟨h.2.1, h.1, h.2.2.1⟩ : v = none ∧ (σ'.2 = σ5.2 ∧ Gl (spMods sp_73) σ5 σ')))) (show 0 ≤ 17 by omega), fun σ7 hq7 => ?_⟩
    have u7 : σ7.1 15 6 = σ5.1 15 6 := hq7.2.get (q := 15) (κ := 8) rfl rfl
    exact q138 σ7 ⟨r5.1.trans hq7.2 rfl, r5.2.1.keep hq7.2 rfl, by rw [hq7.1]; exact r5.2.2⟩ (by rw [u7]; exact v5)
  refine ⟨M_113, rfl, Nat.le_of_ble_eq_true rfl, w_113_0 σ ⟨_, OkI.deep (readName_OK ht hI) (show 1 ≤ 17 by omega), fun w2 σ1 hq1 => ?_⟩⟩
  obtain ⟨g1, i1, l1, c1⟩ := hq1
  have r1 : RC m0 Gp σ σ1 := ⟨g1.mono rfl, i1, l1⟩
  refine ⟨fun _ => ⟨rfl, r1⟩, fun hn => ⟨_, number_OK (d := 16) r1.1.1 r1.2.1.bs, fun w4 σ3 hq3 => ?_⟩⟩
  have r3 : RC m0 Gp σ σ3 := ⟨r1.1.trans hq3.1 rfl, hq3.ir r1.2.1, by rw [hq3.2.1]; exact r1.2.2⟩
  have u3 : (σ3.1 15 6).toInt ≤ 5 := by rw [hq3.1.get (q := 15) (κ := 8) rfl rfl]; exact c1 hn
  refine ⟨fun _ => ?_, fun _ => ⟨rfl, r3⟩⟩
  obtain ⟨K, hK, K0, K2⟩ := clamp2 ((σ3.1 15 5) - (18 : Int32))
  rw [hK]
  have e18 : ((18 : Int32) + K).toInt = 18 + K.toInt := by
    have k18 : (18 : Int32).toInt = 18 := by decide
    rw [add_ex (by rw [k18]; unfold FL; omega) (by rw [k18]; unfold FH; omega), k18]
  refine ⟨_, take_OK r3.1.1 r3.2.1.bs, fun w6 σ5 hq5 => ?_⟩
  have r5 := sk r3 hq5 (by rw [e18]; omega)
  have u5 : (σ5.1 15 6).toInt ≤ 5 := by rw [hq5.1.get (q := 15) (κ := 8) rfl rfl]; exact u3
  have s5 := tyF r5.1.1 (q := 3) (κ := 5) (k := 9) (lo := 0) (hi := 400) rfl rfl
  refine ⟨fun _ => ⟨rfl, r5⟩, fun _ => ⟨fun _ => ⟨_, take_OK r5.1.1 r5.2.1.bs, fun w8 σ7 hq7 => ?_⟩, fun _ => q85 σ5 _ _ _ r5 u5 s5.1 s5.2⟩⟩
  have r7 := sk r5 hq7 (by decide)
  have u7 : σ7.1 15 6 = σ5.1 15 6 := hq7.1.get (q := 15) (κ := 8) rfl rfl
  refine ⟨fun _ => q84 σ7 r7, fun _ => ⟨_, cond_OK r7.1.1 r7.2.1, fun w10 σ9 hq9 => ?_⟩⟩
  have r9 := sc r7 hq9
  have u9 : σ9.1 15 6 = σ7.1 15 6 := hq9.1.get (q := 15) (κ := 8) rfl rfl
  exact ⟨fun _ => q84 σ9 r9, fun _ => q85 σ9 _ _ _ r9 (by rw [u9, u7]; exact u5) s5.1 s5.2⟩
theorem pass_OK {T : Nat → Int32} {val : Nat → Int64} {x1 : Int32} {σ : Sg} (ht : typed TYP σ) (hT : ∀ i, i ≤ 401 → σ.1 18 i = T i) (hv : σ.2 20 = val) (hx : x1 = 0 ∨ x1 = 1) (hw : ¬ x1 = 0 → LW σ ∧ ∃ E : Nat, T E = 0 ∧ ∀ i, i < E → GPv T val i) : OkI PRG 19 114 [.ref 15, .int x1] σ (fun w σ' => Gl mdPs σ σ' ∧ CX T val σ' ∧ (w = 0 → ∃ E : Nat, T E = 0 ∧ ∀ i, i < E → GPv T val i) ∧ (¬ x1 = 0 → LW σ')) := by
  have k400 : (400 : Int32).toInt = 400 := by decide
  have k0 : (0 : Int32).toInt = 0 := by decide
  have k1 : (1 : Int32).toInt = 1 := by decide
  refine ⟨M_114, rfl, Nat.le_of_ble_eq_true rfl, w_114_0 σ x1 ⟨hx, ?_⟩⟩
  have x01 : 0 ≤ x1.toInt ∧ x1.toInt ≤ 1 := by rcases hx with rfl | rfl <;> decide
  have g : Gl mdPs σ (s1 (s1 (s1 (s1 (s1 (s1 (s1 σ 15 3 x1) 15 4 (0 : Int32)) 15 5 (σ.1 18 0)) 15 6 (0 : Int32)) 15 7 (0 : Int32)) 15 8 (-1 : Int32)) 15 9 (0 : Int32)) := by
    have a1 : Gl mdPs σ (s1 σ 15 3 x1) := wrG (κ := 8) (a := 3) (b := 3) (vl := 0) (vh := 1) rfl rfl (Gl.refl ht) rfl (Nat.le_refl _) (Nat.le_refl _) x01.1 x01.2
    have a2 := wrG (x := 0) (q := 15) (k := 4) (κ := 8) (a := 4) (b := 4) (vl := 0) (vh := 400) rfl rfl a1 rfl (Nat.le_refl _) (Nat.le_refl _) (by decide) (by decide)
    have a3 := wrG (x := σ.1 18 0) (q := 15) (k := 5) (κ := 8) (a := 5) (b := 5) (vl := FL) (vh := FH) rfl rfl a2 rfl (Nat.le_refl _) (Nat.le_refl _) (w_lo _) (w_hi _)
    have a4 := wrG (x := 0) (q := 15) (k := 6) (κ := 8) (a := 6) (b := 6) (vl := 0) (vh := 6) rfl rfl a3 rfl (Nat.le_refl _) (Nat.le_refl _) (by decide) (by decide)
    have a5 := wrG (x := 0) (q := 15) (k := 7) (κ := 8) (a := 7) (b := 7) (vl := FL) (vh := FH) rfl rfl a4 rfl (Nat.le_refl _) (Nat.le_refl _) (w_lo _) (w_hi _)
    have a6 := wrG (x := -1) (q := 15) (k := 8) (κ := 8) (a := 8) (b := 8) (vl := FL) (vh := FH) rfl rfl a5 rfl (Nat.le_refl _) (Nat.le_refl _) (w_lo _) (w_hi _)
    exact wrG (x := 0) (q := 15) (k := 9) (κ := 8) (a := 9) (b := 9) (vl := FL) (vh := FH) rfl rfl a6 rfl (Nat.le_refl _) (Nat.le_refl _) (w_lo _) (w_hi _)
  have f : ∀ q k, ¬ q = 15 → (s1 (s1 (s1 (s1 (s1 (s1 (s1 σ 15 3 x1) 15 4 (0 : Int32)) 15 5 (σ.1 18 0)) 15 6 (0 : Int32)) 15 7 (0 : Int32)) 15 8 (-1 : Int32)) 15 9 (0 : Int32)).1 q k = σ.1 q k := fun q k h => by
    rw [s1_off (by omega), s1_off (by omega), s1_off (by omega), s1_off (by omega), s1_off (by omega), s1_off (by omega), s1_off (by omega)]
  have f3 : (s1 (s1 (s1 (s1 (s1 (s1 (s1 σ 15 3 x1) 15 4 (0 : Int32)) 15 5 (σ.1 18 0)) 15 6 (0 : Int32)) 15 7 (0 : Int32)) 15 8 (-1 : Int32)) 15 9 (0 : Int32)).1 15 3 = x1 := by
    rw [s1_off (by omega), s1_off (by omega), s1_off (by omega), s1_off (by omega), s1_off (by omega), s1_off (by omega), s1_on]
  have f4 : (s1 (s1 (s1 (s1 (s1 (s1 (s1 σ 15 3 x1) 15 4 (0 : Int32)) 15 5 (σ.1 18 0)) 15 6 (0 : Int32)) 15 7 (0 : Int32)) 15 8 (-1 : Int32)) 15 9 (0 : Int32)).1 15 4 = 0 := by
    rw [s1_off (by omega), s1_off (by omega), s1_off (by omega), s1_off (by omega), s1_off (by omega), s1_on]
  have f5 : (s1 (s1 (s1 (s1 (s1 (s1 (s1 σ 15 3 x1) 15 4 (0 : Int32)) 15 5 (σ.1 18 0)) 15 6 (0 : Int32)) 15 7 (0 : Int32)) 15 8 (-1 : Int32)) 15 9 (0 : Int32)).1 15 5 = σ.1 18 0 := by
    rw [s1_off (by omega), s1_off (by omega), s1_off (by omega), s1_off (by omega), s1_on]
  have fl : (s1 (s1 (s1 (s1 (s1 (s1 (s1 σ 15 3 x1) 15 4 (0 : Int32)) 15 5 (σ.1 18 0)) 15 6 (0 : Int32)) 15 7 (0 : Int32)) 15 8 (-1 : Int32)) 15 9 (0 : Int32)).2 20 = val := hv
  generalize (s1 (s1 (s1 (s1 (s1 (s1 (s1 σ 15 3 x1) 15 4 (0 : Int32)) 15 5 (σ.1 18 0)) 15 6 (0 : Int32)) 15 7 (0 : Int32)) 15 8 (-1 : Int32)) 15 9 (0 : Int32)) = σ0 at g f f3 f4 f5 fl ⊢
  have i0 : IR 0 (GPv T val) σ0 := by
    have w0 : wn (σ0.1 15 4) = 0 := by rw [f4]; rfl
    refine ⟨by rw [w0, f5, f 18 0 (by omega)], by rw [f4]; decide, by rw [f4]; decide, by rw [f4]; decide, fun i hi => ?_, Or.inl (fun i hi => ?_)⟩
    · rw [f4, k0] at hi; omega
    · rw [f4, k0] at hi; omega
  have c0 : CX T val σ0 := ⟨fun i hi => by rw [f 18 i (by omega)]; exact hT i hi, fl⟩
  have lw0 : ¬ x1 = 0 → LW σ0 := fun h => (hw h).1.keep (f 3 0 (by omega)) (f 3 1 (by omega))
  -- the end
  have fin : ∀ σa, Gl mdPs σ σa → IR 0 (GPv T val) σa → CX T val σa → (¬ x1 = 0 → LW σa) → (σa.1 15 7 = 0 → σa.1 15 5 = 0) → Rn PRG (18 + 1) 114 143 [(0, .ref 15)] [] σa (fun v σ' => ∃ w : Int32, v = some (.int w) ∧ Gl mdPs σ σ' ∧ CX T val σ' ∧ (w = 0 → ∃ E : Nat, T E = 0 ∧ ∀ i, i < E → GPv T val i) ∧ (¬ x1 = 0 → LW σ')) := by
    intro σa ga ia ca la h5
    refine w_114_143 σa ⟨fun c7 => ⟨fun c9 => w_114_173 σa ⟨_, rfl, ga, ca, fun _ => ?_, la⟩, fun c9 => ?_⟩, fun c7 => w_114_173 σa ⟨_, rfl, ga, ca, fun h => absurd h c7, la⟩⟩
    · refine ⟨wn (σa.1 15 4), by rw [← type_at ia ca]; exact h5 c7, fun i hi => ?_⟩
      have hi' : (i : Int) < (σa.1 15 4).toInt := by have := ia.2.1; unfold wn at hi; omega
      have e18 : σa.1 18 i = T i := ca.1 i (by have := ia.2.2.1; omega)
      rcases ia.2.2.2.2.2 with h | h | h
      · refine ⟨fun h15 => (h i hi' (Or.inl (by rw [e18]; exact h15))).1 h15, fun h16 => (h i hi' (Or.inr (by rw [e18]; exact h16))).2 h16⟩
      · exact absurd c7 h
      · exact absurd c9 h
    · have b1 : Gl mdPs σ (s1 σa 15 7 (σa.1 15 9)) := wrG (κ := 8) (a := 7) (b := 7) (vl := FL) (vh := FH) rfl rfl ga rfl (Nat.le_refl _) (Nat.le_refl _) (w_lo _) (w_hi _)
      have b2 := wrG (x := σa.1 15 10) (q := 15) (k := 8) (κ := 8) (a := 8) (b := 8) (vl := FL) (vh := FH) rfl rfl b1 rfl (Nat.le_refl _) (Nat.le_refl _) (w_lo _) (w_hi _)
      have f' : ∀ q k, ¬ q = 15 → (s1 (s1 σa 15 7 (σa.1 15 9)) 15 8 (σa.1 15 10)).1 q k = σa.1 q k := fun q k h => by rw [s1_off (by omega), s1_off (by omega)]
      refine w_114_173 _ ⟨_, rfl, b2, ⟨fun i hi => by rw [f' 18 i (by omega)]; exact ca.1 i hi, ca.2⟩, fun h => ?_, fun h => (la h).keep (f' 3 0 (by omega)) (f' 3 1 (by omega))⟩
      rw [s1_off (by omega), s1_on] at h
      exact absurd h c9
  have loop : ∀ (n : Nat) (x2 : Int32) (σa : Sg), Gl mdPs σ σa → IR 0 (GPv T val) σa → CX T val σa → σa.1 15 3 = x1 → (¬ x1 = 0 → LW σa) → 0 ≤ x2.toInt → x2.toInt ≤ 401 → (σa.1 15 7 = 0 → x2.toInt ≤ (σa.1 15 4).toInt) → 401 - x2.toInt < (n : Int) → Rn PRG (18 + 1) 114 45 [(0, .ref 15), (2, .int x2)] [] σa (fun v σ' => ∃ w : Int32, v = some (.int w) ∧ Gl mdPs σ σ' ∧ CX T val σ' ∧ (w = 0 → ∃ E : Nat, T E = 0 ∧ ∀ i, i < E → GPv T val i) ∧ (¬ x1 = 0 → LW σ')) := by
    intro n
    induction n with
    | zero => intro x2 σa _ _ _ _ _ h1 h2 _ h3; omega
    | succ n ih =>
      intro x2 σa ga ia ca h3 la h1 h2 h4 hn
      have at0 := ia.2.1
      have at4 := ia.2.2.1
      refine w_114_45 σa x2 ⟨fun c => fin σa ga ia ca la (fun h => ?_), fun c => ⟨fun c7 => ?_, fun c7 => fin σa ga ia ca la (fun h => absurd h c7)⟩⟩
      · rw [lt_i k400 rfl] at c
        have := h4 h
        omega
      rw [lt_i k400 rfl] at c
      have h4 := h4 c7
      refine ⟨fun c5 => fin σa ga ia ca la (fun _ => c5), fun c5 => ?_⟩
      have next : ∀ σb, RS T val σa σb → Rn PRG (18 + 1) 114 137 [(0, .ref 15), (2, .int x2)] [] σb (fun v σ' => ∃ w : Int32, v = some (.int w) ∧ Gl mdPs σ σ' ∧ CX T val σ' ∧ (w = 0 → ∃ E : Nat, T E = 0 ∧ ∀ i, i < E → GPv T val i) ∧ (¬ x1 = 0 → LW σ')) := by
        intro σb hb
        obtain ⟨gb, ib, lb, b3, b4, lw⟩ := hb
        have e1 : (x2 + (1 : Int32)).toInt = x2.toInt + 1 := add_lit rfl k1 (by unfold FL; omega) (by unfold FH; omega)
        exact w_114_137 σb x2 (ih _ σb (ga.trans gb rfl) ib (ca.keep gb rfl lb) (b3.trans h3) (fun h => lw (la h)) (by omega) (by omega) (fun h => by have := b4 h; omega) (by omega))
      have hgp : ¬ σa.1 15 3 = 0 → GPv T val (wn (σa.1 15 4)) := by
        intro hwr
        rw [h3] at hwr
        obtain ⟨-, E, hE, hg⟩ := hw hwr
        refine hg _ (Nat.lt_of_le_of_ne (Nat.le_of_not_lt (fun hlt => ?_)) (fun e => ?_))
        · have := ia.2.2.2.2.1 E (by unfold wn at hlt; omega)
          rw [ca.1 E (by unfold wn at hlt; omega)] at this
          exact this hE
        · rw [type_at ia ca, e] at c5
          exact c5 hE
      have other : Rn PRG (18 + 1) 114 124 [(0, .ref 15), (2, .int x2)] [] σa (fun v σ' => ∃ w : Int32, v = some (.int w) ∧ Gl mdPs σ σ' ∧ CX T val σ' ∧ (w = 0 → ∃ E : Nat, T E = 0 ∧ ∀ i, i < E → GPv T val i) ∧ (¬ x1 = 0 → LW σ')) := by
        refine w_114_124 σa x2 ⟨_, take_OK ga.1 ia.bs, fun w2 σ1 hq => ?_⟩
        have i1 := hq.ir ia (by decide) (by decide) (by decide)
        have g1 : Gl mdPs σa σ1 := hq.1.mono rfl
        have lw1 : LW σa → LW σ1 := fun h => h.keep (hq.1.get (q := 3) (κ := 5) rfl rfl) (hq.1.get (q := 3) (κ := 5) rfl rfl)
        have s13 : σ1.1 15 3 = σa.1 15 3 := hq.1.get (q := 15) (κ := 8) rfl rfl
        refine ⟨fun hz => next σ1 ⟨g1, i1, by rw [hq.2.1], s13, fun h => absurd h (hq.no hz).1, lw1⟩, fun hne => ?_⟩
        obtain ⟨-, at1, -⟩ := hq.ty hne
        have i1' : IR (wn (σ1.1 15 4)) (GPv T val) σ1 := i1.re (by have := i1.2.1; unfold wn; omega)
        refine ⟨_, readCustom_OK g1.1 i1', fun σ3 hq3 => ?_⟩
        obtain ⟨g3, i3, l3⟩ := hq3
        have at3 : (σ1.1 15 4).toInt ≤ (σ3.1 15 4).toInt := by have := i3.2.2.2.1; have := i1.2.1; unfold wn at *; omega
        exact next σ3 ⟨g1.trans g3 rfl, i3.re (by have := i3.2.1; omega), by rw [l3, hq.2.1], (g3.get (q := 15) (κ := 8) rfl rfl).trans s13, fun _ => by omega, fun h => (lw1 h).keep (g3.get (q := 3) (κ := 5) rfl rfl) (g3.get (q := 3) (κ := 5) rfl rfl)⟩
      refine ⟨fun c15 => ⟨_, OkV.deep (readPack_OK ga.1 ia ca c15 hgp) (show 2 ≤ 18 by omega), fun σ4 hq => next σ4 hq⟩, fun c15 => ⟨fun c16 => ⟨_, OkV.deep (readTrump_OK ga.1 ia ca c16 hgp) (show 2 ≤ 18 by omega), fun σ3 hq => next σ3 hq⟩, fun c16 => ⟨fun c17 => ⟨fun _ => other, fun _ => ⟨_, full_OK ga.1 ia.bs, fun w2 σ1 hq => ?_⟩⟩, fun _ => other⟩⟩⟩
      obtain ⟨-, g1, l1, n7, n4, n5⟩ := hq
      exact next σ1 ⟨g1.mono rfl, ia.bad g1 n7 n4 n5, by rw [l1], g1.get (q := 15) (κ := 8) rfl rfl, fun h => absurd h n7, fun h => h.keep (g1.get (q := 3) (κ := 5) rfl rfl) (g1.get (q := 3) (κ := 5) rfl rfl)⟩
  exact loop 402 0 σ0 g i0 c0 f3 lw0 (by decide) (by decide) (fun _ => by rw [f4]; decide) (by rw [k0]; omega)
