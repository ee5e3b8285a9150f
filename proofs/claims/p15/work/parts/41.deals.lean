/-! the deals: what must hold -/
set_option maxRecDepth 100000 in
theorem w_259_0 {d : Nat} {Q : Option Value → Sg → Prop} (σ : Sg) (h : (((σ.1 97 60) = (σ.1 97 59) → Q (some (.int (0 : Int32))) σ) ∧ (¬ (σ.1 97 60) = (σ.1 97 59) → ((0 ≤ (σ.1 97 60) → (∃ Qc : Int32 → Sg → Prop, OkI PRG d 209 [.int (((σ.1 97 60) - (σ.1 97 59)) &&& (σ.1 97 59))] (s1 σ 97 60 (((σ.1 97 60) - (σ.1 97 59)) &&& (σ.1 97 59))) Qc ∧ ∀ w2 σ1, Qc w2 σ1 → ((w2 = (σ1.1 132 0) → Q (some (.int (1 : Int32))) σ1) ∧ (¬ w2 = (σ1.1 132 0) → Rn PRG (d + 1) 259 0 [(0, .ref 97)] [] σ1 Q)))) ∧ (¬ 0 ≤ (σ.1 97 60) → (∃ Qc : Int32 → Sg → Prop, OkI PRG d 209 [.int (0 : Int32)] (s1 σ 97 60 (0 : Int32)) Qc ∧ ∀ w4 σ3, Qc w4 σ3 → ((w4 = (σ3.1 132 0) → Q (some (.int (1 : Int32))) σ3) ∧ (¬ w4 = (σ3.1 132 0) → Rn PRG (d + 1) 259 0 [(0, .ref 97)] [] σ3 Q)))))))) : Rn PRG (d + 1) 259 0 [(0, .ref 97)] [] σ Q := by
  have hM : PRG[259]? = some M_259 := rfl
  refine Rn.br (c := (σ.1 97 60) = (σ.1 97 59)) (a := 58) (b := 11) (ls' := [(0, .ref 97)]) (st' := []) (σ' := σ) hM 5 rfl (fun c => ?_) (fun c => ?_)
  · replace h := h.1 c
    refine Rn.seg (pc' := 59) (ls' := [(0, .ref 97)]) (st' := [.int (0 : Int32)]) (σ' := σ) hM 1 rfl ?_
    exact Rn.ret hM rfl rfl h
  · replace h := h.2 c
    refine Rn.br (c := 0 ≤ (σ.1 97 60)) (a := 23) (b := 19) (ls' := [(0, .ref 97)]) (st' := [.ref 97]) (σ' := σ) hM 4 rfl (fun c => ?_) (fun c => ?_)
    · replace h := h.1 c
      refine Rn.seg (pc' := 44) (ls' := [(0, .ref 97)]) (st' := [.int (((σ.1 97 60) - (σ.1 97 59)) &&& (σ.1 97 59))]) (σ' := (s1 σ 97 60 (((σ.1 97 60) - (σ.1 97 59)) &&& (σ.1 97 59)))) hM 11 rfl ?_
      obtain ⟨Qc, hq, h⟩ := h
      refine Rn.cI hM rfl rfl (by decide) hq (fun w2 σ1 hw => ?_)
      replace h := h w2 σ1 hw
      refine Rn.brN (c := w2 = (σ1.1 132 0)) (a := 0) (b := 56) (ls' := [(0, .ref 97)]) (st' := []) (σ' := σ1) hM 5 rfl (fun c => ?_) (fun c => ?_)
      · replace h := h.2 c
        refine Rn.seg (pc' := 0) (ls' := [(0, .ref 97)]) (st' := []) (σ' := σ1) hM 0 rfl ?_
        exact Rn.sub h (subL_cons rfl subL_nil) (show ndL _ from (by decide : List.Nodup ([0] : List Nat)))
      · replace h := h.1 c
        refine Rn.seg (pc' := 57) (ls' := [(0, .ref 97)]) (st' := [.int (1 : Int32)]) (σ' := σ1) hM 1 rfl ?_
        exact Rn.ret hM rfl rfl h
    · replace h := h.2 c
      refine Rn.seg (pc' := 44) (ls' := [(0, .ref 97)]) (st' := [.int (0 : Int32)]) (σ' := (s1 σ 97 60 (0 : Int32))) hM 5 rfl ?_
      obtain ⟨Qc, hq, h⟩ := h
      refine Rn.cI hM rfl rfl (by decide) hq (fun w4 σ3 hw => ?_)
      replace h := h w4 σ3 hw
      refine Rn.brN (c := w4 = (σ3.1 132 0)) (a := 0) (b := 56) (ls' := [(0, .ref 97)]) (st' := []) (σ' := σ3) hM 5 rfl (fun c => ?_) (fun c => ?_)
      · replace h := h.2 c
        refine Rn.seg (pc' := 0) (ls' := [(0, .ref 97)]) (st' := []) (σ' := σ3) hM 0 rfl ?_
        exact Rn.sub h (subL_cons rfl subL_nil) (show ndL _ from (by decide : List.Nodup ([0] : List Nat)))
      · replace h := h.1 c
        refine Rn.seg (pc' := 57) (ls' := [(0, .ref 97)]) (st' := [.int (1 : Int32)]) (σ' := σ3) hM 1 rfl ?_
        exact Rn.ret hM rfl rfl h
set_option maxRecDepth 100000 in
theorem w_258_0 {d : Nat} {Q : Option Value → Sg → Prop} (σ : Sg) (h : Rn PRG (d + 1) 258 12 [(0, .ref 97), (1, .int ((σ.1 97 59) &&& ((σ.1 97 60) ^^^ (-1 : Int32))))] [] σ Q) : Rn PRG (d + 1) 258 0 [(0, .ref 97)] [] σ Q := by
  have hM : PRG[258]? = some M_258 := rfl
  refine Rn.seg (pc' := 12) (ls' := [(1, .int ((σ.1 97 59) &&& ((σ.1 97 60) ^^^ (-1 : Int32)))), (0, .ref 97)]) (st' := []) (σ' := σ) hM 8 rfl ?_
  exact Rn.sub h (subL_cons rfl (subL_cons rfl subL_nil)) (show ndL _ from (by decide : List.Nodup ([0, 1] : List Nat)))
set_option maxRecDepth 100000 in
theorem w_258_12 {d : Nat} {Q : Option Value → Sg → Prop} (σ : Sg) (x1 : Int32) (h : (((σ.1 97 61) = x1 → Q (some (.int (0 : Int32))) σ) ∧ (¬ (σ.1 97 61) = x1 → ((0 ≤ (σ.1 97 61) → (∃ Qc : Int32 → Sg → Prop, OkI PRG d 209 [.int (((σ.1 97 61) - x1) &&& x1)] (s1 σ 97 61 (((σ.1 97 61) - x1) &&& x1)) Qc ∧ ∀ w2 σ1, Qc w2 σ1 → ((w2 = (σ1.1 132 1) → Q (some (.int (1 : Int32))) σ1) ∧ (¬ w2 = (σ1.1 132 1) → Rn PRG (d + 1) 258 12 [(0, .ref 97), (1, .int x1)] [] σ1 Q)))) ∧ (¬ 0 ≤ (σ.1 97 61) → (∃ Qc : Int32 → Sg → Prop, OkI PRG d 209 [.int (0 : Int32)] (s1 σ 97 61 (0 : Int32)) Qc ∧ ∀ w4 σ3, Qc w4 σ3 → ((w4 = (σ3.1 132 1) → Q (some (.int (1 : Int32))) σ3) ∧ (¬ w4 = (σ3.1 132 1) → Rn PRG (d + 1) 258 12 [(0, .ref 97), (1, .int x1)] [] σ3 Q)))))))) : Rn PRG (d + 1) 258 12 [(0, .ref 97), (1, .int x1)] [] σ Q := by
  have hM : PRG[258]? = some M_258 := rfl
  refine Rn.br (c := (σ.1 97 61) = x1) (a := 61) (b := 20) (ls' := [(0, .ref 97), (1, .int x1)]) (st' := []) (σ' := σ) hM 4 rfl (fun c => ?_) (fun c => ?_)
  · replace h := h.1 c
    refine Rn.seg (pc' := 62) (ls' := [(0, .ref 97), (1, .int x1)]) (st' := [.int (0 : Int32)]) (σ' := σ) hM 1 rfl ?_
    exact Rn.ret hM rfl rfl h
  · replace h := h.2 c
    refine Rn.br (c := 0 ≤ (σ.1 97 61)) (a := 32) (b := 28) (ls' := [(0, .ref 97), (1, .int x1)]) (st' := [.ref 97]) (σ' := σ) hM 4 rfl (fun c => ?_) (fun c => ?_)
    · replace h := h.1 c
      refine Rn.seg (pc' := 47) (ls' := [(0, .ref 97), (1, .int x1)]) (st' := [.int (((σ.1 97 61) - x1) &&& x1)]) (σ' := (s1 σ 97 61 (((σ.1 97 61) - x1) &&& x1))) hM 9 rfl ?_
      obtain ⟨Qc, hq, h⟩ := h
      refine Rn.cI hM rfl rfl (by decide) hq (fun w2 σ1 hw => ?_)
      replace h := h w2 σ1 hw
      refine Rn.brN (c := w2 = (σ1.1 132 1)) (a := 12) (b := 59) (ls' := [(0, .ref 97), (1, .int x1)]) (st' := []) (σ' := σ1) hM 5 rfl (fun c => ?_) (fun c => ?_)
      · replace h := h.2 c
        refine Rn.seg (pc' := 12) (ls' := [(0, .ref 97), (1, .int x1)]) (st' := []) (σ' := σ1) hM 0 rfl ?_
        exact Rn.sub h (subL_cons rfl (subL_cons rfl subL_nil)) (show ndL _ from (by decide : List.Nodup ([0, 1] : List Nat)))
      · replace h := h.1 c
        refine Rn.seg (pc' := 60) (ls' := [(0, .ref 97), (1, .int x1)]) (st' := [.int (1 : Int32)]) (σ' := σ1) hM 1 rfl ?_
        exact Rn.ret hM rfl rfl h
    · replace h := h.2 c
      refine Rn.seg (pc' := 47) (ls' := [(0, .ref 97), (1, .int x1)]) (st' := [.int (0 : Int32)]) (σ' := (s1 σ 97 61 (0 : Int32))) hM 5 rfl ?_
      obtain ⟨Qc, hq, h⟩ := h
      refine Rn.cI hM rfl rfl (by decide) hq (fun w4 σ3 hw => ?_)
      replace h := h w4 σ3 hw
      refine Rn.brN (c := w4 = (σ3.1 132 1)) (a := 12) (b := 59) (ls' := [(0, .ref 97), (1, .int x1)]) (st' := []) (σ' := σ3) hM 5 rfl (fun c => ?_) (fun c => ?_)
      · replace h := h.2 c
        refine Rn.seg (pc' := 12) (ls' := [(0, .ref 97), (1, .int x1)]) (st' := []) (σ' := σ3) hM 0 rfl ?_
        exact Rn.sub h (subL_cons rfl (subL_cons rfl subL_nil)) (show ndL _ from (by decide : List.Nodup ([0, 1] : List Nat)))
      · replace h := h.1 c
        refine Rn.seg (pc' := 60) (ls' := [(0, .ref 97), (1, .int x1)]) (st' := [.int (1 : Int32)]) (σ' := σ3) hM 1 rfl ?_
        exact Rn.ret hM rfl rfl h
set_option maxRecDepth 100000 in
theorem w_260_0 {d : Nat} {Q : Option Value → Sg → Prop} (σ : Sg) (h : (((σ.1 97 60) < 0 → Rn PRG (d + 1) 260 16 [(0, .ref 97)] [] σ Q) ∧ (¬ (σ.1 97 60) < 0 → (∃ Qc : Int32 → Sg → Prop, OkI PRG d 258 [.ref 97] σ Qc ∧ ∀ w2 σ1, Qc w2 σ1 → ((w2 = 0 → Rn PRG (d + 1) 260 16 [(0, .ref 97)] [] σ1 Q) ∧ (¬ w2 = 0 → Q (some (.int (1 : Int32))) σ1)))))) : Rn PRG (d + 1) 260 0 [(0, .ref 97)] [] σ Q := by
  have hM : PRG[260]? = some M_260 := rfl
  refine Rn.br (c := (σ.1 97 60) < 0) (a := 16) (b := 7) (ls' := [(0, .ref 97)]) (st' := []) (σ' := σ) hM 3 rfl (fun c => ?_) (fun c => ?_)
  · replace h := h.1 c
    refine Rn.seg (pc' := 16) (ls' := [(0, .ref 97)]) (st' := []) (σ' := σ) hM 0 rfl ?_
    exact Rn.sub h (subL_cons rfl subL_nil) (show ndL _ from (by decide : List.Nodup ([0] : List Nat)))
  · replace h := h.2 c
    refine Rn.seg (pc' := 8) (ls' := [(0, .ref 97)]) (st' := [.ref 97]) (σ' := σ) hM 1 rfl ?_
    obtain ⟨Qc, hq, h⟩ := h
    refine Rn.cI hM rfl rfl (by decide) hq (fun w2 σ1 hw => ?_)
    replace h := h w2 σ1 hw
    refine Rn.br (c := w2 = 0) (a := 16) (b := 14) (ls' := [(0, .ref 97)]) (st' := []) (σ' := σ1) hM 1 rfl (fun c => ?_) (fun c => ?_)
    · replace h := h.1 c
      refine Rn.seg (pc' := 16) (ls' := [(0, .ref 97)]) (st' := []) (σ' := σ1) hM 0 rfl ?_
      exact Rn.sub h (subL_cons rfl subL_nil) (show ndL _ from (by decide : List.Nodup ([0] : List Nat)))
    · replace h := h.2 c
      refine Rn.seg (pc' := 15) (ls' := [(0, .ref 97)]) (st' := [.int (1 : Int32)]) (σ' := σ1) hM 1 rfl ?_
      exact Rn.ret hM rfl rfl h
set_option maxRecDepth 100000 in
theorem w_260_16 {d : Nat} {Q : Option Value → Sg → Prop} (σ : Sg) (h : (∃ Qc : Int32 → Sg → Prop, OkI PRG d 259 [.ref 97] σ Qc ∧ ∀ w2 σ1, Qc w2 σ1 → ((w2 = 0 → Q (some (.int (0 : Int32))) σ1) ∧ (¬ w2 = 0 → (∃ Qc : Int32 → Sg → Prop, OkI PRG d 258 [.ref 97] (s1 σ1 97 61 (-1 : Int32)) Qc ∧ ∀ w4 σ3, Qc w4 σ3 → ((w4 = 0 → Rn PRG (d + 1) 260 16 [(0, .ref 97)] [] σ3 Q) ∧ (¬ w4 = 0 → Q (some (.int (1 : Int32))) σ3))))))) : Rn PRG (d + 1) 260 16 [(0, .ref 97)] [] σ Q := by
  have hM : PRG[260]? = some M_260 := rfl
  refine Rn.seg (pc' := 17) (ls' := [(0, .ref 97)]) (st' := [.ref 97]) (σ' := σ) hM 1 rfl ?_
  obtain ⟨Qc, hq, h⟩ := h
  refine Rn.cI hM rfl rfl (by decide) hq (fun w2 σ1 hw => ?_)
  replace h := h w2 σ1 hw
  refine Rn.br (c := w2 = 0) (a := 37) (b := 23) (ls' := [(0, .ref 97)]) (st' := []) (σ' := σ1) hM 1 rfl (fun c => ?_) (fun c => ?_)
  · replace h := h.1 c
    refine Rn.seg (pc' := 38) (ls' := [(0, .ref 97)]) (st' := [.int (0 : Int32)]) (σ' := σ1) hM 1 rfl ?_
    exact Rn.ret hM rfl rfl h
  · replace h := h.2 c
    refine Rn.seg (pc' := 29) (ls' := [(0, .ref 97)]) (st' := [.ref 97]) (σ' := (s1 σ1 97 61 (-1 : Int32))) hM 4 rfl ?_
    obtain ⟨Qc, hq, h⟩ := h
    refine Rn.cI hM rfl rfl (by decide) hq (fun w4 σ3 hw => ?_)
    replace h := h w4 σ3 hw
    refine Rn.br (c := w4 = 0) (a := 16) (b := 35) (ls' := [(0, .ref 97)]) (st' := []) (σ' := σ3) hM 1 rfl (fun c => ?_) (fun c => ?_)
    · replace h := h.1 c
      refine Rn.seg (pc' := 16) (ls' := [(0, .ref 97)]) (st' := []) (σ' := σ3) hM 0 rfl ?_
      exact Rn.sub h (subL_cons rfl subL_nil) (show ndL _ from (by decide : List.Nodup ([0] : List Nat)))
    · replace h := h.2 c
      refine Rn.seg (pc' := 36) (ls' := [(0, .ref 97)]) (st' := [.int (1 : Int32)]) (σ' := σ3) hM 1 rfl ?_
      exact Rn.ret hM rfl rfl h
set_option maxRecDepth 100000 in
theorem w_262_0 {d : Nat} {Q : Option Value → Sg → Prop} (σ : Sg) (h : (∃ Qc : Int32 → Sg → Prop, OkI PRG d 260 [.ref 97] σ Qc ∧ ∀ w2 σ1, Qc w2 σ1 → ((w2 = 0 → Q (some (.int (0 : Int32))) σ1) ∧ (¬ w2 = 0 → (inR (σ1.1 130 0) 4 = true ∧ (inR (σ1.1 130 1) 4 = true ∧ (inR (σ1.1 130 2) 4 = true ∧ (∃ Qc : Int32 → Sg → Prop, OkI PRG d 261 [.ref 97] (s1 (s1 (s1 σ1 129 (σ1.1 130 0).toNatClampNeg ((σ1.1 131 0) ||| (σ1.1 97 60))) 129 (σ1.1 130 1).toNatClampNeg ((σ1.1 131 1) ||| (σ1.1 97 61))) 129 (σ1.1 130 2).toNatClampNeg ((σ1.1 131 2) ||| (((σ1.1 97 59) &&& ((σ1.1 97 60) ^^^ (-1 : Int32))) &&& ((σ1.1 97 61) ^^^ (-1 : Int32))))) Qc ∧ ∀ w4 σ3, Qc w4 σ3 → ((w4 = 0 → Rn PRG (d + 1) 262 0 [(0, .ref 97)] [] σ3 Q) ∧ (¬ w4 = 0 → Q (some (.int (1 : Int32))) σ3)))))))))) : Rn PRG (d + 1) 262 0 [(0, .ref 97)] [] σ Q := by
  have hM : PRG[262]? = some M_262 := rfl
  refine Rn.seg (pc' := 1) (ls' := [(0, .ref 97)]) (st' := [.ref 97]) (σ' := σ) hM 1 rfl ?_
  obtain ⟨Qc, hq, h⟩ := h
  refine Rn.cI hM rfl rfl (by decide) hq (fun w2 σ1 hw => ?_)
  replace h := h w2 σ1 hw
  refine Rn.br (c := w2 = 0) (a := 96) (b := 7) (ls' := [(0, .ref 97)]) (st' := []) (σ' := σ1) hM 1 rfl (fun c => ?_) (fun c => ?_)
  · replace h := h.1 c
    refine Rn.seg (pc' := 97) (ls' := [(0, .ref 97)]) (st' := [.int (0 : Int32)]) (σ' := σ1) hM 1 rfl ?_
    exact Rn.ret hM rfl rfl h
  · replace h := h.2 c
    refine Rn.seg (pc' := 28) (ls' := [(0, .ref 97)]) (st' := [.int ((σ1.1 131 0) ||| (σ1.1 97 60)), .int (σ1.1 130 0), .ref 129]) (σ' := σ1) hM 13 rfl ?_
    refine Rn.iast hM rfl rfl h.1 ?_
    refine Rn.seg (pc' := 50) (ls' := [(0, .ref 97)]) (st' := [.int ((σ1.1 131 1) ||| (σ1.1 97 61)), .int (σ1.1 130 1), .ref 129]) (σ' := (s1 σ1 129 (σ1.1 130 0).toNatClampNeg ((σ1.1 131 0) ||| (σ1.1 97 60)))) hM 13 rfl ?_
    refine Rn.iast hM rfl rfl h.2.1 ?_
    refine Rn.seg (pc' := 86) (ls' := [(0, .ref 97)]) (st' := [.int ((σ1.1 131 2) ||| (((σ1.1 97 59) &&& ((σ1.1 97 60) ^^^ (-1 : Int32))) &&& ((σ1.1 97 61) ^^^ (-1 : Int32)))), .int (σ1.1 130 2), .ref 129]) (σ' := (s1 (s1 σ1 129 (σ1.1 130 0).toNatClampNeg ((σ1.1 131 0) ||| (σ1.1 97 60))) 129 (σ1.1 130 1).toNatClampNeg ((σ1.1 131 1) ||| (σ1.1 97 61)))) hM 23 rfl ?_
    refine Rn.iast hM rfl rfl h.2.2.1 ?_
    refine Rn.seg (pc' := 88) (ls' := [(0, .ref 97)]) (st' := [.ref 97]) (σ' := (s1 (s1 (s1 σ1 129 (σ1.1 130 0).toNatClampNeg ((σ1.1 131 0) ||| (σ1.1 97 60))) 129 (σ1.1 130 1).toNatClampNeg ((σ1.1 131 1) ||| (σ1.1 97 61))) 129 (σ1.1 130 2).toNatClampNeg ((σ1.1 131 2) ||| (((σ1.1 97 59) &&& ((σ1.1 97 60) ^^^ (-1 : Int32))) &&& ((σ1.1 97 61) ^^^ (-1 : Int32)))))) hM 1 rfl ?_
    obtain ⟨Qc, hq, h⟩ := h.2.2.2
    refine Rn.cI hM rfl rfl (by decide) hq (fun w4 σ3 hw => ?_)
    replace h := h w4 σ3 hw
    refine Rn.br (c := w4 = 0) (a := 0) (b := 94) (ls' := [(0, .ref 97)]) (st' := []) (σ' := σ3) hM 1 rfl (fun c => ?_) (fun c => ?_)
    · replace h := h.1 c
      refine Rn.seg (pc' := 0) (ls' := [(0, .ref 97)]) (st' := []) (σ' := σ3) hM 0 rfl ?_
      exact Rn.sub h (subL_cons rfl subL_nil) (show ndL _ from (by decide : List.Nodup ([0] : List Nat)))
    · replace h := h.2 c
      refine Rn.seg (pc' := 95) (ls' := [(0, .ref 97)]) (st' := [.int (1 : Int32)]) (σ' := σ3) hM 1 rfl ?_
      exact Rn.ret hM rfl rfl h
/-! writes by hand; the parts of a set in their order: nextFirst, nextSecond, nextSets, nextDeal -/
abbrev Gl (ms : List (Nat × Nat × Nat)) (σ0 σ : Sg) : Prop := Glo TYP (fun _ => True) ms σ0 σ
def nrOK (κ a b : Nat) : Bool := match KND[κ]? with
  | some (0, _, fs) => (List.range (b + 1)).all (fun k => Nat.blt k a || match fs[k]? with
    | some (3, _) => false
    | _ => true)
  | _ => true
theorem wrG {ms : List (Nat × Nat × Nat)} {σ0 σ : Sg} {q κ a b k : Nat} {vl vh : Int} {x : Int32} (h : wrOK TYP ms [] κ a b vl vh = true) (hn : nrOK κ a b = true) (hG : Gl ms σ0 σ) (hq : kdn q = some κ) (h1 : a ≤ k) (h2 : k ≤ b) (hx1 : vl ≤ x.toInt) (hx2 : x.toInt ≤ vh) : Gl ms σ0 (s1 σ q k x) := by
  refine wr_glo ⟨fun _ _ _ _ _ _ _ _ => trivial, fun _ _ _ _ _ => trivial⟩ h hG hq h1 h2 hx1 hx2 (fun c fs κ' e1 e2 => ?_)
  unfold nrOK at hn
  rw [e1] at hn
  simp only at hn
  have := List.all_eq_true.mp hn k (List.mem_range.mpr (by omega))
  rw [e2] at this
  have h3 : Nat.blt k a = true := by simpa using this
  have : k < a := Nat.blt_eq.mp h3
  omega
theorem Gl.refl {ms : List (Nat × Nat × Nat)} {σ : Sg} (h : typed TYP σ) : Gl ms σ σ := ⟨h, trivial, fun _ _ _ _ _ => rfl⟩
theorem Gl.get {ms : List (Nat × Nat × Nat)} {σ0 σ : Sg} (h : Gl ms σ0 σ) {q κ k : Nat} (hq : kdn q = some κ) (hk : inM ms κ k = false) : σ.1 q k = σ0.1 q k := h.2.2 q κ k hq hk
def subMs (ms' ms : List (Nat × Nat × Nat)) : Bool := ms'.all (fun m => ms.any (fun n => Nat.beq n.1 m.1 && (Nat.ble n.2.1 m.2.1 && Nat.ble m.2.2 n.2.2)))
theorem inM_sub {ms' ms : List (Nat × Nat × Nat)} (h : subMs ms' ms = true) {κ k : Nat} (hk : inM ms κ k = false) : inM ms' κ k = false := by
  cases hc : inM ms' κ k with
  | false => rfl
  | true =>
    unfold inM at hc
    obtain ⟨m, hm, he⟩ := List.any_eq_true.mp hc
    obtain ⟨n, hn, h2⟩ := List.any_eq_true.mp (List.all_eq_true.mp h m hm)
    simp only [Bool.and_eq_true] at he h2
    have a1 := Nat.eq_of_beq_eq_true he.1
    have a2 := Nat.le_of_ble_eq_true he.2.1
    have a3 := Nat.le_of_ble_eq_true he.2.2
    have b1 := Nat.eq_of_beq_eq_true h2.1
    have b2 := Nat.le_of_ble_eq_true h2.2.1
    have b3 := Nat.le_of_ble_eq_true h2.2.2
    have : inM ms κ k = true := by
      unfold inM
      refine List.any_eq_true.mpr ⟨n, hn, ?_⟩
      simp only [Bool.and_eq_true]
      exact ⟨by rw [b1, a1]; simp, Nat.ble_eq_true_of_le (by omega), Nat.ble_eq_true_of_le (by omega)⟩
    rw [this] at hk
    cases hk
theorem Gl.trans {ms ms' : List (Nat × Nat × Nat)} {σ0 σ1 σ2 : Sg} (h1 : Gl ms σ0 σ1) (h2 : Gl ms' σ1 σ2) (hs : subMs ms' ms = true) : Gl ms σ0 σ2 :=
  ⟨h2.1, trivial, fun q κ k hq hk => by rw [h2.2.2 q κ k hq (inM_sub hs hk), h1.2.2 q κ k hq hk]⟩
theorem Gl.mono {ms ms' : List (Nat × Nat × Nat)} {σ0 σ1 : Sg} (h2 : Gl ms' σ0 σ1) (hs : subMs ms' ms = true) : Gl ms σ0 σ1 :=
  ⟨h2.1, trivial, fun q κ k hq hk => h2.2.2 q κ k hq (inM_sub hs hk)⟩
/-- a field's range -/
theorem tyF {σ : Sg} (h : typed TYP σ) {q κ k : Nat} {lo hi : Int} (hq : kdn q = some κ) (hr : ldRg TYP κ k k = (lo, hi)) : lo ≤ (σ.1 q k).toInt ∧ (σ.1 q k).toInt ≤ hi := by
  have := ldRg_ok h hq (Nat.le_refl k) (Nat.le_refl k)
  rw [hr] at this
  exact this
theorem tyA {σ : Sg} (h : typed TYP σ) {q κ k a b : Nat} {lo hi : Int} (hq : kdn q = some κ) (hr : ldRg TYP κ a b = (lo, hi)) (h1 : a ≤ k) (h2 : k ≤ b) : lo ≤ (σ.1 q k).toInt ∧ (σ.1 q k).toInt ≤ hi := by
  have := ldRg_ok h hq h1 h2
  rw [hr] at this
  exact this
theorem z_lt {x : Int32} : x < 0 ↔ x.toInt < 0 := by rw [Int32.lt_iff_toInt_lt]; rfl
theorem z_le {x : Int32} : 0 ≤ x ↔ 0 ≤ x.toInt := by rw [Int32.le_iff_toInt_le]; rfl
theorem subS_0 {f : Int32} : subS 0 f := fun i hi => by rw [bt_0] at hi; cases hi
def mdA : List (Nat × Nat × Nat) := [(12, 60, 60)]
def mdB : List (Nat × Nat × Nat) := [(12, 61, 61)]
def mdC : List (Nat × Nat × Nat) := [(12, 60, 61)]
/-- where an enumeration of parts stands: before all, or at a part -/
def atS (x f : Int32) : Prop := x.toInt = -1 ∨ (0 ≤ x.toInt ∧ subS x f)
/-- the next value and that it is further on -/
theorem atS_next {x f : Int32} (h : atS x f) (hf : 0 ≤ f.toInt) (hne : ¬ x = f) : (0 ≤ x.toInt → subS ((x - f) &&& f) f ∧ x.toInt < ((x - f) &&& f).toInt ∧ ((x - f) &&& f).toInt ≤ f.toInt) := by
  intro h0
  rcases h with h | ⟨h1, h2⟩
  · omega
  · exact nxt_sub h2 hne h1 hf
def nf1 (σ : Sg) (w : Int32) (σ' : Sg) : Prop := Gl mdA σ σ' ∧ (w = 0 ∨ (w = 1 ∧ (σ.1 97 60).toInt < (σ'.1 97 60).toInt ∧ 0 ≤ (σ'.1 97 60).toInt ∧ subS (σ'.1 97 60) (σ.1 97 59) ∧ ((pop (σ'.1 97 60) : Nat) : Int) = (σ.1 132 0).toInt))
def nf2 (x1 : Int32) (σ : Sg) (w : Int32) (σ' : Sg) : Prop := Gl mdB σ σ' ∧ (w = 0 ∨ (w = 1 ∧ (σ.1 97 61).toInt < (σ'.1 97 61).toInt ∧ 0 ≤ (σ'.1 97 61).toInt ∧ subS (σ'.1 97 61) x1 ∧ ((pop (σ'.1 97 61) : Nat) : Int) = (σ.1 132 1).toInt))
theorem nextFirst_ok {d : Nat} : ∀ (m : Nat) (σ : Sg), typed TYP σ → atS (σ.1 97 60) (σ.1 97 59) → (65536 - (σ.1 97 60).toInt).toNat ≤ m → Rn PRG (d + 1) 259 0 [(0, .ref 97)] [] σ (fun v σ' => ∃ w : Int32, v = some (.int w) ∧ nf1 σ w σ') := by
  intro m
  induction m with
  | zero =>
    intro σ ht hat hm
    have := (tyF ht (q := 97) (κ := 12) (k := 60) (lo := -1) (hi := 65535) rfl rfl).2
    omega
  | succ m ih =>
    intro σ ht hat hm
    have hf := tyF ht (q := 97) (κ := 12) (k := 59) (lo := 0) (hi := 65535) rfl rfl
    have hx := tyF ht (q := 97) (κ := 12) (k := 60) (lo := -1) (hi := 65535) rfl rfl
    have main : ∀ y : Int32, (σ.1 97 60).toInt < y.toInt → 0 ≤ y.toInt → y.toInt ≤ 65535 → subS y (σ.1 97 59) → ∃ Qc : Int32 → Sg → Prop, OkI PRG d 209 [.int y] (s1 σ 97 60 y) Qc ∧ ∀ w2 σ1, Qc w2 σ1 → ((w2 = (σ1.1 132 0) → ∃ w : Int32, some (Value.int (1 : Int32)) = some (.int w) ∧ nf1 σ w σ1) ∧ (¬ w2 = (σ1.1 132 0) → Rn PRG (d + 1) 259 0 [(0, .ref 97)] [] σ1 (fun v σ' => ∃ w : Int32, v = some (.int w) ∧ nf1 σ w σ'))) := by
      intro y h1 h2 h3 h4
      have hG : Gl mdA σ (s1 σ 97 60 y) := wrG (κ := 12) (a := 60) (b := 60) (vl := 0) (vh := 65535) rfl rfl (Gl.refl ht) rfl (Nat.le_refl _) (Nat.le_refl _) h2 h3
      refine ⟨_, bits_ok, fun w2 σ1 hq => ?_⟩
      obtain ⟨rfl, hw⟩ := hq
      refine ⟨fun c => ⟨1, rfl, hG, Or.inr ⟨rfl, h1, h2, h4, ?_⟩⟩, fun c => ?_⟩
      · show ((pop y : Nat) : Int) = (σ.1 132 0).toInt
        rw [← hw, c]; rfl
      · refine (ih (s1 σ 97 60 y) hG.1 (Or.inr ⟨h2, h4⟩) ?_).mono (fun v σ' h => ?_)
        · show (65536 - y.toInt).toNat ≤ m
          omega
        · obtain ⟨w, rfl, g1, g2⟩ := h
          refine ⟨w, rfl, hG.trans g1 rfl, g2.imp_right (fun ⟨a1, a2, a3, a4, a5⟩ => ⟨a1, ?_, a3, a4, a5⟩)⟩
          have : ((s1 σ 97 60 y).1 97 60).toInt = y.toInt := rfl
          omega
    refine w_259_0 σ ⟨fun c => ⟨0, rfl, Gl.refl ht, Or.inl rfl⟩, fun c => ⟨fun h0 => ?_, fun h0 => ?_⟩⟩
    · rw [z_le] at h0
      obtain ⟨a1, a2, a3⟩ := atS_next hat hf.1 c h0
      exact main _ a2 (by omega) (by omega) a1
    · rw [z_le] at h0
      exact main 0 (by have : (0 : Int32).toInt = 0 := rfl; omega) (by decide) (by decide) subS_0
theorem nextFirst_OK {d : Nat} {σ : Sg} (ht : typed TYP σ) (hat : atS (σ.1 97 60) (σ.1 97 59)) : OkI PRG (d + 1) 259 [.ref 97] σ (nf1 σ) :=
  ⟨M_259, rfl, Nat.le_of_ble_eq_true rfl, nextFirst_ok _ σ ht hat (Nat.le_refl _)⟩
theorem nextSecond_ok {d : Nat} {x1 : Int32} (hf : 0 ≤ x1.toInt) (hf2 : x1.toInt ≤ 65535) : ∀ (m : Nat) (σ : Sg), typed TYP σ → atS (σ.1 97 61) x1 → (65536 - (σ.1 97 61).toInt).toNat ≤ m → Rn PRG (d + 1) 258 12 [(0, .ref 97), (1, .int x1)] [] σ (fun v σ' => ∃ w : Int32, v = some (.int w) ∧ nf2 x1 σ w σ') := by
  intro m
  induction m with
  | zero =>
    intro σ ht hat hm
    have := (tyF ht (q := 97) (κ := 12) (k := 61) (lo := -1) (hi := 65535) rfl rfl).2
    omega
  | succ m ih =>
    intro σ ht hat hm
    have hx := tyF ht (q := 97) (κ := 12) (k := 61) (lo := -1) (hi := 65535) rfl rfl
    have main : ∀ y : Int32, (σ.1 97 61).toInt < y.toInt → 0 ≤ y.toInt → y.toInt ≤ 65535 → subS y x1 → ∃ Qc : Int32 → Sg → Prop, OkI PRG d 209 [.int y] (s1 σ 97 61 y) Qc ∧ ∀ w2 σ1, Qc w2 σ1 → ((w2 = (σ1.1 132 1) → ∃ w : Int32, some (Value.int (1 : Int32)) = some (.int w) ∧ nf2 x1 σ w σ1) ∧ (¬ w2 = (σ1.1 132 1) → Rn PRG (d + 1) 258 12 [(0, .ref 97), (1, .int x1)] [] σ1 (fun v σ' => ∃ w : Int32, v = some (.int w) ∧ nf2 x1 σ w σ'))) := by
      intro y h1 h2 h3 h4
      have hG : Gl mdB σ (s1 σ 97 61 y) := wrG (κ := 12) (a := 61) (b := 61) (vl := 0) (vh := 65535) rfl rfl (Gl.refl ht) rfl (Nat.le_refl _) (Nat.le_refl _) h2 h3
      refine ⟨_, bits_ok, fun w2 σ1 hq => ?_⟩
      obtain ⟨rfl, hw⟩ := hq
      refine ⟨fun c => ⟨1, rfl, hG, Or.inr ⟨rfl, h1, h2, h4, ?_⟩⟩, fun c => ?_⟩
      · show ((pop y : Nat) : Int) = (σ.1 132 1).toInt
        rw [← hw, c]; rfl
      · refine (ih (s1 σ 97 61 y) hG.1 (Or.inr ⟨h2, h4⟩) ?_).mono (fun v σ' h => ?_)
        · show (65536 - y.toInt).toNat ≤ m
          omega
        · obtain ⟨w, rfl, g1, g2⟩ := h
          refine ⟨w, rfl, hG.trans g1 rfl, g2.imp_right (fun ⟨a1, a2, a3, a4, a5⟩ => ⟨a1, ?_, a3, a4, a5⟩)⟩
          have : ((s1 σ 97 61 y).1 97 61).toInt = y.toInt := rfl
          omega
    refine w_258_12 σ x1 ⟨fun c => ⟨0, rfl, Gl.refl ht, Or.inl rfl⟩, fun c => ⟨fun h0 => ?_, fun h0 => ?_⟩⟩
    · rw [z_le] at h0
      obtain ⟨a1, a2, a3⟩ := atS_next hat hf c h0
      exact main _ a2 (by omega) (by omega) a1
    · rw [z_le] at h0
      exact main 0 (by have : (0 : Int32).toInt = 0 := rfl; omega) (by decide) (by decide) subS_0
theorem nextSecond_OK {d : Nat} {σ : Sg} (ht : typed TYP σ) (hat : atS (σ.1 97 61) ((σ.1 97 59) &&& ((σ.1 97 60) ^^^ (-1 : Int32)))) : OkI PRG (d + 1) 258 [.ref 97] σ (nf2 ((σ.1 97 59) &&& ((σ.1 97 60) ^^^ (-1 : Int32))) σ) := by
  have hf := tyF ht (q := 97) (κ := 12) (k := 59) (lo := 0) (hi := 65535) rfl rfl
  have h3 := and_nn (y := (σ.1 97 60) ^^^ (-1 : Int32)) hf.1
  exact ⟨M_258, rfl, Nat.le_of_ble_eq_true rfl, w_258_0 σ (nextSecond_ok h3.1 (by omega) _ σ ht hat (Nat.le_refl _))⟩
/-! nextSets, nextDeal -/
def lft (σ : Sg) : Int32 := (σ.1 97 59) &&& ((σ.1 97 60) ^^^ (-1 : Int32))
/-- the two sets stand at parts of the free cards -/
def two (σ : Sg) : Prop := 0 ≤ (σ.1 97 60).toInt ∧ subS (σ.1 97 60) (σ.1 97 59) ∧ 0 ≤ (σ.1 97 61).toInt ∧ subS (σ.1 97 61) (lft σ) ∧ ((pop (σ.1 97 60) : Nat) : Int) = (σ.1 132 0).toInt ∧ ((pop (σ.1 97 61) : Nat) : Int) = (σ.1 132 1).toInt
/-- where the deals stand -/
def DSt (σ : Sg) : Prop := (σ.1 97 60).toInt = -1 ∨ two σ
def lexUp (σ σ' : Sg) : Prop := (σ.1 97 60).toInt < (σ'.1 97 60).toInt ∨ (σ'.1 97 60 = σ.1 97 60 ∧ (σ.1 97 61).toInt < (σ'.1 97 61).toInt)
def ns (σ : Sg) (w : Int32) (σ' : Sg) : Prop := Gl mdC σ σ' ∧ (w = 0 ∨ (w = 1 ∧ lexUp σ σ' ∧ two σ'))
theorem nextSets_go {d : Nat} : ∀ (m : Nat) (σ : Sg), typed TYP σ → atS (σ.1 97 60) (σ.1 97 59) → (65536 - (σ.1 97 60).toInt).toNat ≤ m → Rn PRG (d + 1 + 1) 260 16 [(0, .ref 97)] [] σ (fun v σ' => ∃ w : Int32, v = some (.int w) ∧ Gl mdC σ σ' ∧ (w = 0 ∨ (w = 1 ∧ (σ.1 97 60).toInt < (σ'.1 97 60).toInt ∧ two σ'))) := by
  intro m
  induction m with
  | zero =>
    intro σ ht hat hm
    have := (tyF ht (q := 97) (κ := 12) (k := 60) (lo := -1) (hi := 65535) rfl rfl).2
    omega
  | succ m ih =>
    intro σ ht hat hm
    have hx := tyF ht (q := 97) (κ := 12) (k := 60) (lo := -1) (hi := 65535) rfl rfl
    refine w_260_16 σ ⟨_, nextFirst_OK ht hat, fun w2 σ1 h1 => ?_⟩
    obtain ⟨g1, g2⟩ := h1
    refine ⟨fun c => ⟨0, rfl, g1.mono rfl, Or.inl rfl⟩, fun c => ?_⟩
    rcases g2 with g2 | ⟨-, a1, a2, a3, a4⟩
    · exact absurd g2 c
    have e59 : σ1.1 97 59 = σ.1 97 59 := g1.get (q := 97) (κ := 12) rfl rfl
    have e132 : ∀ k, σ1.1 132 k = σ.1 132 k := fun k => g1.get (q := 132) (κ := 88) rfl rfl
    have hG : Gl mdC σ (s1 σ1 97 61 (-1 : Int32)) := wrG (κ := 12) (a := 61) (b := 61) (vl := -1) (vh := -1) rfl rfl (g1.mono rfl) rfl (Nat.le_refl _) (Nat.le_refl _) (by decide) (by decide)
    refine ⟨_, nextSecond_OK hG.1 (Or.inl (show (-1 : Int32).toInt = -1 by decide)), fun w4 σ3 h3 => ?_⟩
    obtain ⟨k1, k2⟩ := h3
    have f60 : σ3.1 97 60 = σ1.1 97 60 := k1.get (q := 97) (κ := 12) rfl rfl
    have f59 : σ3.1 97 59 = σ1.1 97 59 := k1.get (q := 97) (κ := 12) rfl rfl
    have f132 : ∀ k, σ3.1 132 k = σ1.1 132 k := fun k => k1.get (q := 132) (κ := 88) rfl rfl
    have hG3 : Gl mdC σ σ3 := hG.trans k1 rfl
    refine ⟨fun c4 => ?_, fun c4 => ?_⟩
    · refine (ih σ3 hG3.1 (Or.inr ⟨by rw [f60]; exact a2, by rw [f60, f59, e59]; exact a3⟩) (by rw [f60]; omega)).mono (fun v σ' h => ?_)
      obtain ⟨w, rfl, b1, b2⟩ := h
      refine ⟨w, rfl, hG3.trans b1 rfl, b2.imp_right (fun ⟨c1, c2, c3⟩ => ⟨c1, ?_, c3⟩)⟩
      rw [f60] at c2
      omega
    · rcases k2 with k2 | ⟨-, b1, b2, b3, b4⟩
      · exact absurd k2 c4
      refine ⟨1, rfl, hG3, Or.inr ⟨rfl, by rw [f60]; exact a1, by rw [f60]; exact a2, by rw [f60, f59, e59]; exact a3, b2, ?_, by rw [f60, f132, e132]; exact a4, by rw [f132]; exact b4⟩⟩
      unfold lft
      rw [f59, f60]
      exact b3
theorem nextSets_OK {d : Nat} {σ : Sg} (ht : typed TYP σ) (hd : DSt σ) : OkI PRG (d + 1 + 1) 260 [.ref 97] σ (ns σ) := by
  refine ⟨M_260, rfl, Nat.le_of_ble_eq_true rfl, w_260_0 σ ⟨fun c => ?_, fun c => ?_⟩⟩
  · rw [z_lt] at c
    have hat : atS (σ.1 97 60) (σ.1 97 59) := by
      rcases hd with h | h
      · exact Or.inl h
      · exact absurd h.1 (by omega)
    refine (nextSets_go _ σ ht hat (Nat.le_refl _)).mono (fun v σ' h => ?_)
    obtain ⟨w, rfl, b1, b2⟩ := h
    exact ⟨w, rfl, b1, b2.imp_right (fun ⟨c1, c2, c3⟩ => ⟨c1, Or.inl c2, c3⟩)⟩
  · rw [z_lt] at c
    rcases hd with h | ⟨h1, h2, h3, h4, h5, h6⟩
    · exact absurd h (by omega)
    refine ⟨_, nextSecond_OK ht (Or.inr ⟨h3, h4⟩), fun w2 σ1 g => ?_⟩
    obtain ⟨k1, k2⟩ := g
    have f60 : σ1.1 97 60 = σ.1 97 60 := k1.get (q := 97) (κ := 12) rfl rfl
    have f59 : σ1.1 97 59 = σ.1 97 59 := k1.get (q := 97) (κ := 12) rfl rfl
    have f132 : ∀ k, σ1.1 132 k = σ.1 132 k := fun k => k1.get (q := 132) (κ := 88) rfl rfl
    refine ⟨fun c2 => ?_, fun c2 => ?_⟩
    · refine (nextSets_go _ σ1 k1.1 (Or.inr ⟨by rw [f60]; exact h1, by rw [f60, f59]; exact h2⟩) (Nat.le_refl _)).mono (fun v σ' h => ?_)
      obtain ⟨w, rfl, b1, b2⟩ := h
      refine ⟨w, rfl, (k1.mono rfl : Gl mdC σ σ1).trans b1 rfl, b2.imp_right (fun ⟨c1, c2, c3⟩ => ⟨c1, Or.inl (by rw [f60] at c2; exact c2), c3⟩)⟩
    · rcases k2 with k2 | ⟨-, b1, b2, b3, b4⟩
      · exact absurd k2 c2
      refine ⟨1, rfl, k1.mono rfl, Or.inr ⟨rfl, Or.inr ⟨f60, b1⟩, by rw [f60]; exact h1, by rw [f60, f59]; exact h2, b2, ?_, by rw [f60, f132]; exact h5, by rw [f132]; exact b4⟩⟩
      unfold lft
      rw [f59, f60]
      exact b3
/-- the deals left, in number -/
def dlm (σ : Sg) : Nat := ((65536 - (σ.1 97 60).toInt) * 131072 + (65536 - (σ.1 97 61).toInt)).toNat
theorem dlm_lt {σ σ' : Sg} (ht : typed TYP σ) (ht' : typed TYP σ') (h : lexUp σ σ') : dlm σ' < dlm σ := by
  have a := tyF ht (q := 97) (κ := 12) (k := 60) (lo := -1) (hi := 65535) rfl rfl
  have b := tyF ht (q := 97) (κ := 12) (k := 61) (lo := -1) (hi := 65535) rfl rfl
  have c := tyF ht' (q := 97) (κ := 12) (k := 60) (lo := -1) (hi := 65535) rfl rfl
  have e := tyF ht' (q := 97) (κ := 12) (k := 61) (lo := -1) (hi := 65535) rfl rfl
  unfold dlm
  rcases h with h | ⟨h1, h2⟩
  · omega
  · rw [h1]; omega
theorem lexUp.trans {σ σ1 σ2 : Sg} (h1 : lexUp σ σ1) (h2 : lexUp σ1 σ2) : lexUp σ σ2 := by
  unfold lexUp at *
  rcases h1 with h1 | ⟨h1, h3⟩ <;> rcases h2 with h2 | ⟨h2, h4⟩
  · exact Or.inl (by omega)
  · exact Or.inl (by rw [h2]; exact h1)
  · exact Or.inl (by rw [h1] at h2; exact h2)
  · exact Or.inr ⟨by rw [h2, h1], by omega⟩
/-- what fits may write; what nextDeal may write -/
def mdFit : List (Nat × Nat × Nat) := [(12, 44, 44), (79, 0, 13), (80, 0, 399)]
def mdDeal : List (Nat × Nat × Nat) := [(12, 44, 44), (79, 0, 13), (80, 0, 399), (12, 60, 61), (85, 0, 3)]
/-- the three other hands as the two sets say -/
def dealtAs (σ : Sg) : Prop := σ.1 129 (σ.1 130 0).toNatClampNeg = (σ.1 131 0 ||| σ.1 97 60) ∧ σ.1 129 (σ.1 130 1).toNatClampNeg = (σ.1 131 1 ||| σ.1 97 61) ∧ σ.1 129 (σ.1 130 2).toNatClampNeg = (σ.1 131 2 ||| (lft σ &&& (σ.1 97 61 ^^^ (-1 : Int32))))
/-- the three others are not one another -/
def apart3 (σ : Sg) : Prop := ¬ (σ.1 130 0).toNatClampNeg = (σ.1 130 1).toNatClampNeg ∧ ¬ (σ.1 130 0).toNatClampNeg = (σ.1 130 2).toNatClampNeg ∧ ¬ (σ.1 130 1).toNatClampNeg = (σ.1 130 2).toNatClampNeg
def nd (σ : Sg) (w : Int32) (σ' : Sg) : Prop := Gl mdDeal σ σ' ∧ (w = 0 ∨ (w = 1 ∧ lexUp σ σ' ∧ two σ' ∧ dealtAs σ' ∧ ∀ p, ¬ p = (σ.1 130 0).toNatClampNeg → ¬ p = (σ.1 130 1).toNatClampNeg → ¬ p = (σ.1 130 2).toNatClampNeg → σ'.1 129 p = σ.1 129 p))
theorem s1_off {σ : Sg} {q k : Nat} {x : Int32} {q' k' : Nat} (h : ¬ (q' = q ∧ k' = k)) : (s1 σ q k x).1 q' k' = σ.1 q' k' := if_neg h
theorem s1_on {σ : Sg} {q k : Nat} {x : Int32} : (s1 σ q k x).1 q k = x := if_pos ⟨rfl, rfl⟩
theorem or_16 {x y : Int32} (hx : 0 ≤ x.toInt ∧ x.toInt ≤ 65535) (hy : 0 ≤ y.toInt ∧ y.toInt ≤ 65535) : 0 ≤ (x ||| y).toInt ∧ (x ||| y).toInt ≤ 65535 := by
  have := or_nn (k := 16) (by omega) hx.1 hy.1 (by omega) (by omega)
  omega
theorem nextDeal_go {d : Nat} {J : Sg → Prop} (hJ : ∀ σ σ', Gl mdDeal σ σ' → J σ → J σ') (hfit : ∀ σ, typed TYP σ → J σ → OkI PRG (d + 1 + 1) 261 [.ref 97] σ (fun w σ' => (w = 0 ∨ w = 1) ∧ Gl mdFit σ σ')) : ∀ (m : Nat) (σ : Sg), typed TYP σ → J σ → apart3 σ → DSt σ → dlm σ ≤ m → Rn PRG (d + 1 + 1 + 1) 262 0 [(0, .ref 97)] [] σ (fun v σ' => ∃ w : Int32, v = some (.int w) ∧ nd σ w σ') := by
  intro m
  induction m with
  | zero =>
    intro σ ht hj hap hd hm
    have a := tyF ht (q := 97) (κ := 12) (k := 60) (lo := -1) (hi := 65535) rfl rfl
    have b := tyF ht (q := 97) (κ := 12) (k := 61) (lo := -1) (hi := 65535) rfl rfl
    unfold dlm at hm
    omega
  | succ m ih =>
    intro σ ht hj hap hd hm
    refine w_262_0 σ ⟨_, nextSets_OK ht hd, fun w2 σ1 h1 => ?_⟩
    obtain ⟨g1, g2⟩ := h1
    refine ⟨fun c => ⟨0, rfl, g1.mono rfl, Or.inl rfl⟩, fun c => ?_⟩
    rcases g2 with g2 | ⟨-, hl, ht2⟩
    · exact absurd g2 c
    have e130 : ∀ k, σ1.1 130 k = σ.1 130 k := fun k => g1.get (q := 130) (κ := 86) rfl rfl
    have e129 : ∀ k, σ1.1 129 k = σ.1 129 k := fun k => g1.get (q := 129) (κ := 85) rfl rfl
    have o0 := tyA g1.1 (q := 130) (κ := 86) (k := 0) (a := 0) (b := 2) (lo := 0) (hi := 3) rfl rfl (by omega) (by omega)
    have o1 := tyA g1.1 (q := 130) (κ := 86) (k := 1) (a := 0) (b := 2) (lo := 0) (hi := 3) rfl rfl (by omega) (by omega)
    have o2 := tyA g1.1 (q := 130) (κ := 86) (k := 2) (a := 0) (b := 2) (lo := 0) (hi := 3) rfl rfl (by omega) (by omega)
    have n0 := tyA g1.1 (q := 131) (κ := 87) (k := 0) (a := 0) (b := 2) (lo := 0) (hi := 65535) rfl rfl (by omega) (by omega)
    have n1 := tyA g1.1 (q := 131) (κ := 87) (k := 1) (a := 0) (b := 2) (lo := 0) (hi := 65535) rfl rfl (by omega) (by omega)
    have n2 := tyA g1.1 (q := 131) (κ := 87) (k := 2) (a := 0) (b := 2) (lo := 0) (hi := 65535) rfl rfl (by omega) (by omega)
    have f60 := tyF g1.1 (q := 97) (κ := 12) (k := 60) (lo := -1) (hi := 65535) rfl rfl
    have f61 := tyF g1.1 (q := 97) (κ := 12) (k := 61) (lo := -1) (hi := 65535) rfl rfl
    have f59 := tyF g1.1 (q := 97) (κ := 12) (k := 59) (lo := 0) (hi := 65535) rfl rfl
    have hr : 0 ≤ (((σ1.1 97 59) &&& ((σ1.1 97 60) ^^^ (-1 : Int32))) &&& ((σ1.1 97 61) ^^^ (-1 : Int32))).toInt ∧ (((σ1.1 97 59) &&& ((σ1.1 97 60) ^^^ (-1 : Int32))) &&& ((σ1.1 97 61) ^^^ (-1 : Int32))).toInt ≤ 65535 := by
      have h3 := and_nn (y := (σ1.1 97 60) ^^^ (-1 : Int32)) f59.1
      have h4 := and_nn (y := (σ1.1 97 61) ^^^ (-1 : Int32)) h3.1
      omega
    have hk : ∀ {x : Int32}, 0 ≤ x.toInt → x.toInt ≤ 3 → x.toNatClampNeg ≤ 3 := by
      intro x h1 h2
      show x.toInt.toNat ≤ 3
      omega
    have r0 := or_16 n0 ⟨ht2.1, f60.2⟩
    have r1 := or_16 n1 ⟨ht2.2.2.1, f61.2⟩
    have r2 := or_16 n2 hr
    refine ⟨inR_ok o0.1 (by omega), inR_ok o1.1 (by omega), inR_ok o2.1 (by omega), ?_⟩
    have hG1 : Gl mdDeal σ σ1 := g1.mono rfl
    have hG2 := wrG (x := (σ1.1 131 0) ||| (σ1.1 97 60)) (q := 129) (κ := 85) (a := 0) (b := 3) (vl := 0) (vh := 65535) rfl rfl hG1 rfl (Nat.zero_le _) (hk o0.1 o0.2) r0.1 r0.2
    have hG3 := wrG (x := (σ1.1 131 1) ||| (σ1.1 97 61)) (q := 129) (κ := 85) (a := 0) (b := 3) (vl := 0) (vh := 65535) rfl rfl hG2 rfl (Nat.zero_le _) (hk o1.1 o1.2) r1.1 r1.2
    have hG4 := wrG (q := 129) (κ := 85) (a := 0) (b := 3) (vl := 0) (vh := 65535) rfl rfl hG3 rfl (Nat.zero_le _) (hk o2.1 o2.2) r2.1 r2.2
    refine ⟨_, hfit _ hG4.1 (hJ σ _ hG4 hj), fun w4 σ3 h3 => ?_⟩
    obtain ⟨hw4, k1⟩ := h3
    have hG5 : Gl mdDeal σ σ3 := hG4.trans k1 rfl
    have m60 : σ3.1 97 60 = σ1.1 97 60 := k1.get (q := 97) (κ := 12) rfl rfl
    have m61 : σ3.1 97 61 = σ1.1 97 61 := k1.get (q := 97) (κ := 12) rfl rfl
    have m59 : σ3.1 97 59 = σ1.1 97 59 := k1.get (q := 97) (κ := 12) rfl rfl
    have m132 : ∀ k, σ3.1 132 k = σ1.1 132 k := fun k => k1.get (q := 132) (κ := 88) rfl rfl
    have m130 : ∀ k, σ3.1 130 k = σ1.1 130 k := fun k => k1.get (q := 130) (κ := 86) rfl rfl
    have m131 : ∀ k, σ3.1 131 k = σ1.1 131 k := fun k => k1.get (q := 131) (κ := 87) rfl rfl
    have m129 := fun k => k1.get (q := 129) (κ := 85) (k := k) rfl rfl
    have hup : lexUp σ σ3 := by unfold lexUp; rw [m60, m61]; exact hl
    have htw : two σ3 := by
      unfold two lft
      rw [m60, m61, m59, m132, m132]
      exact ht2
    have hap1 : apart3 σ1 := by unfold apart3; rw [e130, e130, e130]; exact hap
    refine ⟨fun c4 => ?_, fun c4 => ⟨1, rfl, hG5, Or.inr ⟨rfl, hup, htw, ?_, ?_⟩⟩⟩
    · have hap3 : apart3 σ3 := by unfold apart3; rw [m130, m130, m130]; exact hap1
      refine (ih σ3 hG5.1 (hJ σ _ hG5 hj) hap3 (Or.inr htw) (by have := dlm_lt ht hG5.1 hup; omega)).mono (fun v σ' h => ?_)
      obtain ⟨w, rfl, b1, b2⟩ := h
      refine ⟨w, rfl, hG5.trans b1 rfl, b2.imp_right (fun ⟨c1, c2, c3, c4, c5⟩ => ⟨c1, hup.trans c2, c3, c4, fun p p1 p2 p3 => ?_⟩)⟩
      rw [c5 p (by rw [m130, e130]; exact p1) (by rw [m130, e130]; exact p2) (by rw [m130, e130]; exact p3), m129]
      rw [s1_off (by rw [e130]; exact fun h => p3 h.2), s1_off (by rw [e130]; exact fun h => p2 h.2), s1_off (by rw [e130]; exact fun h => p1 h.2), e129]
    · unfold dealtAs lft
      rw [m129, m129, m129, m130, m130, m130, m131, m131, m131, m60, m61, m59]
      refine ⟨?_, ?_, s1_on⟩
      · rw [s1_off (fun h => hap1.2.1 h.2), s1_off (fun h => hap1.1 h.2)]
        exact s1_on
      · rw [s1_off (fun h => hap1.2.2 h.2)]
        exact s1_on
    · intro p p1 p2 p3
      rw [m129, s1_off (by rw [e130]; exact fun h => p3 h.2), s1_off (by rw [e130]; exact fun h => p2 h.2), s1_off (by rw [e130]; exact fun h => p1 h.2), e129]
