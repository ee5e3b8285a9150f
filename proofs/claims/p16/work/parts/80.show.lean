/-! what is shown: what must hold -/
set_option maxRecDepth 100000 in
theorem w_227_0 {d : Nat} {Q : Option Value → Sg → Prop} (σ : Sg) (x1 x2 : Int32) (h : (((σ.1 97 45) = 0 → Q (some (.int (-1 : Int32))) σ) ∧ (¬ (σ.1 97 45) = 0 → (∃ Qc : Int32 → Sg → Prop, OkI PRG d 216 [.int x1] σ Qc ∧ ∀ w2 σ1, Qc w2 σ1 → ((w2 = 0 → Q (some (.int (-1 : Int32))) σ1) ∧ (¬ w2 = 0 → ((x2 = 0 → (∃ Qc : Int32 → Sg → Prop, OkI PRG d 226 [.ref 97, .int x1] σ1 Qc ∧ ∀ w4 σ3, Qc w4 σ3 → Q (some (.int w4)) σ3)) ∧ (¬ x2 = 0 → (inR x1 4 = true ∧ Q (some (.int (σ1.1 125 x1.toNatClampNeg))) σ1))))))))) : Rn PRG (d + 1) 227 0 [(0, .ref 97), (1, .int x1), (2, .int x2)] [] σ Q := by
  have hM : PRG[227]? = some M_227 := rfl
  refine Rn.br (c := (σ.1 97 45) = 0) (a := 14) (b := 7) (ls' := [(0, .ref 97), (1, .int x1), (2, .int x2)]) (st' := []) (σ' := σ) hM 3 rfl (fun c => ?_) (fun c => ?_)
  · replace h := h.1 c
    refine Rn.seg (pc' := 36) (ls' := [(0, .ref 97), (1, .int x1), (2, .int x2)]) (st' := [.int (-1 : Int32)]) (σ' := σ) hM 2 rfl ?_
    exact Rn.ret hM rfl rfl h
  · replace h := h.2 c
    refine Rn.seg (pc' := 8) (ls' := [(0, .ref 97), (1, .int x1), (2, .int x2)]) (st' := [.int x1]) (σ' := σ) hM 1 rfl ?_
    obtain ⟨Qc, hq, h⟩ := h
    refine Rn.cI hM rfl rfl (by decide) hq (fun w2 σ1 hw => ?_)
    replace h := h w2 σ1 hw
    refine Rn.brN (c := w2 = 0) (a := 18) (b := 14) (ls' := [(0, .ref 97), (1, .int x1), (2, .int x2)]) (st' := []) (σ' := σ1) hM 1 rfl (fun c => ?_) (fun c => ?_)
    · replace h := h.2 c
      refine Rn.br (c := x2 = 0) (a := 31) (b := 22) (ls' := [(0, .ref 97), (1, .int x1), (2, .int x2)]) (st' := []) (σ' := σ1) hM 2 rfl (fun c => ?_) (fun c => ?_)
      · replace h := h.1 c
        refine Rn.seg (pc' := 33) (ls' := [(0, .ref 97), (1, .int x1), (2, .int x2)]) (st' := [.int x1, .ref 97]) (σ' := σ1) hM 2 rfl ?_
        obtain ⟨Qc, hq, h⟩ := h
        refine Rn.cI hM rfl rfl (by decide) hq (fun w4 σ3 hw => ?_)
        replace h := h w4 σ3 hw
        refine Rn.seg (pc' := 36) (ls' := [(0, .ref 97), (1, .int x1), (2, .int x2)]) (st' := [.int w4]) (σ' := σ3) hM 0 rfl ?_
        exact Rn.ret hM rfl rfl h
      · replace h := h.2 c
        refine Rn.seg (pc' := 27) (ls' := [(0, .ref 97), (1, .int x1), (2, .int x2)]) (st' := [.int x1, .ref 125]) (σ' := σ1) hM 3 rfl ?_
        refine Rn.iald hM rfl rfl h.1 ?_
        refine Rn.seg (pc' := 36) (ls' := [(0, .ref 97), (1, .int x1), (2, .int x2)]) (st' := [.int (σ1.1 125 x1.toNatClampNeg)]) (σ' := σ1) hM 1 rfl ?_
        exact Rn.ret hM rfl rfl h.2
    · replace h := h.1 c
      refine Rn.seg (pc' := 36) (ls' := [(0, .ref 97), (1, .int x1), (2, .int x2)]) (st' := [.int (-1 : Int32)]) (σ' := σ1) hM 2 rfl ?_
      exact Rn.ret hM rfl rfl h
set_option maxRecDepth 100000 in
theorem w_231_0 {d : Nat} {Q : Option Value → Sg → Prop} (σ : Sg) (h : (∃ Qc : Int32 → Sg → Prop, OkI PRG d 230 [.ref 97] σ Qc ∧ ∀ w2 σ1, Qc w2 σ1 → Q (some (.int w2)) σ1)) : Rn PRG (d + 1) 231 0 [(0, .ref 97)] [] σ Q := by
  have hM : PRG[231]? = some M_231 := rfl
  refine Rn.seg (pc' := 1) (ls' := [(0, .ref 97)]) (st' := [.ref 97]) (σ' := σ) hM 1 rfl ?_
  obtain ⟨Qc, hq, h⟩ := h
  refine Rn.cI hM rfl rfl (by decide) hq (fun w2 σ1 hw => ?_)
  replace h := h w2 σ1 hw
  refine Rn.seg (pc' := 4) (ls' := [(0, .ref 97)]) (st' := [.int w2]) (σ' := σ1) hM 0 rfl ?_
  exact Rn.ret hM rfl rfl h
set_option maxRecDepth 100000 in
theorem w_234_0 {d : Nat} {Q : Option Value → Sg → Prop} (σ : Sg) (h : (∃ Qc : Int32 → Sg → Prop, OkI PRG d 233 [.ref 97] σ Qc ∧ ∀ w2 σ1, Qc w2 σ1 → Q (some (.int w2)) σ1)) : Rn PRG (d + 1) 234 0 [(0, .ref 97)] [] σ Q := by
  have hM : PRG[234]? = some M_234 := rfl
  refine Rn.seg (pc' := 1) (ls' := [(0, .ref 97)]) (st' := [.ref 97]) (σ' := σ) hM 1 rfl ?_
  obtain ⟨Qc, hq, h⟩ := h
  refine Rn.cI hM rfl rfl (by decide) hq (fun w2 σ1 hw => ?_)
  replace h := h w2 σ1 hw
  refine Rn.seg (pc' := 4) (ls' := [(0, .ref 97)]) (st' := [.int w2]) (σ' := σ1) hM 0 rfl ?_
  exact Rn.ret hM rfl rfl h
set_option maxRecDepth 100000 in
theorem w_240_0 {d : Nat} {Q : Option Value → Sg → Prop} (σ : Sg) (x1 : Int32) (h : (∃ Qc : Int32 → Sg → Prop, OkI PRG d 232 [.ref 97, .int x1] σ Qc ∧ ∀ w2 σ1, Qc w2 σ1 → ((w2 = (-1 : Int32) → Q (some (.int (0 : Int32))) σ1) ∧ (¬ w2 = (-1 : Int32) → (inR x1 16 = true ∧ (∃ Qc : Int32 → Sg → Prop, OkI PRG d 212 [.ref 97, .int (σ1.1 126 x1.toNatClampNeg)] σ1 Qc ∧ ∀ w4 σ3, Qc w4 σ3 → ((w4 = w2 → Q (some (.int (1 : Int32))) σ3) ∧ (¬ w4 = w2 → Q (some (.int (2 : Int32))) σ3)))))))) : Rn PRG (d + 1) 240 0 [(0, .ref 97), (1, .int x1)] [] σ Q := by
  have hM : PRG[240]? = some M_240 := rfl
  refine Rn.seg (pc' := 2) (ls' := [(0, .ref 97), (1, .int x1)]) (st' := [.int x1, .ref 97]) (σ' := σ) hM 2 rfl ?_
  obtain ⟨Qc, hq, h⟩ := h
  refine Rn.cI hM rfl rfl (by decide) hq (fun w2 σ1 hw => ?_)
  replace h := h w2 σ1 hw
  refine Rn.brN (c := w2 = (-1 : Int32)) (a := 15) (b := 11) (ls' := [(2, .int w2), (0, .ref 97), (1, .int x1)]) (st' := []) (σ' := σ1) hM 4 rfl (fun c => ?_) (fun c => ?_)
  · replace h := h.2 c
    refine Rn.seg (pc' := 21) (ls' := [(2, .int w2), (0, .ref 97), (1, .int x1)]) (st' := [.int x1, .ref 126, .ref 97]) (σ' := σ1) hM 4 rfl ?_
    refine Rn.iald hM rfl rfl h.1 ?_
    refine Rn.seg (pc' := 22) (ls' := [(2, .int w2), (0, .ref 97), (1, .int x1)]) (st' := [.int (σ1.1 126 x1.toNatClampNeg), .ref 97]) (σ' := σ1) hM 0 rfl ?_
    obtain ⟨Qc, hq, h⟩ := h.2
    refine Rn.cI hM rfl rfl (by decide) hq (fun w4 σ3 hw => ?_)
    replace h := h w4 σ3 hw
    refine Rn.brN (c := w4 = w2) (a := 33) (b := 29) (ls' := [(2, .int w2), (0, .ref 97), (1, .int x1)]) (st' := []) (σ' := σ3) hM 2 rfl (fun c => ?_) (fun c => ?_)
    · replace h := h.2 c
      refine Rn.seg (pc' := 34) (ls' := [(2, .int w2), (0, .ref 97), (1, .int x1)]) (st' := [.int (2 : Int32)]) (σ' := σ3) hM 1 rfl ?_
      exact Rn.ret hM rfl rfl h
    · replace h := h.1 c
      refine Rn.seg (pc' := 34) (ls' := [(2, .int w2), (0, .ref 97), (1, .int x1)]) (st' := [.int (1 : Int32)]) (σ' := σ3) hM 2 rfl ?_
      exact Rn.ret hM rfl rfl h
  · replace h := h.1 c
    refine Rn.seg (pc' := 34) (ls' := [(2, .int w2), (0, .ref 97), (1, .int x1)]) (st' := [.int (0 : Int32)]) (σ' := σ1) hM 2 rfl ?_
    exact Rn.ret hM rfl rfl h
set_option maxRecDepth 100000 in
theorem w_242_0 {d : Nat} {Q : Option Value → Sg → Prop} (σ : Sg) (x1 : Int32) (h : (inR x1 16 = true ∧ (∃ Qc : Int32 → Sg → Prop, OkI PRG d 240 [.ref 97, .int x1] σ Qc ∧ ∀ w2 σ1, Qc w2 σ1 → ((w2 = (2 : Int32) → (inR (σ.1 127 x1.toNatClampNeg) 4 = true ∧ (∃ Qc : Int32 → Sg → Prop, OkI PRG d 225 [.ref 97, .int (σ.1 127 x1.toNatClampNeg), .int x1] σ1 Qc ∧ ∀ w4 σ3, Qc w4 σ3 → (∃ Qc : Int32 → Sg → Prop, OkI PRG d 232 [.ref 97, .int x1] σ3 Qc ∧ ∀ w6 σ5, Qc w6 σ5 → (∃ Qc : Int32 → Sg → Prop, OkI PRG d 215 [.ref 97, .int w6] σ5 Qc ∧ ∀ w8 σ7, Qc w8 σ7 → (((((σ1.1 125 (σ.1 127 x1.toNatClampNeg).toNatClampNeg) &&& (w4 ^^^ (-1 : Int32))) &&& w8) = 0 → Q (some (.int (0 : Int32))) σ7) ∧ (¬ (((σ1.1 125 (σ.1 127 x1.toNatClampNeg).toNatClampNeg) &&& (w4 ^^^ (-1 : Int32))) &&& w8) = 0 → Q (some (.int (1 : Int32))) σ7))))))) ∧ (¬ w2 = (2 : Int32) → Q (some (.int (0 : Int32))) σ1))))) : Rn PRG (d + 1) 242 0 [(0, .ref 97), (1, .int x1)] [] σ Q := by
  have hM : PRG[242]? = some M_242 := rfl
  refine Rn.seg (pc' := 5) (ls' := [(0, .ref 97), (1, .int x1)]) (st' := [.int x1, .ref 127]) (σ' := σ) hM 3 rfl ?_
  refine Rn.iald hM rfl rfl h.1 ?_
  refine Rn.seg (pc' := 9) (ls' := [(2, .int (σ.1 127 x1.toNatClampNeg)), (0, .ref 97), (1, .int x1)]) (st' := [.int x1, .ref 97]) (σ' := σ) hM 3 rfl ?_
  obtain ⟨Qc, hq, h⟩ := h.2
  refine Rn.cI hM rfl rfl (by decide) hq (fun w2 σ1 hw => ?_)
  replace h := h w2 σ1 hw
  refine Rn.brN (c := w2 = (2 : Int32)) (a := 48) (b := 16) (ls' := [(2, .int (σ.1 127 x1.toNatClampNeg)), (0, .ref 97), (1, .int x1)]) (st' := []) (σ' := σ1) hM 2 rfl (fun c => ?_) (fun c => ?_)
  · replace h := h.2 c
    refine Rn.seg (pc' := 49) (ls' := [(2, .int (σ.1 127 x1.toNatClampNeg)), (0, .ref 97), (1, .int x1)]) (st' := [.int (0 : Int32)]) (σ' := σ1) hM 1 rfl ?_
    exact Rn.ret hM rfl rfl h
  · replace h := h.1 c
    refine Rn.seg (pc' := 21) (ls' := [(2, .int (σ.1 127 x1.toNatClampNeg)), (0, .ref 97), (1, .int x1)]) (st' := [.int (σ.1 127 x1.toNatClampNeg), .ref 125]) (σ' := σ1) hM 3 rfl ?_
    refine Rn.iald hM rfl rfl h.1 ?_
    refine Rn.seg (pc' := 25) (ls' := [(2, .int (σ.1 127 x1.toNatClampNeg)), (0, .ref 97), (1, .int x1)]) (st' := [.int x1, .int (σ.1 127 x1.toNatClampNeg), .ref 97, .int (σ1.1 125 (σ.1 127 x1.toNatClampNeg).toNatClampNeg)]) (σ' := σ1) hM 3 rfl ?_
    obtain ⟨Qc, hq, h⟩ := h.2
    refine Rn.cI hM rfl rfl (by decide) hq (fun w4 σ3 hw => ?_)
    replace h := h w4 σ3 hw
    refine Rn.seg (pc' := 34) (ls' := [(2, .int (σ.1 127 x1.toNatClampNeg)), (0, .ref 97), (1, .int x1)]) (st' := [.int x1, .ref 97, .ref 97, .int ((σ1.1 125 (σ.1 127 x1.toNatClampNeg).toNatClampNeg) &&& (w4 ^^^ (-1 : Int32)))]) (σ' := σ3) hM 6 rfl ?_
    obtain ⟨Qc, hq, h⟩ := h
    refine Rn.cI hM rfl rfl (by decide) hq (fun w6 σ5 hw => ?_)
    replace h := h w6 σ5 hw
    refine Rn.seg (pc' := 37) (ls' := [(2, .int (σ.1 127 x1.toNatClampNeg)), (0, .ref 97), (1, .int x1)]) (st' := [.int w6, .ref 97, .int ((σ1.1 125 (σ.1 127 x1.toNatClampNeg).toNatClampNeg) &&& (w4 ^^^ (-1 : Int32)))]) (σ' := σ5) hM 0 rfl ?_
    obtain ⟨Qc, hq, h⟩ := h
    refine Rn.cI hM rfl rfl (by decide) hq (fun w8 σ7 hw => ?_)
    replace h := h w8 σ7 hw
    refine Rn.br (c := (((σ1.1 125 (σ.1 127 x1.toNatClampNeg).toNatClampNeg) &&& (w4 ^^^ (-1 : Int32))) &&& w8) = 0) (a := 48) (b := 44) (ls' := [(2, .int (σ.1 127 x1.toNatClampNeg)), (0, .ref 97), (1, .int x1)]) (st' := []) (σ' := σ7) hM 2 rfl (fun c => ?_) (fun c => ?_)
    · replace h := h.1 c
      refine Rn.seg (pc' := 49) (ls' := [(2, .int (σ.1 127 x1.toNatClampNeg)), (0, .ref 97), (1, .int x1)]) (st' := [.int (0 : Int32)]) (σ' := σ7) hM 1 rfl ?_
      exact Rn.ret hM rfl rfl h
    · replace h := h.2 c
      refine Rn.seg (pc' := 49) (ls' := [(2, .int (σ.1 127 x1.toNatClampNeg)), (0, .ref 97), (1, .int x1)]) (st' := [.int (1 : Int32)]) (σ' := σ7) hM 2 rfl ?_
      exact Rn.ret hM rfl rfl h
set_option maxRecDepth 100000 in
theorem w_243_0 {d : Nat} {Q : Option Value → Sg → Prop} (σ : Sg) (x1 : Int32) (h : (∃ Qc : Int32 → Sg → Prop, OkI PRG d 242 [.ref 97, .int x1] σ Qc ∧ ∀ w2 σ1, Qc w2 σ1 → ((w2 = 0 → Q (some (.int (-2 : Int32))) σ1) ∧ (¬ w2 = 0 → Rn PRG (d + 1) 243 15 [(0, .ref 97), (1, .int x1), (2, .int (x1 + (1 : Int32)))] [] σ1 Q)))) : Rn PRG (d + 1) 243 0 [(0, .ref 97), (1, .int x1)] [] σ Q := by
  have hM : PRG[243]? = some M_243 := rfl
  refine Rn.seg (pc' := 2) (ls' := [(0, .ref 97), (1, .int x1)]) (st' := [.int x1, .ref 97]) (σ' := σ) hM 2 rfl ?_
  obtain ⟨Qc, hq, h⟩ := h
  refine Rn.cI hM rfl rfl (by decide) hq (fun w2 σ1 hw => ?_)
  replace h := h w2 σ1 hw
  refine Rn.brN (c := w2 = 0) (a := 11) (b := 8) (ls' := [(0, .ref 97), (1, .int x1)]) (st' := []) (σ' := σ1) hM 1 rfl (fun c => ?_) (fun c => ?_)
  · replace h := h.2 c
    refine Rn.seg (pc' := 15) (ls' := [(2, .int (x1 + (1 : Int32))), (0, .ref 97), (1, .int x1)]) (st' := []) (σ' := σ1) hM 4 rfl ?_
    exact Rn.sub h (subL_cons rfl (subL_cons rfl (subL_cons rfl subL_nil))) (show ndL _ from (by decide : List.Nodup ([0, 1, 2] : List Nat)))
  · replace h := h.1 c
    refine Rn.seg (pc' := 10) (ls' := [(0, .ref 97), (1, .int x1)]) (st' := [.int (-2 : Int32)]) (σ' := σ1) hM 1 rfl ?_
    exact Rn.ret hM rfl rfl h
set_option maxRecDepth 100000 in
theorem w_243_15 {d : Nat} {Q : Option Value → Sg → Prop} (σ : Sg) (x1 x2 : Int32) (h : (((σ.1 97 48) ≤ x2 → Q (some (.int (-2 : Int32))) σ) ∧ (¬ (σ.1 97 48) ≤ x2 → (inR x2 16 = true ∧ (inR x1 16 = true ∧ (((σ.1 127 x2.toNatClampNeg) = (σ.1 127 x1.toNatClampNeg) → (inR x2 16 = true ∧ (∃ Qc : Int32 → Sg → Prop, OkI PRG d 212 [.ref 97, .int (σ.1 126 x2.toNatClampNeg)] σ Qc ∧ ∀ w2 σ1, Qc w2 σ1 → (∃ Qc : Int32 → Sg → Prop, OkI PRG d 232 [.ref 97, .int x1] σ1 Qc ∧ ∀ w4 σ3, Qc w4 σ3 → ((w2 = w4 → Q (some (.int x2)) σ3) ∧ (¬ w2 = w4 → Rn PRG (d + 1) 243 15 [(0, .ref 97), (1, .int x1), (2, .int (x2 + (1 : Int32)))] [] σ3 Q)))))) ∧ (¬ (σ.1 127 x2.toNatClampNeg) = (σ.1 127 x1.toNatClampNeg) → Rn PRG (d + 1) 243 15 [(0, .ref 97), (1, .int x1), (2, .int (x2 + (1 : Int32)))] [] σ Q))))))) : Rn PRG (d + 1) 243 15 [(0, .ref 97), (1, .int x1), (2, .int x2)] [] σ Q := by
  have hM : PRG[243]? = some M_243 := rfl
  refine Rn.br (c := (σ.1 97 48) ≤ x2) (a := 64) (b := 23) (ls' := [(0, .ref 97), (1, .int x1), (2, .int x2)]) (st' := []) (σ' := σ) hM 4 rfl (fun c => ?_) (fun c => ?_)
  · replace h := h.1 c
    refine Rn.seg (pc' := 66) (ls' := [(0, .ref 97), (1, .int x1), (2, .int x2)]) (st' := [.int (-2 : Int32)]) (σ' := σ) hM 1 rfl ?_
    exact Rn.ret hM rfl rfl h
  · replace h := h.2 c
    refine Rn.seg (pc' := 28) (ls' := [(0, .ref 97), (1, .int x1), (2, .int x2)]) (st' := [.int x2, .ref 127]) (σ' := σ) hM 3 rfl ?_
    refine Rn.iald hM rfl rfl h.1 ?_
    refine Rn.seg (pc' := 34) (ls' := [(0, .ref 97), (1, .int x1), (2, .int x2)]) (st' := [.int x1, .ref 127, .int (σ.1 127 x2.toNatClampNeg)]) (σ' := σ) hM 3 rfl ?_
    refine Rn.iald hM rfl rfl h.2.1 ?_
    refine Rn.brN (c := (σ.1 127 x2.toNatClampNeg) = (σ.1 127 x1.toNatClampNeg)) (a := 58) (b := 38) (ls' := [(0, .ref 97), (1, .int x1), (2, .int x2)]) (st' := []) (σ' := σ) hM 1 rfl (fun c => ?_) (fun c => ?_)
    · replace h := h.2.2.2 c
      refine Rn.seg (pc' := 15) (ls' := [(2, .int (x2 + (1 : Int32))), (0, .ref 97), (1, .int x1)]) (st' := []) (σ' := σ) hM 2 rfl ?_
      exact Rn.sub h (subL_cons rfl (subL_cons rfl (subL_cons rfl subL_nil))) (show ndL _ from (by decide : List.Nodup ([0, 1, 2] : List Nat)))
    · replace h := h.2.2.1 c
      refine Rn.seg (pc' := 44) (ls' := [(0, .ref 97), (1, .int x1), (2, .int x2)]) (st' := [.int x2, .ref 126, .ref 97]) (σ' := σ) hM 4 rfl ?_
      refine Rn.iald hM rfl rfl h.1 ?_
      refine Rn.seg (pc' := 45) (ls' := [(0, .ref 97), (1, .int x1), (2, .int x2)]) (st' := [.int (σ.1 126 x2.toNatClampNeg), .ref 97]) (σ' := σ) hM 0 rfl ?_
      obtain ⟨Qc, hq, h⟩ := h.2
      refine Rn.cI hM rfl rfl (by decide) hq (fun w2 σ1 hw => ?_)
      replace h := h w2 σ1 hw
      refine Rn.seg (pc' := 50) (ls' := [(0, .ref 97), (1, .int x1), (2, .int x2)]) (st' := [.int x1, .ref 97, .int w2]) (σ' := σ1) hM 2 rfl ?_
      obtain ⟨Qc, hq, h⟩ := h
      refine Rn.cI hM rfl rfl (by decide) hq (fun w4 σ3 hw => ?_)
      replace h := h w4 σ3 hw
      refine Rn.brN (c := w2 = w4) (a := 58) (b := 56) (ls' := [(0, .ref 97), (1, .int x1), (2, .int x2)]) (st' := []) (σ' := σ3) hM 1 rfl (fun c => ?_) (fun c => ?_)
      · replace h := h.2 c
        refine Rn.seg (pc' := 15) (ls' := [(2, .int (x2 + (1 : Int32))), (0, .ref 97), (1, .int x1)]) (st' := []) (σ' := σ3) hM 2 rfl ?_
        exact Rn.sub h (subL_cons rfl (subL_cons rfl (subL_cons rfl subL_nil))) (show ndL _ from (by decide : List.Nodup ([0, 1, 2] : List Nat)))
      · replace h := h.1 c
        refine Rn.seg (pc' := 57) (ls' := [(0, .ref 97), (1, .int x1), (2, .int x2)]) (st' := [.int x2]) (σ' := σ3) hM 1 rfl ?_
        exact Rn.ret hM rfl rfl h
set_option maxRecDepth 100000 in
theorem w_244_0 {d : Nat} {Q : Option Value → Sg → Prop} (σ : Sg) (x1 x2 : Int32) (h : (((σ.1 97 45) = 0 → Q (some (.int (-1 : Int32))) σ) ∧ (¬ (σ.1 97 45) = 0 → (∃ Qc : Int32 → Sg → Prop, OkI PRG d 195 [.int x1, .int (0 : Int32), .int ((σ.1 97 48) - (1 : Int32))] σ Qc ∧ ∀ w2 σ1, Qc w2 σ1 → ((w2 = 0 → Q (some (.int (-1 : Int32))) σ1) ∧ (¬ w2 = 0 → ((x2.toInt < 0 ∨ 5 < x2.toInt → Q (some (.int (-1 : Int32))) σ1) ∧ (x2.toInt = 0 → (inR x1 16 = true ∧ Q (some (.int (σ1.1 126 x1.toNatClampNeg))) σ1)) ∧ (x2.toInt = 1 → (inR x1 16 = true ∧ Q (some (.int (σ1.1 127 x1.toNatClampNeg))) σ1)) ∧ (x2.toInt = 2 → (∃ Qc : Int32 → Sg → Prop, OkI PRG d 240 [.ref 97, .int x1] σ1 Qc ∧ ∀ w4 σ3, Qc w4 σ3 → Q (some (.int w4)) σ3)) ∧ (x2.toInt = 3 → (∃ Qc : Int32 → Sg → Prop, OkI PRG d 241 [.ref 97, .int x1] σ1 Qc ∧ ∀ w6 σ5, Qc w6 σ5 → Q (some (.int w6)) σ5)) ∧ (x2.toInt = 4 → (∃ Qc : Int32 → Sg → Prop, OkI PRG d 242 [.ref 97, .int x1] σ1 Qc ∧ ∀ w8 σ7, Qc w8 σ7 → ((w8 = 0 → Q (some (.int (0 : Int32))) σ7) ∧ (¬ w8 = 0 → Q (some (.int (1 : Int32))) σ7)))) ∧ (x2.toInt = 5 → (∃ Qc : Int32 → Sg → Prop, OkI PRG d 243 [.ref 97, .int x1] σ1 Qc ∧ ∀ w10 σ9, Qc w10 σ9 → Q (some (.int w10)) σ9))))))))) : Rn PRG (d + 1) 244 0 [(0, .ref 97), (1, .int x1), (2, .int x2)] [] σ Q := by
  have hM : PRG[244]? = some M_244 := rfl
  refine Rn.br (c := (σ.1 97 45) = 0) (a := 21) (b := 7) (ls' := [(0, .ref 97), (1, .int x1), (2, .int x2)]) (st' := []) (σ' := σ) hM 3 rfl (fun c => ?_) (fun c => ?_)
  · replace h := h.1 c
    refine Rn.seg (pc' := 22) (ls' := [(0, .ref 97), (1, .int x1), (2, .int x2)]) (st' := [.int (-1 : Int32)]) (σ' := σ) hM 1 rfl ?_
    exact Rn.ret hM rfl rfl h
  · replace h := h.2 c
    refine Rn.seg (pc' := 15) (ls' := [(0, .ref 97), (1, .int x1), (2, .int x2)]) (st' := [.int ((σ.1 97 48) - (1 : Int32)), .int (0 : Int32), .int x1]) (σ' := σ) hM 6 rfl ?_
    obtain ⟨Qc, hq, h⟩ := h
    refine Rn.cI hM rfl rfl (by decide) hq (fun w2 σ1 hw => ?_)
    replace h := h w2 σ1 hw
    refine Rn.brN (c := w2 = 0) (a := 23) (b := 21) (ls' := [(0, .ref 97), (1, .int x1), (2, .int x2)]) (st' := []) (σ' := σ1) hM 1 rfl (fun c => ?_) (fun c => ?_)
    · replace h := h.2 c
      refine Rn.seg (pc' := 24) (ls' := [(0, .ref 97), (1, .int x1), (2, .int x2)]) (st' := [.int x2]) (σ' := σ1) hM 1 rfl ?_
      rcases tsw_cases x2 0 5 (by decide) with c | ⟨j, hj, c⟩
      · replace h := h.1 c
        refine Rn.tswD (pc' := 110) hM rfl c (by decide) rfl ?_
        refine Rn.seg (pc' := 111) (ls' := [(0, .ref 97), (1, .int x1), (2, .int x2)]) (st' := [.int (-1 : Int32)]) (σ' := σ1) hM 1 rfl ?_
        exact Rn.ret hM rfl rfl h
      · match j, hj with
        | 0, _ =>
          have c : x2.toInt = 0 := by simpa using c
          replace h := h.2.1 c
          refine Rn.tswK (pc' := 64) (j := 0) hM rfl (by simpa using c) (by decide) (by decide) rfl rfl ?_
          refine Rn.seg (pc' := 69) (ls' := [(0, .ref 97), (1, .int x1), (2, .int x2)]) (st' := [.int x1, .ref 126]) (σ' := σ1) hM 3 rfl ?_
          refine Rn.iald hM rfl rfl h.1 ?_
          refine Rn.seg (pc' := 70) (ls' := [(0, .ref 97), (1, .int x1), (2, .int x2)]) (st' := [.int (σ1.1 126 x1.toNatClampNeg)]) (σ' := σ1) hM 0 rfl ?_
          exact Rn.ret hM rfl rfl h.2
        | 1, _ =>
          have c : x2.toInt = 1 := by simpa using c
          replace h := h.2.2.1 c
          refine Rn.tswK (pc' := 71) (j := 1) hM rfl (by simpa using c) (by decide) (by decide) rfl rfl ?_
          refine Rn.seg (pc' := 76) (ls' := [(0, .ref 97), (1, .int x1), (2, .int x2)]) (st' := [.int x1, .ref 127]) (σ' := σ1) hM 3 rfl ?_
          refine Rn.iald hM rfl rfl h.1 ?_
          refine Rn.seg (pc' := 77) (ls' := [(0, .ref 97), (1, .int x1), (2, .int x2)]) (st' := [.int (σ1.1 127 x1.toNatClampNeg)]) (σ' := σ1) hM 0 rfl ?_
          exact Rn.ret hM rfl rfl h.2
        | 2, _ =>
          have c : x2.toInt = 2 := by simpa using c
          replace h := h.2.2.2.1 c
          refine Rn.tswK (pc' := 78) (j := 2) hM rfl (by simpa using c) (by decide) (by decide) rfl rfl ?_
          refine Rn.seg (pc' := 80) (ls' := [(0, .ref 97), (1, .int x1), (2, .int x2)]) (st' := [.int x1, .ref 97]) (σ' := σ1) hM 2 rfl ?_
          obtain ⟨Qc, hq, h⟩ := h
          refine Rn.cI hM rfl rfl (by decide) hq (fun w4 σ3 hw => ?_)
          replace h := h w4 σ3 hw
          refine Rn.seg (pc' := 83) (ls' := [(0, .ref 97), (1, .int x1), (2, .int x2)]) (st' := [.int w4]) (σ' := σ3) hM 0 rfl ?_
          exact Rn.ret hM rfl rfl h
        | 3, _ =>
          have c : x2.toInt = 3 := by simpa using c
          replace h := h.2.2.2.2.1 c
          refine Rn.tswK (pc' := 84) (j := 3) hM rfl (by simpa using c) (by decide) (by decide) rfl rfl ?_
          refine Rn.seg (pc' := 86) (ls' := [(0, .ref 97), (1, .int x1), (2, .int x2)]) (st' := [.int x1, .ref 97]) (σ' := σ1) hM 2 rfl ?_
          obtain ⟨Qc, hq, h⟩ := h
          refine Rn.cI hM rfl rfl (by decide) hq (fun w6 σ5 hw => ?_)
          replace h := h w6 σ5 hw
          refine Rn.seg (pc' := 89) (ls' := [(0, .ref 97), (1, .int x1), (2, .int x2)]) (st' := [.int w6]) (σ' := σ5) hM 0 rfl ?_
          exact Rn.ret hM rfl rfl h
        | 4, _ =>
          have c : x2.toInt = 4 := by simpa using c
          replace h := h.2.2.2.2.2.1 c
          refine Rn.tswK (pc' := 90) (j := 4) hM rfl (by simpa using c) (by decide) (by decide) rfl rfl ?_
          refine Rn.seg (pc' := 92) (ls' := [(0, .ref 97), (1, .int x1), (2, .int x2)]) (st' := [.int x1, .ref 97]) (σ' := σ1) hM 2 rfl ?_
          obtain ⟨Qc, hq, h⟩ := h
          refine Rn.cI hM rfl rfl (by decide) hq (fun w8 σ7 hw => ?_)
          replace h := h w8 σ7 hw
          refine Rn.br (c := w8 = 0) (a := 102) (b := 98) (ls' := [(0, .ref 97), (1, .int x1), (2, .int x2)]) (st' := []) (σ' := σ7) hM 1 rfl (fun c => ?_) (fun c => ?_)
          · replace h := h.1 c
            refine Rn.seg (pc' := 103) (ls' := [(0, .ref 97), (1, .int x1), (2, .int x2)]) (st' := [.int (0 : Int32)]) (σ' := σ7) hM 1 rfl ?_
            exact Rn.ret hM rfl rfl h
          · replace h := h.2 c
            refine Rn.seg (pc' := 103) (ls' := [(0, .ref 97), (1, .int x1), (2, .int x2)]) (st' := [.int (1 : Int32)]) (σ' := σ7) hM 2 rfl ?_
            exact Rn.ret hM rfl rfl h
        | 5, _ =>
          have c : x2.toInt = 5 := by simpa using c
          replace h := h.2.2.2.2.2.2 c
          refine Rn.tswK (pc' := 104) (j := 5) hM rfl (by simpa using c) (by decide) (by decide) rfl rfl ?_
          refine Rn.seg (pc' := 106) (ls' := [(0, .ref 97), (1, .int x1), (2, .int x2)]) (st' := [.int x1, .ref 97]) (σ' := σ1) hM 2 rfl ?_
          obtain ⟨Qc, hq, h⟩ := h
          refine Rn.cI hM rfl rfl (by decide) hq (fun w10 σ9 hw => ?_)
          replace h := h w10 σ9 hw
          refine Rn.seg (pc' := 109) (ls' := [(0, .ref 97), (1, .int x1), (2, .int x2)]) (st' := [.int w10]) (σ' := σ9) hM 0 rfl ?_
          exact Rn.ret hM rfl rfl h
        | n + 6, hj => exact absurd hj (by omega)
    · replace h := h.1 c
      refine Rn.seg (pc' := 22) (ls' := [(0, .ref 97), (1, .int x1), (2, .int x2)]) (st' := [.int (-1 : Int32)]) (σ' := σ1) hM 1 rfl ?_
      exact Rn.ret hM rfl rfl h
set_option maxRecDepth 100000 in
theorem w_247_0 {d : Nat} {Q : Option Value → Sg → Prop} (σ : Sg) (x1 : Int32) (h : (∃ Qc : Int32 → Sg → Prop, OkI PRG d 195 [.int x1, .int (0 : Int32), .int (2 : Int32)] σ Qc ∧ ∀ w2 σ1, Qc w2 σ1 → ((w2 = 0 → Q (some (.int (-1 : Int32))) σ1) ∧ (¬ w2 = 0 → Rn PRG (d + 1) 247 22 [(0, .ref 97), (1, .int x1), (2, .int (0 : Int32)), (3, .int (0 : Int32)), (4, .int (-2 : Int32)), (5, .int (0 : Int32))] [] σ1 Q)))) : Rn PRG (d + 1) 247 0 [(0, .ref 97), (1, .int x1)] [] σ Q := by
  have hM : PRG[247]? = some M_247 := rfl
  refine Rn.seg (pc' := 3) (ls' := [(0, .ref 97), (1, .int x1)]) (st' := [.int (2 : Int32), .int (0 : Int32), .int x1]) (σ' := σ) hM 3 rfl ?_
  obtain ⟨Qc, hq, h⟩ := h
  refine Rn.cI hM rfl rfl (by decide) hq (fun w2 σ1 hw => ?_)
  replace h := h w2 σ1 hw
  refine Rn.brN (c := w2 = 0) (a := 11) (b := 9) (ls' := [(0, .ref 97), (1, .int x1)]) (st' := []) (σ' := σ1) hM 1 rfl (fun c => ?_) (fun c => ?_)
  · replace h := h.2 c
    refine Rn.seg (pc' := 22) (ls' := [(5, .int (0 : Int32)), (4, .int (-2 : Int32)), (3, .int (0 : Int32)), (2, .int (0 : Int32)), (0, .ref 97), (1, .int x1)]) (st' := []) (σ' := σ1) hM 8 rfl ?_
    exact Rn.sub h (subL_cons rfl (subL_cons rfl (subL_cons rfl (subL_cons rfl (subL_cons rfl (subL_cons rfl subL_nil)))))) (show ndL _ from (by decide : List.Nodup ([0, 1, 2, 3, 4, 5] : List Nat)))
  · replace h := h.1 c
    refine Rn.seg (pc' := 10) (ls' := [(0, .ref 97), (1, .int x1)]) (st' := [.int (-1 : Int32)]) (σ' := σ1) hM 1 rfl ?_
    exact Rn.ret hM rfl rfl h
set_option maxRecDepth 100000 in
theorem w_247_22 {d : Nat} {Q : Option Value → Sg → Prop} (σ : Sg) (x1 x2 x3 x4 x5 : Int32) (h : (((σ.1 97 48) ≤ x5 → ((x1 = 0 → Q (some (.int x2)) σ) ∧ (¬ x1 = 0 → ((x1 = (1 : Int32) → Q (some (.int x3)) σ) ∧ (¬ x1 = (1 : Int32) → Q (some (.int x4)) σ))))) ∧ (¬ (σ.1 97 48) ≤ x5 → (∃ Qc : Int32 → Sg → Prop, OkI PRG d 242 [.ref 97, .int x5] σ Qc ∧ ∀ w2 σ1, Qc w2 σ1 → ((w2 = 0 → Rn PRG (d + 1) 247 22 [(0, .ref 97), (1, .int x1), (2, .int x2), (3, .int x3), (4, .int x4), (5, .int (x5 + (1 : Int32)))] [] σ1 Q) ∧ (¬ w2 = 0 → (∃ Qc : Int32 → Sg → Prop, OkI PRG d 243 [.ref 97, .int x5] σ1 Qc ∧ ∀ w4 σ3, Qc w4 σ3 → ((0 ≤ w4 → ((x4 < 0 → Rn PRG (d + 1) 247 22 [(0, .ref 97), (1, .int x1), (2, .int (x2 + (1 : Int32))), (3, .int (x3 + (1 : Int32))), (4, .int (w4 / (4 : Int32))), (5, .int (x5 + (1 : Int32)))] [] σ3 Q) ∧ (¬ x4 < 0 → ((x4 ≤ (w4 / (4 : Int32)) → Rn PRG (d + 1) 247 22 [(0, .ref 97), (1, .int x1), (2, .int (x2 + (1 : Int32))), (3, .int (x3 + (1 : Int32))), (4, .int x4), (5, .int (x5 + (1 : Int32)))] [] σ3 Q) ∧ (¬ x4 ≤ (w4 / (4 : Int32)) → Rn PRG (d + 1) 247 22 [(0, .ref 97), (1, .int x1), (2, .int (x2 + (1 : Int32))), (3, .int (x3 + (1 : Int32))), (4, .int (w4 / (4 : Int32))), (5, .int (x5 + (1 : Int32)))] [] σ3 Q))))) ∧ (¬ 0 ≤ w4 → Rn PRG (d + 1) 247 22 [(0, .ref 97), (1, .int x1), (2, .int (x2 + (1 : Int32))), (3, .int x3), (4, .int x4), (5, .int (x5 + (1 : Int32)))] [] σ3 Q))))))))) : Rn PRG (d + 1) 247 22 [(0, .ref 97), (1, .int x1), (2, .int x2), (3, .int x3), (4, .int x4), (5, .int x5)] [] σ Q := by
  have hM : PRG[247]? = some M_247 := rfl
  refine Rn.br (c := (σ.1 97 48) ≤ x5) (a := 91) (b := 31) (ls' := [(0, .ref 97), (1, .int x1), (2, .int x2), (3, .int x3), (4, .int x4), (5, .int x5)]) (st' := []) (σ' := σ) hM 4 rfl (fun c => ?_) (fun c => ?_)
  · replace h := h.1 c
    refine Rn.brN (c := x1 = 0) (a := 99) (b := 95) (ls' := [(0, .ref 97), (1, .int x1), (2, .int x2), (3, .int x3), (4, .int x4), (5, .int x5)]) (st' := []) (σ' := σ) hM 2 rfl (fun c => ?_) (fun c => ?_)
    · replace h := h.2 c
      refine Rn.brN (c := x1 = (1 : Int32)) (a := 108) (b := 104) (ls' := [(0, .ref 97), (1, .int x1), (2, .int x2), (3, .int x3), (4, .int x4), (5, .int x5)]) (st' := []) (σ' := σ) hM 3 rfl (fun c => ?_) (fun c => ?_)
      · replace h := h.2 c
        refine Rn.seg (pc' := 110) (ls' := [(0, .ref 97), (1, .int x1), (2, .int x2), (3, .int x3), (4, .int x4), (5, .int x5)]) (st' := [.int x4]) (σ' := σ) hM 1 rfl ?_
        exact Rn.ret hM rfl rfl h
      · replace h := h.1 c
        refine Rn.seg (pc' := 110) (ls' := [(0, .ref 97), (1, .int x1), (2, .int x2), (3, .int x3), (4, .int x4), (5, .int x5)]) (st' := [.int x3]) (σ' := σ) hM 2 rfl ?_
        exact Rn.ret hM rfl rfl h
    · replace h := h.1 c
      refine Rn.seg (pc' := 110) (ls' := [(0, .ref 97), (1, .int x1), (2, .int x2), (3, .int x3), (4, .int x4), (5, .int x5)]) (st' := [.int x2]) (σ' := σ) hM 2 rfl ?_
      exact Rn.ret hM rfl rfl h
  · replace h := h.2 c
    refine Rn.seg (pc' := 34) (ls' := [(0, .ref 97), (1, .int x1), (2, .int x2), (3, .int x3), (4, .int x4), (5, .int x5)]) (st' := [.int x5, .ref 97]) (σ' := σ) hM 2 rfl ?_
    obtain ⟨Qc, hq, h⟩ := h
    refine Rn.cI hM rfl rfl (by decide) hq (fun w2 σ1 hw => ?_)
    replace h := h w2 σ1 hw
    refine Rn.brN (c := w2 = 0) (a := 43) (b := 40) (ls' := [(0, .ref 97), (1, .int x1), (2, .int x2), (3, .int x3), (4, .int x4), (5, .int x5)]) (st' := []) (σ' := σ1) hM 1 rfl (fun c => ?_) (fun c => ?_)
    · replace h := h.2 c
      refine Rn.seg (pc' := 49) (ls' := [(2, .int (x2 + (1 : Int32))), (0, .ref 97), (1, .int x1), (3, .int x3), (4, .int x4), (5, .int x5)]) (st' := [.int x5, .ref 97]) (σ' := σ1) hM 3 rfl ?_
      obtain ⟨Qc, hq, h⟩ := h
      refine Rn.cI hM rfl rfl (by decide) hq (fun w4 σ3 hw => ?_)
      replace h := h w4 σ3 hw
      refine Rn.br (c := 0 ≤ w4) (a := 62) (b := 59) (ls' := [(6, .int w4), (2, .int (x2 + (1 : Int32))), (0, .ref 97), (1, .int x1), (3, .int x3), (4, .int x4), (5, .int x5)]) (st' := []) (σ' := σ3) hM 3 rfl (fun c => ?_) (fun c => ?_)
      · replace h := h.1 c
        refine Rn.br (c := x4 < 0) (a := 79) (b := 70) (ls' := [(3, .int (x3 + (1 : Int32))), (6, .int w4), (2, .int (x2 + (1 : Int32))), (0, .ref 97), (1, .int x1), (4, .int x4), (5, .int x5)]) (st' := []) (σ' := σ3) hM 3 rfl (fun c => ?_) (fun c => ?_)
        · replace h := h.1 c
          refine Rn.seg (pc' := 22) (ls' := [(5, .int (x5 + (1 : Int32))), (4, .int (w4 / (4 : Int32))), (3, .int (x3 + (1 : Int32))), (6, .int w4), (2, .int (x2 + (1 : Int32))), (0, .ref 97), (1, .int x1)]) (st' := []) (σ' := σ3) hM 6 rfl ?_
          exact Rn.sub h (subL_cons rfl (subL_cons rfl (subL_cons rfl (subL_cons rfl (subL_cons rfl (subL_cons rfl subL_nil)))))) (show ndL _ from (by decide : List.Nodup ([0, 1, 2, 3, 4, 5] : List Nat)))
        · replace h := h.2 c
          refine Rn.br (c := x4 ≤ (w4 / (4 : Int32))) (a := 85) (b := 79) (ls' := [(3, .int (x3 + (1 : Int32))), (6, .int w4), (2, .int (x2 + (1 : Int32))), (0, .ref 97), (1, .int x1), (4, .int x4), (5, .int x5)]) (st' := []) (σ' := σ3) hM 5 rfl (fun c => ?_) (fun c => ?_)
          · replace h := h.1 c
            refine Rn.seg (pc' := 22) (ls' := [(5, .int (x5 + (1 : Int32))), (3, .int (x3 + (1 : Int32))), (6, .int w4), (2, .int (x2 + (1 : Int32))), (0, .ref 97), (1, .int x1), (4, .int x4)]) (st' := []) (σ' := σ3) hM 2 rfl ?_
            exact Rn.sub h (subL_cons rfl (subL_cons rfl (subL_cons rfl (subL_cons rfl (subL_cons rfl (subL_cons rfl subL_nil)))))) (show ndL _ from (by decide : List.Nodup ([0, 1, 2, 3, 4, 5] : List Nat)))
          · replace h := h.2 c
            refine Rn.seg (pc' := 22) (ls' := [(5, .int (x5 + (1 : Int32))), (4, .int (w4 / (4 : Int32))), (3, .int (x3 + (1 : Int32))), (6, .int w4), (2, .int (x2 + (1 : Int32))), (0, .ref 97), (1, .int x1)]) (st' := []) (σ' := σ3) hM 6 rfl ?_
            exact Rn.sub h (subL_cons rfl (subL_cons rfl (subL_cons rfl (subL_cons rfl (subL_cons rfl (subL_cons rfl subL_nil)))))) (show ndL _ from (by decide : List.Nodup ([0, 1, 2, 3, 4, 5] : List Nat)))
      · replace h := h.2 c
        refine Rn.seg (pc' := 22) (ls' := [(5, .int (x5 + (1 : Int32))), (6, .int w4), (2, .int (x2 + (1 : Int32))), (0, .ref 97), (1, .int x1), (3, .int x3), (4, .int x4)]) (st' := []) (σ' := σ3) hM 3 rfl ?_
        exact Rn.sub h (subL_cons rfl (subL_cons rfl (subL_cons rfl (subL_cons rfl (subL_cons rfl (subL_cons rfl subL_nil)))))) (show ndL _ from (by decide : List.Nodup ([0, 1, 2, 3, 4, 5] : List Nat)))
    · replace h := h.1 c
      refine Rn.seg (pc' := 22) (ls' := [(5, .int (x5 + (1 : Int32))), (0, .ref 97), (1, .int x1), (2, .int x2), (3, .int x3), (4, .int x4)]) (st' := []) (σ' := σ1) hM 3 rfl ?_
      exact Rn.sub h (subL_cons rfl (subL_cons rfl (subL_cons rfl (subL_cons rfl (subL_cons rfl (subL_cons rfl subL_nil)))))) (show ndL _ from (by decide : List.Nodup ([0, 1, 2, 3, 4, 5] : List Nat)))
set_option maxRecDepth 100000 in
theorem w_256_0 {d : Nat} {Q : Option Value → Sg → Prop} (σ : Sg) (x1 x2 x3 : Int32) (h : (((σ.1 97 45) = 0 → Q (some (.int (-1 : Int32))) σ) ∧ (¬ (σ.1 97 45) = 0 → (∃ Qc : Int32 → Sg → Prop, OkI PRG d 195 [.int x1, .int (0 : Int32), .int ((σ.1 97 48) - (1 : Int32))] σ Qc ∧ ∀ w2 σ1, Qc w2 σ1 → ((w2 = 0 → Q (some (.int (-1 : Int32))) σ1) ∧ (¬ w2 = 0 → (∃ Qc : Int32 → Sg → Prop, OkI PRG d 218 [.ref 97, .int x2] σ1 Qc ∧ ∀ w4 σ3, Qc w4 σ3 → ((w4 = 0 → Q (some (.int (-1 : Int32))) σ3) ∧ (¬ w4 = 0 → (∃ Qc : Int32 → Sg → Prop, OkI PRG d 195 [.int x3, .int (0 : Int32), .int (1 : Int32)] σ3 Qc ∧ ∀ w6 σ5, Qc w6 σ5 → ((w6 = 0 → Q (some (.int (-1 : Int32))) σ5) ∧ (¬ w6 = 0 → (∃ Qc : Int32 → Sg → Prop, OkI PRG d 255 [.ref 97, .int x1, .int x2] σ5 Qc ∧ ∀ w8 σ7, Qc w8 σ7 → ((x3 = 0 → Q (some (.int w8)) σ7) ∧ (¬ x3 = 0 → (inR x1 16 = true ∧ (inR x1 16 = true ∧ (inR (σ7.1 127 x1.toNatClampNeg) 4 = true ∧ (∃ Qc : Int32 → Sg → Prop, OkI PRG d 225 [.ref 97, .int (σ7.1 127 x1.toNatClampNeg), .int x1] σ7 Qc ∧ ∀ w10 σ9, Qc w10 σ9 → (∃ Qc : Int32 → Sg → Prop, OkI PRG d 254 [.ref 97, .int w8, .int (σ7.1 126 x1.toNatClampNeg), .int ((σ7.1 125 (σ7.1 127 x1.toNatClampNeg).toNatClampNeg) &&& (w10 ^^^ (-1 : Int32)))] σ9 Qc ∧ ∀ w12 σ11, Qc w12 σ11 → Q (some (.int w12)) σ11)))))))))))))))))))) : Rn PRG (d + 1) 256 0 [(0, .ref 97), (1, .int x1), (2, .int x2), (3, .int x3)] [] σ Q := by
  have hM : PRG[256]? = some M_256 := rfl
  refine Rn.br (c := (σ.1 97 45) = 0) (a := 38) (b := 7) (ls' := [(0, .ref 97), (1, .int x1), (2, .int x2), (3, .int x3)]) (st' := []) (σ' := σ) hM 3 rfl (fun c => ?_) (fun c => ?_)
  · replace h := h.1 c
    refine Rn.seg (pc' := 39) (ls' := [(0, .ref 97), (1, .int x1), (2, .int x2), (3, .int x3)]) (st' := [.int (-1 : Int32)]) (σ' := σ) hM 1 rfl ?_
    exact Rn.ret hM rfl rfl h
  · replace h := h.2 c
    refine Rn.seg (pc' := 15) (ls' := [(0, .ref 97), (1, .int x1), (2, .int x2), (3, .int x3)]) (st' := [.int ((σ.1 97 48) - (1 : Int32)), .int (0 : Int32), .int x1]) (σ' := σ) hM 6 rfl ?_
    obtain ⟨Qc, hq, h⟩ := h
    refine Rn.cI hM rfl rfl (by decide) hq (fun w2 σ1 hw => ?_)
    replace h := h w2 σ1 hw
    refine Rn.br (c := w2 = 0) (a := 38) (b := 21) (ls' := [(0, .ref 97), (1, .int x1), (2, .int x2), (3, .int x3)]) (st' := []) (σ' := σ1) hM 1 rfl (fun c => ?_) (fun c => ?_)
    · replace h := h.1 c
      refine Rn.seg (pc' := 39) (ls' := [(0, .ref 97), (1, .int x1), (2, .int x2), (3, .int x3)]) (st' := [.int (-1 : Int32)]) (σ' := σ1) hM 1 rfl ?_
      exact Rn.ret hM rfl rfl h
    · replace h := h.2 c
      refine Rn.seg (pc' := 23) (ls' := [(0, .ref 97), (1, .int x1), (2, .int x2), (3, .int x3)]) (st' := [.int x2, .ref 97]) (σ' := σ1) hM 2 rfl ?_
      obtain ⟨Qc, hq, h⟩ := h
      refine Rn.cI hM rfl rfl (by decide) hq (fun w4 σ3 hw => ?_)
      replace h := h w4 σ3 hw
      refine Rn.br (c := w4 = 0) (a := 38) (b := 29) (ls' := [(0, .ref 97), (1, .int x1), (2, .int x2), (3, .int x3)]) (st' := []) (σ' := σ3) hM 1 rfl (fun c => ?_) (fun c => ?_)
      · replace h := h.1 c
        refine Rn.seg (pc' := 39) (ls' := [(0, .ref 97), (1, .int x1), (2, .int x2), (3, .int x3)]) (st' := [.int (-1 : Int32)]) (σ' := σ3) hM 1 rfl ?_
        exact Rn.ret hM rfl rfl h
      · replace h := h.2 c
        refine Rn.seg (pc' := 32) (ls' := [(0, .ref 97), (1, .int x1), (2, .int x2), (3, .int x3)]) (st' := [.int (1 : Int32), .int (0 : Int32), .int x3]) (σ' := σ3) hM 3 rfl ?_
        obtain ⟨Qc, hq, h⟩ := h
        refine Rn.cI hM rfl rfl (by decide) hq (fun w6 σ5 hw => ?_)
        replace h := h w6 σ5 hw
        refine Rn.brN (c := w6 = 0) (a := 40) (b := 38) (ls' := [(0, .ref 97), (1, .int x1), (2, .int x2), (3, .int x3)]) (st' := []) (σ' := σ5) hM 1 rfl (fun c => ?_) (fun c => ?_)
        · replace h := h.2 c
          refine Rn.seg (pc' := 43) (ls' := [(0, .ref 97), (1, .int x1), (2, .int x2), (3, .int x3)]) (st' := [.int x2, .int x1, .ref 97]) (σ' := σ5) hM 3 rfl ?_
          obtain ⟨Qc, hq, h⟩ := h
          refine Rn.cI hM rfl rfl (by decide) hq (fun w8 σ7 hw => ?_)
          replace h := h w8 σ7 hw
          refine Rn.brN (c := x3 = 0) (a := 55) (b := 52) (ls' := [(4, .int w8), (0, .ref 97), (1, .int x1), (2, .int x2), (3, .int x3)]) (st' := []) (σ' := σ7) hM 3 rfl (fun c => ?_) (fun c => ?_)
          · replace h := h.2 c
            refine Rn.seg (pc' := 60) (ls' := [(4, .int w8), (0, .ref 97), (1, .int x1), (2, .int x2), (3, .int x3)]) (st' := [.int x1, .ref 127]) (σ' := σ7) hM 3 rfl ?_
            refine Rn.iald hM rfl rfl h.1 ?_
            refine Rn.seg (pc' := 71) (ls' := [(5, .int (σ7.1 127 x1.toNatClampNeg)), (4, .int w8), (0, .ref 97), (1, .int x1), (2, .int x2), (3, .int x3)]) (st' := [.int x1, .ref 126, .int w8, .ref 97]) (σ' := σ7) hM 6 rfl ?_
            refine Rn.iald hM rfl rfl h.2.1 ?_
            refine Rn.seg (pc' := 78) (ls' := [(5, .int (σ7.1 127 x1.toNatClampNeg)), (4, .int w8), (0, .ref 97), (1, .int x1), (2, .int x2), (3, .int x3)]) (st' := [.int (σ7.1 127 x1.toNatClampNeg), .ref 125, .int (σ7.1 126 x1.toNatClampNeg), .int w8, .ref 97]) (σ' := σ7) hM 3 rfl ?_
            refine Rn.iald hM rfl rfl h.2.2.1 ?_
            refine Rn.seg (pc' := 83) (ls' := [(5, .int (σ7.1 127 x1.toNatClampNeg)), (4, .int w8), (0, .ref 97), (1, .int x1), (2, .int x2), (3, .int x3)]) (st' := [.int x1, .int (σ7.1 127 x1.toNatClampNeg), .ref 97, .int (σ7.1 125 (σ7.1 127 x1.toNatClampNeg).toNatClampNeg), .int (σ7.1 126 x1.toNatClampNeg), .int w8, .ref 97]) (σ' := σ7) hM 3 rfl ?_
            obtain ⟨Qc, hq, h⟩ := h.2.2.2
            refine Rn.cI hM rfl rfl (by decide) hq (fun w10 σ9 hw => ?_)
            replace h := h w10 σ9 hw
            refine Rn.seg (pc' := 89) (ls' := [(5, .int (σ7.1 127 x1.toNatClampNeg)), (4, .int w8), (0, .ref 97), (1, .int x1), (2, .int x2), (3, .int x3)]) (st' := [.int ((σ7.1 125 (σ7.1 127 x1.toNatClampNeg).toNatClampNeg) &&& (w10 ^^^ (-1 : Int32))), .int (σ7.1 126 x1.toNatClampNeg), .int w8, .ref 97]) (σ' := σ9) hM 3 rfl ?_
            obtain ⟨Qc, hq, h⟩ := h
            refine Rn.cI hM rfl rfl (by decide) hq (fun w12 σ11 hw => ?_)
            replace h := h w12 σ11 hw
            refine Rn.seg (pc' := 92) (ls' := [(5, .int (σ7.1 127 x1.toNatClampNeg)), (4, .int w8), (0, .ref 97), (1, .int x1), (2, .int x2), (3, .int x3)]) (st' := [.int w12]) (σ' := σ11) hM 0 rfl ?_
            exact Rn.ret hM rfl rfl h
          · replace h := h.1 c
            refine Rn.seg (pc' := 54) (ls' := [(4, .int w8), (0, .ref 97), (1, .int x1), (2, .int x2), (3, .int x3)]) (st' := [.int w8]) (σ' := σ7) hM 1 rfl ?_
            exact Rn.ret hM rfl rfl h
        · replace h := h.1 c
          refine Rn.seg (pc' := 39) (ls' := [(0, .ref 97), (1, .int x1), (2, .int x2), (3, .int x3)]) (st' := [.int (-1 : Int32)]) (σ' := σ5) hM 1 rfl ?_
          exact Rn.ret hM rfl rfl h
/-! what is shown of a game -/
theorem hand_OK {N : Nat} {x1 x2 : Int32} {σ : Sg} (h : GI N σ) : OkI PRG 3 227 [.ref 97, .int x1, .int x2] σ (fun _ σ' => GI N σ') := by
  obtain ⟨n, hn, hn16⟩ := played_rg h.1
  refine ⟨M_227, rfl, Nat.le_of_ble_eq_true rfl, w_227_0 σ x1 x2 ⟨fun _ => ⟨_, rfl, h⟩, fun _ => ⟨_, isPlayer_OK (d := 1) h.1 h.2.1, fun w2 σ1 hq => ?_⟩⟩⟩
  obtain ⟨g, i, c⟩ := hq
  have h1 : GI N σ1 := h.keep g rfl i (h.2.2.2.1.keep g rfl)
  refine ⟨fun _ => ⟨_, rfl, h1⟩, fun hne => ?_⟩
  have c := c hne
  refine ⟨fun _ => ⟨_, handNow_OK (d := 1) h1.1 (p := x1.toInt.toNat) (by omega) (by omega) (n := n) (by rw [g.get (q := 97) (κ := 12) rfl rfl]; exact hn), fun w4 σ3 hq => ?_⟩, fun _ => ⟨inR_ok c.1 (by omega), _, rfl, h1⟩⟩
  rw [hq.1]
  exact ⟨_, rfl, h1⟩
theorem turn_OK {N : Nat} {σ : Sg} (h : GI N σ) : OkI PRG 4 231 [.ref 97] σ (fun _ σ' => GI N σ') := by
  obtain ⟨n, w0, hF⟩ := TW.of h
  refine ⟨M_231, rfl, Nat.le_of_ble_eq_true rfl, w_231_0 σ ⟨_, hF.2.2.2.2 0, fun w2 σ1 hq => ?_⟩⟩
  rw [hq.1]
  exact ⟨_, rfl, h⟩
theorem may_OK {N : Nat} {σ : Sg} (h : GI N σ) : OkI PRG 5 234 [.ref 97] σ (fun _ σ' => GI N σ') := by
  obtain ⟨n, w0, hF⟩ := TW.of h
  refine ⟨M_234, rfl, Nat.le_of_ble_eq_true rfl, w_234_0 σ ⟨_, mayNow_OK (d := 0) h.1 h.2.2.1 hF.2.2.2.1 hF.2.2.2.2, fun w2 σ1 hq => ?_⟩⟩
  rw [hq.1]
  exact ⟨_, rfl, h⟩
theorem kindAt_OK {d i : Nat} {x1 : Int32} {σ : Sg} (ht : typed TYP σ) (hp : pkOK σ) (h1 : x1.toInt = (i : Int)) (hi : i < 16) : OkI PRG (d + 1 + 1) 240 [.ref 97, .int x1] σ (fun _ σ' => σ' = σ) := by
  refine ⟨M_240, rfl, Nat.le_of_ble_eq_true rfl, w_240_0 σ x1 ⟨_, ledAt_OK ht hp h1 (by omega), fun w2 σ1 hq => ?_⟩⟩
  rw [hq]
  refine ⟨fun _ => ⟨_, rfl, rfl⟩, fun _ => ⟨inR_ok (by omega) (by omega), _, suitOf_OK ht hp, fun w4 σ3 hq => ?_⟩⟩
  rw [hq.1]
  exact ⟨fun _ => ⟨_, rfl, rfl⟩, fun _ => ⟨_, rfl, rfl⟩⟩
theorem who_in {k : Nat} {σ : Sg} (ht : typed TYP σ) (hk : k < 16) : inR (σ.1 127 k) 4 = true := by
  have := tyA ht (q := 127) (κ := 83) (k := k) (a := 0) (b := 15) (lo := 0) (hi := 3) rfl rfl (by omega) (by omega)
  exact inR_ok this.1 (by omega)
theorem revokesAt_OK {d i : Nat} {x1 : Int32} {σ : Sg} (ht : typed TYP σ) (hp : pkOK σ) (h1 : x1.toInt = (i : Int)) (hi : i < 16) : OkI PRG (d + 1 + 1 + 1) 242 [.ref 97, .int x1] σ (fun _ σ' => σ' = σ) := by
  refine ⟨M_242, rfl, Nat.le_of_ble_eq_true rfl, w_242_0 σ x1 ⟨inR_ok (by omega) (by omega), _, kindAt_OK ht hp h1 hi, fun w2 σ1 hq => ?_⟩⟩
  rw [hq, cn_of h1]
  refine ⟨fun _ => ⟨who_in ht hi, _, playedBy_OK ht h1 (by omega), fun w4 σ3 hq => ?_⟩, fun _ => ⟨_, rfl, rfl⟩⟩
  rw [hq.1]
  refine ⟨_, ledAt_OK ht hp h1 (by omega), fun w6 σ5 hq => ?_⟩
  rw [hq]
  refine ⟨_, suitCards_OK ht, fun w8 σ7 hq => ?_⟩
  rw [hq]
  exact ⟨fun _ => ⟨_, rfl, rfl⟩, fun _ => ⟨_, rfl, rfl⟩⟩
theorem shows_15 {d i n : Nat} {x1 : Int32} {σ : Sg} (ht : typed TYP σ) (hp : pkOK σ) (h1 : x1.toInt = (i : Int)) (hi : i < 16) (hn : (σ.1 97 48).toInt = (n : Int)) (hn16 : n ≤ 16) : ∀ (m k : Nat) (x2 : Int32), (n - k) ≤ m → x2.toInt = (k : Int) → Rn PRG (d + 1 + 1 + 1 + 1) 243 15 [(0, .ref 97), (1, .int x1), (2, .int x2)] [] σ (fun v σ' => ∃ w : Int32, v = some (.int w) ∧ σ' = σ) := by
  intro m
  induction m with
  | zero =>
    intro k x2 hk h2
    exact w_243_15 σ x1 x2 ⟨fun _ => ⟨_, rfl, rfl⟩, fun c => absurd (by rw [le_i hn h2]; omega) c⟩
  | succ m ih =>
    intro k x2 hk h2
    refine w_243_15 σ x1 x2 ⟨fun _ => ⟨_, rfl, rfl⟩, fun c => ?_⟩
    rw [le_i hn h2] at c
    have hx2 : (x2 + (1 : Int32)).toInt = ((k + 1 : Nat) : Int) := by
      rw [add_lit (k := 1) h2 (by decide) (by unfold FL; omega) (by unfold FH; omega)]; push_cast; rfl
    have hin : inR x2 16 = true := inR_ok (by clear hx2; omega) (by clear hx2; omega)
    have next := ih (k + 1) _ (by omega) hx2
    refine ⟨hin, inR_ok (by clear hx2; omega) (by clear hx2; omega), fun _ => ⟨hin, _, suitOf_OK ht hp, fun w2 σ1 hq => ?_⟩, fun _ => next⟩
    rw [hq.1]
    refine ⟨_, ledAt_OK (d := d + 1 + 1) ht hp h1 (by omega), fun w4 σ3 hq => ?_⟩
    rw [hq]
    exact ⟨fun _ => ⟨_, rfl, rfl⟩, fun _ => next⟩
theorem showsAt_OK {d i : Nat} {x1 : Int32} {σ : Sg} (ht : typed TYP σ) (hp : pkOK σ) (h1 : x1.toInt = (i : Int)) (hi : i < 16) : OkI PRG (d + 1 + 1 + 1 + 1) 243 [.ref 97, .int x1] σ (fun _ σ' => σ' = σ) := by
  obtain ⟨n, hn, hn16⟩ := played_rg ht
  refine ⟨M_243, rfl, Nat.le_of_ble_eq_true rfl, w_243_0 σ x1 ⟨_, revokesAt_OK ht hp h1 hi, fun w2 σ1 hq => ?_⟩⟩
  rw [hq]
  refine ⟨fun _ => ⟨_, rfl, rfl⟩, fun _ => shows_15 ht hp h1 hi hn hn16 _ (i + 1) _ (Nat.le_refl _) ?_⟩
  rw [add_lit (k := 1) h1 (by decide) (by unfold FL; omega) (by unfold FH; omega)]; push_cast; rfl
theorem beforeAt_OK {d : Nat} {x1 : Int32} {σ : Sg} (ht : typed TYP σ) (hI : I2 σ) (h1 : 0 ≤ x1.toInt ∧ x1.toInt ≤ 15) : OkI PRG (d + 1) 241 [.ref 97, .int x1] σ (fun _ σ' => Gl [] σ σ' ∧ I2 σ') :=
  OkI.deep (OkI.mono ((c_241.lift2 rfl).atI ht hI (avsC avM (avsC (avI h1.1 h1.2) avsN)) rfl rfl rfl) (fun w σ' h => ⟨h.1.mono rfl, h.2.1⟩)) (show 1 ≤ d + 1 by omega)
theorem in_pl {x1 y : Int32} {w2 : Int32} {n : Nat} (hn : y.toInt = (n : Int)) (hn16 : n ≤ 16) (h : (w2 = 1 ∧ (0 : Int32).toInt ≤ x1.toInt ∧ x1.toInt ≤ (y - (1 : Int32)).toInt) ∨ (w2 = 0 ∧ ¬ ((0 : Int32).toInt ≤ x1.toInt ∧ x1.toInt ≤ (y - (1 : Int32)).toInt))) (hne : ¬ w2 = 0) : ∃ i : Nat, x1.toInt = (i : Int) ∧ i < n := by
  have z0 : (0 : Int32).toInt = 0 := by decide
  have one : (1 : Int32).toInt = 1 := by decide
  rcases h with ⟨-, a, b⟩ | ⟨h, -⟩
  · rw [z0] at a
    rw [sub_ex (by rw [hn, one]; unfold FL; omega) (by rw [hn, one]; unfold FH; omega), hn, one] at b
    exact ⟨x1.toInt.toNat, by omega, by omega⟩
  · exact absurd h hne
theorem card_OK {N : Nat} {x1 x2 : Int32} {σ : Sg} (h : GI N σ) : OkI PRG 5 244 [.ref 97, .int x1, .int x2] σ (fun _ σ' => GI N σ') := by
  obtain ⟨n, hn, hn16⟩ := played_rg h.1
  refine ⟨M_244, rfl, Nat.le_of_ble_eq_true rfl, w_244_0 σ x1 x2 ⟨fun _ => ⟨_, rfl, h⟩, fun _ => ⟨_, in_OK, fun w2 σ1 hq => ?_⟩⟩⟩
  obtain ⟨e1, hw⟩ := hq
  rw [e1]
  refine ⟨fun _ => ⟨_, rfl, h⟩, fun hne => ?_⟩
  obtain ⟨i, hi, hin⟩ := in_pl hn hn16 hw hne
  have hr : inR x1 16 = true := inR_ok (by omega) (by omega)
  have hp := h.2.2.1.pk
  refine ⟨fun _ => ⟨_, rfl, h⟩, fun _ => ⟨hr, _, rfl, h⟩, fun _ => ⟨hr, _, rfl, h⟩, fun _ => ⟨_, kindAt_OK (d := 2) h.1 hp hi (by omega), fun w4 σ3 hq => ⟨_, rfl, by rw [hq]; exact h⟩⟩, fun _ => ⟨_, beforeAt_OK (d := 3) h.1 h.2.1 (by omega), fun w6 σ5 hq => ⟨_, rfl, h.keep hq.1 rfl hq.2 (h.2.2.2.1.keep hq.1 rfl)⟩⟩, fun _ => ⟨_, revokesAt_OK (d := 1) h.1 hp hi (by omega), fun w8 σ7 hq => ⟨fun _ => ⟨_, rfl, by rw [hq]; exact h⟩, fun _ => ⟨_, rfl, by rw [hq]; exact h⟩⟩⟩, fun _ => ⟨_, showsAt_OK (d := 0) h.1 hp hi (by omega), fun w10 σ9 hq => ⟨_, rfl, by rw [hq]; exact h⟩⟩⟩
theorem revokes_22 {N n : Nat} {x1 : Int32} {σ : Sg} (h : GI N σ) (hn : (σ.1 97 48).toInt = (n : Int)) (hn16 : n ≤ 16) : ∀ (m k : Nat) (x2 x3 x4 x5 : Int32), k + m = n → x5.toInt = (k : Int) → Rn PRG (4 + 1) 247 22 [(0, .ref 97), (1, .int x1), (2, .int x2), (3, .int x3), (4, .int x4), (5, .int x5)] [] σ (fun v σ' => ∃ w : Int32, v = some (.int w) ∧ GI N σ') := by
  have hp := h.2.2.1.pk
  have fin : ∀ x2 x3 x4 : Int32, (x1 = 0 → ∃ w : Int32, some (Value.int x2) = some (.int w) ∧ GI N σ) ∧ (¬ x1 = 0 → ((x1 = (1 : Int32) → ∃ w : Int32, some (Value.int x3) = some (.int w) ∧ GI N σ) ∧ (¬ x1 = (1 : Int32) → ∃ w : Int32, some (Value.int x4) = some (.int w) ∧ GI N σ))) := fun x2 x3 x4 => ⟨fun _ => ⟨_, rfl, h⟩, fun _ => ⟨fun _ => ⟨_, rfl, h⟩, fun _ => ⟨_, rfl, h⟩⟩⟩
  intro m
  induction m with
  | zero =>
    intro k x2 x3 x4 x5 hk h5
    exact w_247_22 σ x1 x2 x3 x4 x5 ⟨fun _ => fin x2 x3 x4, fun c => absurd (by rw [le_i hn h5]; omega) c⟩
  | succ m ih =>
    intro k x2 x3 x4 x5 hk h5
    refine w_247_22 σ x1 x2 x3 x4 x5 ⟨fun _ => fin x2 x3 x4, fun _ => ⟨_, revokesAt_OK (d := 1) h.1 hp h5 (by omega), fun w2 σ1 hq => ?_⟩⟩
    rw [hq]
    have hx5 : (x5 + (1 : Int32)).toInt = ((k + 1 : Nat) : Int) := by
      rw [add_lit (k := 1) h5 (by decide) (by unfold FL; omega) (by unfold FH; omega)]; push_cast; rfl
    have next := fun a b c => ih (k + 1) a b c _ (by omega) hx5
    refine ⟨fun _ => next _ _ _, fun _ => ⟨_, showsAt_OK (d := 0) h.1 hp h5 (by clear hx5; omega), fun w4 σ3 hq => ?_⟩⟩
    rw [hq]
    exact ⟨fun _ => ⟨fun _ => next _ _ _, fun _ => ⟨fun _ => next _ _ _, fun _ => next _ _ _⟩⟩, fun _ => next _ _ _⟩
theorem revokes_OK {N : Nat} {x1 : Int32} {σ : Sg} (h : GI N σ) : OkI PRG 5 247 [.ref 97, .int x1] σ (fun _ σ' => GI N σ') := by
  obtain ⟨n, hn, hn16⟩ := played_rg h.1
  refine ⟨M_247, rfl, Nat.le_of_ble_eq_true rfl, w_247_0 σ x1 ⟨_, in_OK, fun w2 σ1 hq => ?_⟩⟩
  rw [hq.1]
  exact ⟨fun _ => ⟨_, rfl, h⟩, fun _ => revokes_22 h hn hn16 n 0 _ _ _ 0 (by omega) rfl⟩
theorem GI.fit {N : Nat} {σ σ' : Sg} (h : GI N σ) (hq : Gl mdFit σ σ' ∧ I2 σ') : GI N σ' := h.keep hq.1 rfl hq.2 (h.2.2.2.1.keep hq.1 rfl)
theorem says_OK {N : Nat} {x1 x2 x3 : Int32} {σ : Sg} (h : GI N σ) : OkI PRG 6 256 [.ref 97, .int x1, .int x2, .int x3] σ (fun _ σ' => GI N σ') := by
  obtain ⟨n, hn, hn16⟩ := played_rg h.1
  refine ⟨M_256, rfl, Nat.le_of_ble_eq_true rfl, w_256_0 σ x1 x2 x3 ⟨fun _ => ⟨_, rfl, h⟩, fun _ => ⟨_, in_OK, fun w2 σ1 hq => ?_⟩⟩⟩
  obtain ⟨e1, hw⟩ := hq
  rw [e1]
  refine ⟨fun _ => ⟨_, rfl, h⟩, fun hne => ⟨_, areCustoms_OK (d := 4) h.1 h.2.1, fun w4 σ3 hq => ?_⟩⟩
  obtain ⟨i, hi, hin⟩ := in_pl hn hn16 hw hne
  have hr : inR x1 16 = true := inR_ok (by omega) (by omega)
  rw [hq]
  refine ⟨fun _ => ⟨_, rfl, h⟩, fun _ => ⟨_, in_OK, fun w6 σ5 hq => ?_⟩⟩
  rw [hq.1]
  refine ⟨fun _ => ⟨_, rfl, h⟩, fun _ => ⟨_, appliesAt_OK h.1 h.2.1 hi (by omega), fun w8 σ7 hq => ?_⟩⟩
  have h7 := h.fit hq
  refine ⟨fun _ => ⟨_, rfl, h7⟩, fun _ => ⟨hr, hr, ?_⟩⟩
  rw [cn_of hi]
  refine ⟨who_in h7.1 (by omega), _, playedBy_OK h7.1 hi (by omega), fun w10 σ9 hq => ?_⟩
  rw [hq.1]
  have hc := tyA h7.1 (q := 126) (κ := 82) (k := i) (a := 0) (b := 15) (lo := -1) (hi := 15) rfl rfl (by omega) (by omega)
  exact ⟨_, lieOf_OK (d := 1) h7.1 h7.2.1 hc, fun w12 σ11 hq => ⟨_, rfl, h7.fit hq⟩⟩
