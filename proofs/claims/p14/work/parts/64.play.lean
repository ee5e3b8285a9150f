/-! turns and cards: what must hold -/
set_option maxRecDepth 100000 in
theorem w_232_0 {d : Nat} {Q : Option Value → Sg → Prop} (σ : Sg) (x1 : Int32) (h : (((x1 - x1 / (4 : Int32) * (4 : Int32)) = 0 → Q (some (.int (-1 : Int32))) σ) ∧ (¬ (x1 - x1 / (4 : Int32) * (4 : Int32)) = 0 → (inR (x1 - (x1 - x1 / (4 : Int32) * (4 : Int32))) 16 = true ∧ (∃ Qc : Int32 → Sg → Prop, OkI PRG d 212 [.ref 97, .int (σ.1 126 (x1 - (x1 - x1 / (4 : Int32) * (4 : Int32))).toNatClampNeg)] σ Qc ∧ ∀ w2 σ1, Qc w2 σ1 → Q (some (.int w2)) σ1))))) : Rn PRG (d + 1) 232 0 [(0, .ref 97), (1, .int x1)] [] σ Q := by
  have hM : PRG[232]? = some M_232 := rfl
  refine Rn.brN (c := (x1 - x1 / (4 : Int32) * (4 : Int32)) = 0) (a := 10) (b := 6) (ls' := [(0, .ref 97), (1, .int x1)]) (st' := []) (σ' := σ) hM 4 rfl (fun c => ?_) (fun c => ?_)
  · replace h := h.2 c
    refine Rn.seg (pc' := 20) (ls' := [(0, .ref 97), (1, .int x1)]) (st' := [.int (x1 - (x1 - x1 / (4 : Int32) * (4 : Int32))), .ref 126, .ref 97]) (σ' := σ) hM 8 rfl ?_
    refine Rn.iald hM rfl rfl h.1 ?_
    refine Rn.seg (pc' := 21) (ls' := [(0, .ref 97), (1, .int x1)]) (st' := [.int (σ.1 126 (x1 - (x1 - x1 / (4 : Int32) * (4 : Int32))).toNatClampNeg), .ref 97]) (σ' := σ) hM 0 rfl ?_
    obtain ⟨Qc, hq, h⟩ := h.2
    refine Rn.cI hM rfl rfl (by decide) hq (fun w2 σ1 hw => ?_)
    replace h := h w2 σ1 hw
    refine Rn.seg (pc' := 24) (ls' := [(0, .ref 97), (1, .int x1)]) (st' := [.int w2]) (σ' := σ1) hM 0 rfl ?_
    exact Rn.ret hM rfl rfl h
  · replace h := h.1 c
    refine Rn.seg (pc' := 24) (ls' := [(0, .ref 97), (1, .int x1)]) (st' := [.int (-1 : Int32)]) (σ' := σ) hM 2 rfl ?_
    exact Rn.ret hM rfl rfl h
set_option maxRecDepth 100000 in
theorem w_215_0 {d : Nat} {Q : Option Value → Sg → Prop} (σ : Sg) (x1 : Int32) (h : (inR (σ.1 97 18) 2 = true ∧ (∃ Qc : Int32 → Sg → Prop, OkI PRG d 195 [.int x1, .int (0 : Int32), .int ((σ.1 106 (σ.1 97 18).toNatClampNeg) - (1 : Int32))] σ Qc ∧ ∀ w2 σ1, Qc w2 σ1 → ((w2 = 0 → Q (some (.int (0 : Int32))) σ1) ∧ (¬ w2 = 0 → (inR (σ1.1 97 18) 2 = true ∧ (inR (σ1.1 97 18) 2 = true ∧ Q (some (.int ((((1 : Int32) <<< ((σ1.1 107 (σ1.1 97 18).toNatClampNeg) &&& 31)) - (1 : Int32)) <<< ((x1 * (σ1.1 107 (σ1.1 97 18).toNatClampNeg)) &&& 31)))) σ1))))))) : Rn PRG (d + 1) 215 0 [(0, .ref 97), (1, .int x1)] [] σ Q := by
  have hM : PRG[215]? = some M_215 := rfl
  refine Rn.seg (pc' := 10) (ls' := [(0, .ref 97), (1, .int x1)]) (st' := [.int (σ.1 97 18), .ref 106, .int (0 : Int32), .int x1]) (σ' := σ) hM 6 rfl ?_
  refine Rn.iald hM rfl rfl h.1 ?_
  refine Rn.seg (pc' := 13) (ls' := [(0, .ref 97), (1, .int x1)]) (st' := [.int ((σ.1 106 (σ.1 97 18).toNatClampNeg) - (1 : Int32)), .int (0 : Int32), .int x1]) (σ' := σ) hM 2 rfl ?_
  obtain ⟨Qc, hq, h⟩ := h.2
  refine Rn.cI hM rfl rfl (by decide) hq (fun w2 σ1 hw => ?_)
  replace h := h w2 σ1 hw
  refine Rn.br (c := w2 = 0) (a := 47) (b := 19) (ls' := [(0, .ref 97), (1, .int x1)]) (st' := []) (σ' := σ1) hM 1 rfl (fun c => ?_) (fun c => ?_)
  · replace h := h.1 c
    refine Rn.seg (pc' := 48) (ls' := [(0, .ref 97), (1, .int x1)]) (st' := [.int (0 : Int32)]) (σ' := σ1) hM 1 rfl ?_
    exact Rn.ret hM rfl rfl h
  · replace h := h.2 c
    refine Rn.seg (pc' := 28) (ls' := [(0, .ref 97), (1, .int x1)]) (st' := [.int (σ1.1 97 18), .ref 107, .int (1 : Int32)]) (σ' := σ1) hM 5 rfl ?_
    refine Rn.iald hM rfl rfl h.1 ?_
    refine Rn.seg (pc' := 41) (ls' := [(0, .ref 97), (1, .int x1)]) (st' := [.int (σ1.1 97 18), .ref 107, .int x1, .int (((1 : Int32) <<< ((σ1.1 107 (σ1.1 97 18).toNatClampNeg) &&& 31)) - (1 : Int32))]) (σ' := σ1) hM 8 rfl ?_
    refine Rn.iald hM rfl rfl h.2.1 ?_
    refine Rn.seg (pc' := 48) (ls' := [(0, .ref 97), (1, .int x1)]) (st' := [.int ((((1 : Int32) <<< ((σ1.1 107 (σ1.1 97 18).toNatClampNeg) &&& 31)) - (1 : Int32)) <<< ((x1 * (σ1.1 107 (σ1.1 97 18).toNatClampNeg)) &&& 31))]) (σ' := σ1) hM 3 rfl ?_
    exact Rn.ret hM rfl rfl h.2.2
set_option maxRecDepth 100000 in
theorem w_233_0 {d : Nat} {Q : Option Value → Sg → Prop} (σ : Sg) (h : (∃ Qc : Int32 → Sg → Prop, OkI PRG d 230 [.ref 97] σ Qc ∧ ∀ w2 σ1, Qc w2 σ1 → ((0 ≤ w2 → (∃ Qc : Int32 → Sg → Prop, OkI PRG d 226 [.ref 97, .int w2] σ1 Qc ∧ ∀ w4 σ3, Qc w4 σ3 → (∃ Qc : Int32 → Sg → Prop, OkI PRG d 232 [.ref 97, .int (σ3.1 97 48)] σ3 Qc ∧ ∀ w6 σ5, Qc w6 σ5 → (∃ Qc : Int32 → Sg → Prop, OkI PRG d 215 [.ref 97, .int w6] σ5 Qc ∧ ∀ w8 σ7, Qc w8 σ7 → (((w4 &&& w8) = 0 → Q (some (.int w4)) σ7) ∧ (¬ (w4 &&& w8) = 0 → Q (some (.int (w4 &&& w8))) σ7)))))) ∧ (¬ 0 ≤ w2 → Q (some (.int (0 : Int32))) σ1)))) : Rn PRG (d + 1) 233 0 [(0, .ref 97)] [] σ Q := by
  have hM : PRG[233]? = some M_233 := rfl
  refine Rn.seg (pc' := 1) (ls' := [(0, .ref 97)]) (st' := [.ref 97]) (σ' := σ) hM 1 rfl ?_
  obtain ⟨Qc, hq, h⟩ := h
  refine Rn.cI hM rfl rfl (by decide) hq (fun w2 σ1 hw => ?_)
  replace h := h w2 σ1 hw
  refine Rn.br (c := 0 ≤ w2) (a := 11) (b := 9) (ls' := [(1, .int w2), (0, .ref 97)]) (st' := []) (σ' := σ1) hM 3 rfl (fun c => ?_) (fun c => ?_)
  · replace h := h.1 c
    refine Rn.seg (pc' := 13) (ls' := [(1, .int w2), (0, .ref 97)]) (st' := [.int w2, .ref 97]) (σ' := σ1) hM 2 rfl ?_
    obtain ⟨Qc, hq, h⟩ := h
    refine Rn.cI hM rfl rfl (by decide) hq (fun w4 σ3 hw => ?_)
    replace h := h w4 σ3 hw
    refine Rn.seg (pc' := 24) (ls' := [(2, .int w4), (1, .int w2), (0, .ref 97)]) (st' := [.int (σ3.1 97 48), .ref 97, .ref 97, .int w4]) (σ' := σ3) hM 6 rfl ?_
    obtain ⟨Qc, hq, h⟩ := h
    refine Rn.cI hM rfl rfl (by decide) hq (fun w6 σ5 hw => ?_)
    replace h := h w6 σ5 hw
    refine Rn.seg (pc' := 27) (ls' := [(2, .int w4), (1, .int w2), (0, .ref 97)]) (st' := [.int w6, .ref 97, .int w4]) (σ' := σ5) hM 0 rfl ?_
    obtain ⟨Qc, hq, h⟩ := h
    refine Rn.cI hM rfl rfl (by decide) hq (fun w8 σ7 hw => ?_)
    replace h := h w8 σ7 hw
    refine Rn.br (c := (w4 &&& w8) = 0) (a := 40) (b := 36) (ls' := [(3, .int (w4 &&& w8)), (2, .int w4), (1, .int w2), (0, .ref 97)]) (st' := []) (σ' := σ7) hM 4 rfl (fun c => ?_) (fun c => ?_)
    · replace h := h.1 c
      refine Rn.seg (pc' := 41) (ls' := [(3, .int (w4 &&& w8)), (2, .int w4), (1, .int w2), (0, .ref 97)]) (st' := [.int w4]) (σ' := σ7) hM 1 rfl ?_
      exact Rn.ret hM rfl rfl h
    · replace h := h.2 c
      refine Rn.seg (pc' := 41) (ls' := [(3, .int (w4 &&& w8)), (2, .int w4), (1, .int w2), (0, .ref 97)]) (st' := [.int (w4 &&& w8)]) (σ' := σ7) hM 2 rfl ?_
      exact Rn.ret hM rfl rfl h
  · replace h := h.2 c
    refine Rn.seg (pc' := 10) (ls' := [(1, .int w2), (0, .ref 97)]) (st' := [.int (0 : Int32)]) (σ' := σ1) hM 1 rfl ?_
    exact Rn.ret hM rfl rfl h
set_option maxRecDepth 100000 in
theorem w_236_0 {d : Nat} {Q : Option Value → Sg → Prop} (σ : Sg) (x1 : Int32) (h : (∃ Qc : Int32 → Sg → Prop, OkI PRG d 230 [.ref 97] σ Qc ∧ ∀ w2 σ1, Qc w2 σ1 → ((w2 < 0 → Q (some (.int (0 : Int32))) σ1) ∧ (¬ w2 < 0 → (∃ Qc : Int32 → Sg → Prop, OkI PRG d 217 [.ref 97, .int x1] σ1 Qc ∧ ∀ w4 σ3, Qc w4 σ3 → ((w4 = 0 → Q (some (.int (0 : Int32))) σ3) ∧ (¬ w4 = 0 → (∃ Qc : Int32 → Sg → Prop, OkI PRG d 226 [.ref 97, .int w2] σ3 Qc ∧ ∀ w6 σ5, Qc w6 σ5 → ((((w6 >>> (x1 &&& 31)) &&& (1 : Int32)) = (1 : Int32) → Q (some (.int (1 : Int32))) σ5) ∧ (¬ ((w6 >>> (x1 &&& 31)) &&& (1 : Int32)) = (1 : Int32) → Q (some (.int (0 : Int32))) σ5)))))))))) : Rn PRG (d + 1) 236 0 [(0, .ref 97), (1, .int x1)] [] σ Q := by
  have hM : PRG[236]? = some M_236 := rfl
  refine Rn.seg (pc' := 1) (ls' := [(0, .ref 97), (1, .int x1)]) (st' := [.ref 97]) (σ' := σ) hM 1 rfl ?_
  obtain ⟨Qc, hq, h⟩ := h
  refine Rn.cI hM rfl rfl (by decide) hq (fun w2 σ1 hw => ?_)
  replace h := h w2 σ1 hw
  refine Rn.br (c := w2 < 0) (a := 34) (b := 9) (ls' := [(2, .int w2), (0, .ref 97), (1, .int x1)]) (st' := []) (σ' := σ1) hM 3 rfl (fun c => ?_) (fun c => ?_)
  · replace h := h.1 c
    refine Rn.seg (pc' := 35) (ls' := [(2, .int w2), (0, .ref 97), (1, .int x1)]) (st' := [.int (0 : Int32)]) (σ' := σ1) hM 1 rfl ?_
    exact Rn.ret hM rfl rfl h
  · replace h := h.2 c
    refine Rn.seg (pc' := 11) (ls' := [(2, .int w2), (0, .ref 97), (1, .int x1)]) (st' := [.int x1, .ref 97]) (σ' := σ1) hM 2 rfl ?_
    obtain ⟨Qc, hq, h⟩ := h
    refine Rn.cI hM rfl rfl (by decide) hq (fun w4 σ3 hw => ?_)
    replace h := h w4 σ3 hw
    refine Rn.br (c := w4 = 0) (a := 34) (b := 17) (ls' := [(2, .int w2), (0, .ref 97), (1, .int x1)]) (st' := []) (σ' := σ3) hM 1 rfl (fun c => ?_) (fun c => ?_)
    · replace h := h.1 c
      refine Rn.seg (pc' := 35) (ls' := [(2, .int w2), (0, .ref 97), (1, .int x1)]) (st' := [.int (0 : Int32)]) (σ' := σ3) hM 1 rfl ?_
      exact Rn.ret hM rfl rfl h
    · replace h := h.2 c
      refine Rn.seg (pc' := 19) (ls' := [(2, .int w2), (0, .ref 97), (1, .int x1)]) (st' := [.int w2, .ref 97]) (σ' := σ3) hM 2 rfl ?_
      obtain ⟨Qc, hq, h⟩ := h
      refine Rn.cI hM rfl rfl (by decide) hq (fun w6 σ5 hw => ?_)
      replace h := h w6 σ5 hw
      refine Rn.brN (c := ((w6 >>> (x1 &&& 31)) &&& (1 : Int32)) = (1 : Int32)) (a := 34) (b := 30) (ls' := [(2, .int w2), (0, .ref 97), (1, .int x1)]) (st' := []) (σ' := σ5) hM 6 rfl (fun c => ?_) (fun c => ?_)
      · replace h := h.2 c
        refine Rn.seg (pc' := 35) (ls' := [(2, .int w2), (0, .ref 97), (1, .int x1)]) (st' := [.int (0 : Int32)]) (σ' := σ5) hM 1 rfl ?_
        exact Rn.ret hM rfl rfl h
      · replace h := h.1 c
        refine Rn.seg (pc' := 35) (ls' := [(2, .int w2), (0, .ref 97), (1, .int x1)]) (st' := [.int (1 : Int32)]) (σ' := σ5) hM 2 rfl ?_
        exact Rn.ret hM rfl rfl h
set_option maxRecDepth 100000 in
theorem w_235_0 {d : Nat} {Q : Option Value → Sg → Prop} (σ : Sg) (x1 x2 : Int32) (h : (inR (σ.1 97 48) 16 = true ∧ (inR (σ.1 97 48) 16 = true ∧ Q (some (.int ((σ.1 97 48) + (1 : Int32)))) (s1 (s1 (s1 σ 126 (σ.1 97 48).toNatClampNeg x2) 127 (σ.1 97 48).toNatClampNeg x1) 97 48 ((σ.1 97 48) + (1 : Int32)))))) : Rn PRG d 235 0 [(0, .ref 97), (1, .int x1), (2, .int x2)] [] σ Q := by
  have hM : PRG[235]? = some M_235 := rfl
  refine Rn.seg (pc' := 9) (ls' := [(0, .ref 97), (1, .int x1), (2, .int x2)]) (st' := [.int x2, .int (σ.1 97 48), .ref 126]) (σ' := σ) hM 5 rfl ?_
  refine Rn.iast hM rfl rfl h.1 ?_
  refine Rn.seg (pc' := 19) (ls' := [(0, .ref 97), (1, .int x1), (2, .int x2)]) (st' := [.int x1, .int (σ.1 97 48), .ref 127]) (σ' := (s1 σ 126 (σ.1 97 48).toNatClampNeg x2)) hM 5 rfl ?_
  refine Rn.iast hM rfl rfl h.2.1 ?_
  refine Rn.seg (pc' := 34) (ls' := [(0, .ref 97), (1, .int x1), (2, .int x2)]) (st' := [.int ((σ.1 97 48) + (1 : Int32))]) (σ' := (s1 (s1 (s1 σ 126 (σ.1 97 48).toNatClampNeg x2) 127 (σ.1 97 48).toNatClampNeg x1) 97 48 ((σ.1 97 48) + (1 : Int32)))) hM 8 rfl ?_
  exact Rn.ret hM rfl rfl h.2.2
set_option maxRecDepth 100000 in
theorem w_237_0 {d : Nat} {Q : Option Value → Sg → Prop} (σ : Sg) (x1 : Int32) (h : (∃ Qc : Int32 → Sg → Prop, OkI PRG d 236 [.ref 97, .int x1] σ Qc ∧ ∀ w2 σ1, Qc w2 σ1 → ((w2 = 0 → Q (some (.int (-1 : Int32))) σ1) ∧ (¬ w2 = 0 → (∃ Qc : Int32 → Sg → Prop, OkI PRG d 233 [.ref 97] σ1 Qc ∧ ∀ w4 σ3, Qc w4 σ3 → ((((w4 >>> (x1 &&& 31)) &&& (1 : Int32)) = 0 → Q (some (.int (-2 : Int32))) σ3) ∧ (¬ ((w4 >>> (x1 &&& 31)) &&& (1 : Int32)) = 0 → (∃ Qc : Int32 → Sg → Prop, OkI PRG d 230 [.ref 97] σ3 Qc ∧ ∀ w6 σ5, Qc w6 σ5 → (∃ Qc : Int32 → Sg → Prop, OkI PRG d 235 [.ref 97, .int w6, .int x1] σ5 Qc ∧ ∀ w8 σ7, Qc w8 σ7 → Q (some (.int w8)) σ7))))))))) : Rn PRG (d + 1) 237 0 [(0, .ref 97), (1, .int x1)] [] σ Q := by
  have hM : PRG[237]? = some M_237 := rfl
  refine Rn.seg (pc' := 2) (ls' := [(0, .ref 97), (1, .int x1)]) (st' := [.int x1, .ref 97]) (σ' := σ) hM 2 rfl ?_
  obtain ⟨Qc, hq, h⟩ := h
  refine Rn.cI hM rfl rfl (by decide) hq (fun w2 σ1 hw => ?_)
  replace h := h w2 σ1 hw
  refine Rn.brN (c := w2 = 0) (a := 10) (b := 8) (ls' := [(0, .ref 97), (1, .int x1)]) (st' := []) (σ' := σ1) hM 1 rfl (fun c => ?_) (fun c => ?_)
  · replace h := h.2 c
    refine Rn.seg (pc' := 11) (ls' := [(0, .ref 97), (1, .int x1)]) (st' := [.ref 97]) (σ' := σ1) hM 1 rfl ?_
    obtain ⟨Qc, hq, h⟩ := h
    refine Rn.cI hM rfl rfl (by decide) hq (fun w4 σ3 hw => ?_)
    replace h := h w4 σ3 hw
    refine Rn.brN (c := ((w4 >>> (x1 &&& 31)) &&& (1 : Int32)) = 0) (a := 26) (b := 21) (ls' := [(0, .ref 97), (1, .int x1)]) (st' := []) (σ' := σ3) hM 5 rfl (fun c => ?_) (fun c => ?_)
    · replace h := h.2 c
      refine Rn.seg (pc' := 28) (ls' := [(0, .ref 97), (1, .int x1)]) (st' := [.ref 97, .ref 97]) (σ' := σ3) hM 2 rfl ?_
      obtain ⟨Qc, hq, h⟩ := h
      refine Rn.cI hM rfl rfl (by decide) hq (fun w6 σ5 hw => ?_)
      replace h := h w6 σ5 hw
      refine Rn.seg (pc' := 32) (ls' := [(0, .ref 97), (1, .int x1)]) (st' := [.int x1, .int w6, .ref 97]) (σ' := σ5) hM 1 rfl ?_
      obtain ⟨Qc, hq, h⟩ := h
      refine Rn.cI hM rfl rfl (by decide) hq (fun w8 σ7 hw => ?_)
      replace h := h w8 σ7 hw
      refine Rn.seg (pc' := 35) (ls' := [(0, .ref 97), (1, .int x1)]) (st' := [.int w8]) (σ' := σ7) hM 0 rfl ?_
      exact Rn.ret hM rfl rfl h
    · replace h := h.1 c
      refine Rn.seg (pc' := 35) (ls' := [(0, .ref 97), (1, .int x1)]) (st' := [.int (-2 : Int32)]) (σ' := σ3) hM 2 rfl ?_
      exact Rn.ret hM rfl rfl h
  · replace h := h.1 c
    refine Rn.seg (pc' := 9) (ls' := [(0, .ref 97), (1, .int x1)]) (st' := [.int (-1 : Int32)]) (σ' := σ1) hM 1 rfl ?_
    exact Rn.ret hM rfl rfl h
set_option maxRecDepth 100000 in
theorem w_238_0 {d : Nat} {Q : Option Value → Sg → Prop} (σ : Sg) (x1 : Int32) (h : (∃ Qc : Int32 → Sg → Prop, OkI PRG d 236 [.ref 97, .int x1] σ Qc ∧ ∀ w2 σ1, Qc w2 σ1 → ((w2 = 0 → Q (some (.int (-1 : Int32))) σ1) ∧ (¬ w2 = 0 → (∃ Qc : Int32 → Sg → Prop, OkI PRG d 230 [.ref 97] σ1 Qc ∧ ∀ w4 σ3, Qc w4 σ3 → (∃ Qc : Int32 → Sg → Prop, OkI PRG d 235 [.ref 97, .int w4, .int x1] σ3 Qc ∧ ∀ w6 σ5, Qc w6 σ5 → Q (some (.int w6)) σ5)))))) : Rn PRG (d + 1) 238 0 [(0, .ref 97), (1, .int x1)] [] σ Q := by
  have hM : PRG[238]? = some M_238 := rfl
  refine Rn.seg (pc' := 2) (ls' := [(0, .ref 97), (1, .int x1)]) (st' := [.int x1, .ref 97]) (σ' := σ) hM 2 rfl ?_
  obtain ⟨Qc, hq, h⟩ := h
  refine Rn.cI hM rfl rfl (by decide) hq (fun w2 σ1 hw => ?_)
  replace h := h w2 σ1 hw
  refine Rn.br (c := w2 = 0) (a := 20) (b := 8) (ls' := [(0, .ref 97), (1, .int x1)]) (st' := []) (σ' := σ1) hM 1 rfl (fun c => ?_) (fun c => ?_)
  · replace h := h.1 c
    refine Rn.seg (pc' := 21) (ls' := [(0, .ref 97), (1, .int x1)]) (st' := [.int (-1 : Int32)]) (σ' := σ1) hM 1 rfl ?_
    exact Rn.ret hM rfl rfl h
  · replace h := h.2 c
    refine Rn.seg (pc' := 10) (ls' := [(0, .ref 97), (1, .int x1)]) (st' := [.ref 97, .ref 97]) (σ' := σ1) hM 2 rfl ?_
    obtain ⟨Qc, hq, h⟩ := h
    refine Rn.cI hM rfl rfl (by decide) hq (fun w4 σ3 hw => ?_)
    replace h := h w4 σ3 hw
    refine Rn.seg (pc' := 14) (ls' := [(0, .ref 97), (1, .int x1)]) (st' := [.int x1, .int w4, .ref 97]) (σ' := σ3) hM 1 rfl ?_
    obtain ⟨Qc, hq, h⟩ := h
    refine Rn.cI hM rfl rfl (by decide) hq (fun w6 σ5 hw => ?_)
    replace h := h w6 σ5 hw
    refine Rn.seg (pc' := 21) (ls' := [(0, .ref 97), (1, .int x1)]) (st' := [.int w6]) (σ' := σ5) hM 1 rfl ?_
    exact Rn.ret hM rfl rfl h
set_option maxRecDepth 100000 in
theorem w_239_0 {d : Nat} {Q : Option Value → Sg → Prop} (σ : Sg) (h : (((σ.1 97 48) = 0 → Q (some (.int (-1 : Int32))) σ) ∧ (¬ (σ.1 97 48) = 0 → Q (some (.int ((σ.1 97 48) - (1 : Int32)))) (s1 σ 97 48 ((σ.1 97 48) - (1 : Int32)))))) : Rn PRG d 239 0 [(0, .ref 97)] [] σ Q := by
  have hM : PRG[239]? = some M_239 := rfl
  refine Rn.brN (c := (σ.1 97 48) = 0) (a := 9) (b := 7) (ls' := [(0, .ref 97)]) (st' := []) (σ' := σ) hM 3 rfl (fun c => ?_) (fun c => ?_)
  · replace h := h.2 c
    refine Rn.seg (pc' := 23) (ls' := [(0, .ref 97)]) (st' := [.int ((σ.1 97 48) - (1 : Int32))]) (σ' := (s1 σ 97 48 ((σ.1 97 48) - (1 : Int32)))) hM 8 rfl ?_
    exact Rn.ret hM rfl rfl h
  · replace h := h.1 c
    refine Rn.seg (pc' := 8) (ls' := [(0, .ref 97)]) (st' := [.int (-1 : Int32)]) (σ' := σ) hM 1 rfl ?_
    exact Rn.ret hM rfl rfl h
set_option maxRecDepth 100000 in
theorem w_224_0 {d : Nat} {Q : Option Value → Sg → Prop} (σ : Sg) (x1 : Int32) (h : (((σ.1 97 45) = 0 → Q (some (.int (0 : Int32))) σ) ∧ (¬ (σ.1 97 45) = 0 → ((0 < (σ.1 97 48) → Q (some (.int (0 : Int32))) σ) ∧ (¬ 0 < (σ.1 97 48) → (∃ Qc : Int32 → Sg → Prop, OkI PRG d 216 [.int x1] σ Qc ∧ ∀ w2 σ1, Qc w2 σ1 → ((w2 = 0 → Q (some (.int (0 : Int32))) σ1) ∧ (¬ w2 = 0 → Q (some (.int (1 : Int32))) (s1 σ1 97 47 x1))))))))) : Rn PRG (d + 1) 224 0 [(0, .ref 97), (1, .int x1)] [] σ Q := by
  have hM : PRG[224]? = some M_224 := rfl
  refine Rn.br (c := (σ.1 97 45) = 0) (a := 21) (b := 7) (ls' := [(0, .ref 97), (1, .int x1)]) (st' := []) (σ' := σ) hM 3 rfl (fun c => ?_) (fun c => ?_)
  · replace h := h.1 c
    refine Rn.seg (pc' := 22) (ls' := [(0, .ref 97), (1, .int x1)]) (st' := [.int (0 : Int32)]) (σ' := σ) hM 1 rfl ?_
    exact Rn.ret hM rfl rfl h
  · replace h := h.2 c
    refine Rn.br (c := 0 < (σ.1 97 48)) (a := 21) (b := 14) (ls' := [(0, .ref 97), (1, .int x1)]) (st' := []) (σ' := σ) hM 3 rfl (fun c => ?_) (fun c => ?_)
    · replace h := h.1 c
      refine Rn.seg (pc' := 22) (ls' := [(0, .ref 97), (1, .int x1)]) (st' := [.int (0 : Int32)]) (σ' := σ) hM 1 rfl ?_
      exact Rn.ret hM rfl rfl h
    · replace h := h.2 c
      refine Rn.seg (pc' := 15) (ls' := [(0, .ref 97), (1, .int x1)]) (st' := [.int x1]) (σ' := σ) hM 1 rfl ?_
      obtain ⟨Qc, hq, h⟩ := h
      refine Rn.cI hM rfl rfl (by decide) hq (fun w2 σ1 hw => ?_)
      replace h := h w2 σ1 hw
      refine Rn.brN (c := w2 = 0) (a := 23) (b := 21) (ls' := [(0, .ref 97), (1, .int x1)]) (st' := []) (σ' := σ1) hM 1 rfl (fun c => ?_) (fun c => ?_)
      · replace h := h.2 c
        refine Rn.seg (pc' := 29) (ls' := [(0, .ref 97), (1, .int x1)]) (st' := [.int (1 : Int32)]) (σ' := (s1 σ1 97 47 x1)) hM 4 rfl ?_
        exact Rn.ret hM rfl rfl h
      · replace h := h.1 c
        refine Rn.seg (pc' := 22) (ls' := [(0, .ref 97), (1, .int x1)]) (st' := [.int (0 : Int32)]) (σ' := σ1) hM 1 rfl ?_
        exact Rn.ret hM rfl rfl h
/-! playing a card, taking one back -/
theorem PL.congr {N n : Nat} {dl cd wh dl' cd' wh' : Nat → Int32} (h : PL N dl n cd wh) (h1 : ∀ p, p ≤ 3 → dl' p = dl p) (h2 : ∀ k, k < n → cd' k = cd k) (h3 : ∀ k, k < n → wh' k = wh k) : PL N dl' n cd' wh' := by
  obtain ⟨a0, a1, a2, a3, a4, a5, a6⟩ := h
  refine ⟨a0, fun p hp => by rw [h1 p hp]; exact a1 p hp, fun p hp b hb => by rw [h1 p hp]; exact a2 p hp b hb, fun p q hp hq hne b hb => ?_, fun k hk => ?_, fun j k hjk hk => ?_, fun k hk hk4 => ?_⟩
  · rw [h1 p hp] at hb
    rw [h1 q hq]
    exact a3 p q hp hq hne b hb
  · obtain ⟨p, b, hp, hb, e1, e2, e3⟩ := a4 k hk
    exact ⟨p, b, hp, hb, by rw [h3 k hk]; exact e1, by rw [h2 k hk]; exact e2, by rw [h1 p hp]; exact e3⟩
  · rw [h2 j (by omega), h2 k hk]
    exact a5 j k hjk hk
  · rw [h3 k hk, h3 (k - 1) (by omega)]
    exact a6 k hk hk4
theorem PL.pop {N n : Nat} {dl cd wh : Nat → Int32} (h : PL N dl (n + 1) cd wh) : PL N dl n cd wh := by
  obtain ⟨a0, a1, a2, a3, a4, a5, a6⟩ := h
  exact ⟨by omega, a1, a2, a3, fun k hk => a4 k (by omega), fun j k hjk hk => a5 j k hjk (by omega), fun k hk hk4 => a6 k (by omega) hk4⟩
theorem PL.push {N n p c : Nat} {dl cd wh cd' wh' : Nat → Int32} (h : PL N dl n cd wh) (hn : n < N) (hp : p ≤ 3) (hc : c < N) (hb : bt (dl p) c = true) (hnew : ¬ ∃ k : Nat, k < n ∧ (wh k).toInt = (p : Int) ∧ (cd k).toInt = (c : Int)) (hord : ¬ n % 4 = 0 → (p : Int) = ((wh (n - 1)).toInt + 1) % 4) (h2 : ∀ k, k < n → cd' k = cd k) (h3 : ∀ k, k < n → wh' k = wh k) (hcn : (cd' n).toInt = (c : Int)) (hwn : (wh' n).toInt = (p : Int)) : PL N dl (n + 1) cd' wh' := by
  obtain ⟨a0, a1, a2, a3, a4, a5, a6⟩ := h
  have hdist : ∀ j, j < n → ¬ (cd j).toInt = (c : Int) := by
    intro j hj he
    obtain ⟨q, b, hq, hbN, e1, e2, e3⟩ := a4 j hj
    by_cases hqp : q = p
    · subst hqp
      exact hnew ⟨j, hj, e1, he⟩
    · have hbc : b = c := by omega
      subst hbc
      rw [a3 q p hq hp hqp b e3] at hb
      cases hb
  refine ⟨by omega, a1, a2, a3, fun k hk => ?_, fun j k hjk hk => ?_, fun k hk hk4 => ?_⟩
  · by_cases hkn : k = n
    · subst hkn; exact ⟨p, c, hp, hc, hwn, hcn, hb⟩
    · obtain ⟨q, b, hq, hbN, e1, e2, e3⟩ := a4 k (by omega)
      exact ⟨q, b, hq, hbN, by rw [h3 k (by omega)]; exact e1, by rw [h2 k (by omega)]; exact e2, e3⟩
  · by_cases hkn : k = n
    · subst hkn
      rw [h2 j hjk, hcn]
      exact hdist j hjk
    · rw [h2 j (by omega), h2 k (by omega)]
      exact a5 j k hjk (by omega)
  · by_cases hkn : k = n
    · subst hkn
      rw [hwn, h3 (k - 1) (by omega)]
      exact hord hk4
    · rw [h3 k (by omega), h3 (k - 1) (by omega)]
      exact a6 k (by omega) hk4
/-- the deal and what was played of it, as the store has it -/
def GS (N : Nat) (σ : Sg) : Prop := ((σ.1 97 45) = 0 → (σ.1 97 48).toInt = 0) ∧ (¬ (σ.1 97 45) = 0 → PL N (σ.1 125) (wn (σ.1 97 48)) (σ.1 126) (σ.1 127))
def HS (N : Nat) (σ : Sg) : Prop := ∀ s : Nat, s ≤ 1 → ¬ (σ.1 152 s) = 0 → PL N (fun p => σ.1 153 (4 * s + p)) (wn (σ.1 155 s)) (fun k => σ.1 156 (16 * s + k)) (fun k => σ.1 157 (16 * s + k))
/-- what stands between calls, on the reference's side -/
def GI (N : Nat) (σ : Sg) : Prop := typed TYP σ ∧ I2 σ ∧ pack N σ ∧ TB σ ∧ GS N σ ∧ HS N σ
theorem GI.cg {N : Nat} {σ : Sg} (h : GI N σ) : CG σ := by
  intro k hk
  obtain ⟨-, -, -, -, ⟨g1, g2⟩, -⟩ := h
  by_cases h0 : (σ.1 97 45) = 0
  · rw [g1 h0] at hk; omega
  · obtain ⟨p, b, -, -, -, e, -⟩ := (g2 h0).2.2.2.2.1 k (by unfold wn; omega)
    omega
def DEPG : List (Nat × Nat × Nat) := [(12, 18, 18), (12, 45, 45), (12, 48, 48), (62, 0, 1), (63, 0, 1), (81, 0, 3), (82, 0, 15), (83, 0, 15), (108, 0, 1), (109, 0, 7), (111, 0, 1), (112, 0, 31), (113, 0, 31)]
theorem GI.keep {N : Nat} {ms : List (Nat × Nat × Nat)} {σ σ' : Sg} (h : GI N σ) (hG : Gl ms σ σ') (ho : offD ms DEPG = true) (hI : I2 σ') (hT : TB σ') : GI N σ' := by
  obtain ⟨ht, -, hP, -, ⟨g1, g2⟩, hH⟩ := h
  have ho2 : ∀ {κ k : Nat}, inM DEPG κ k = true → inM ms κ k = false := fun hk => off_in ho hk
  have e18 : σ'.1 97 18 = σ.1 97 18 := hG.get (q := 97) (κ := 12) rfl (ho2 rfl)
  have e45 : σ'.1 97 45 = σ.1 97 45 := hG.get (q := 97) (κ := 12) rfl (ho2 rfl)
  have e48 : σ'.1 97 48 = σ.1 97 48 := hG.get (q := 97) (κ := 12) rfl (ho2 rfl)
  have hl := live_wn ht
  have hcl : (σ.1 97 18).toNatClampNeg ≤ 1 := hl.2
  have e106 : σ'.1 106 (σ.1 97 18).toNatClampNeg = σ.1 106 (σ.1 97 18).toNatClampNeg := hG.get (q := 106) (κ := 62) rfl (ho2 (inM_of (a := 0) (b := 1) (by decide) (by omega) hcl))
  have e107 : σ'.1 107 (σ.1 97 18).toNatClampNeg = σ.1 107 (σ.1 97 18).toNatClampNeg := hG.get (q := 107) (κ := 63) rfl (ho2 (inM_of (a := 0) (b := 1) (by decide) (by omega) hcl))
  have e125 : ∀ k, k ≤ 3 → σ'.1 125 k = σ.1 125 k := fun k hk => hG.get (q := 125) (κ := 81) rfl (ho2 (inM_of (a := 0) (b := 3) (by decide) (by omega) hk))
  have e126 : ∀ k, k ≤ 15 → σ'.1 126 k = σ.1 126 k := fun k hk => hG.get (q := 126) (κ := 82) rfl (ho2 (inM_of (a := 0) (b := 15) (by decide) (by omega) hk))
  have e127 : ∀ k, k ≤ 15 → σ'.1 127 k = σ.1 127 k := fun k hk => hG.get (q := 127) (κ := 83) rfl (ho2 (inM_of (a := 0) (b := 15) (by decide) (by omega) hk))
  have e152 : ∀ k, k ≤ 1 → σ'.1 152 k = σ.1 152 k := fun k hk => hG.get (q := 152) (κ := 108) rfl (ho2 (inM_of (a := 0) (b := 1) (by decide) (by omega) hk))
  have e153 : ∀ k, k ≤ 7 → σ'.1 153 k = σ.1 153 k := fun k hk => hG.get (q := 153) (κ := 109) rfl (ho2 (inM_of (a := 0) (b := 7) (by decide) (by omega) hk))
  have e155 : ∀ k, k ≤ 1 → σ'.1 155 k = σ.1 155 k := fun k hk => hG.get (q := 155) (κ := 111) rfl (ho2 (inM_of (a := 0) (b := 1) (by decide) (by omega) hk))
  have e156 : ∀ k, k ≤ 31 → σ'.1 156 k = σ.1 156 k := fun k hk => hG.get (q := 156) (κ := 112) rfl (ho2 (inM_of (a := 0) (b := 31) (by decide) (by omega) hk))
  have e157 : ∀ k, k ≤ 31 → σ'.1 157 k = σ.1 157 k := fun k hk => hG.get (q := 157) (κ := 113) rfl (ho2 (inM_of (a := 0) (b := 31) (by decide) (by omega) hk))
  have h16 : ∀ {n : Nat} {dl cd wh : Nat → Int32}, PL N dl n cd wh → n ≤ 16 := fun hp => by have := hp.1; have := hP.le; omega
  refine ⟨hG.1, hI, pack_of e18 e106 e107 hP, hT, ⟨by rw [e45, e48]; exact g1, fun h0 => ?_⟩, fun s hs h0 => ?_⟩
  · rw [e45] at h0
    rw [e48]
    have := h16 (g2 h0)
    exact (g2 h0).congr (fun p hp => e125 p hp) (fun k hk => e126 k (by omega)) (fun k hk => e127 k (by omega))
  · rw [e152 s hs] at h0
    rw [e155 s hs]
    have hp := hH s hs h0
    have := h16 hp
    exact hp.congr (fun p hp => e153 _ (by omega)) (fun k hk => e156 _ (by omega)) (fun k hk => e157 _ (by omega))
theorem TB.keep {ms : List (Nat × Nat × Nat)} {σ σ' : Sg} (h : TB σ) (hG : Gl ms σ σ') (ho : offD ms [(92, 0, 262143)] = true) : TB σ' := by
  intro i hi
  have : σ'.1 136 i = σ.1 136 i := hG.get (q := 136) (κ := 92) rfl (off_in ho (inM_of (a := 0) (b := 262143) List.mem_cons_self (by omega) (by omega)))
  rw [this]
  exact h i hi
/-- the turn's answer is one and the same -/
theorem turn_fix {N : Nat} {σ : Sg} (ht : typed TYP σ) (hp : pack N σ) : ∃ w0, tnP N σ w0 ∧ ∀ d, OkI PRG (d + 1 + 1 + 1) 230 [.ref 97] σ (fun w σ' => σ' = σ ∧ w = w0) := by
  obtain ⟨M, a1, a2, n, v, σ', a3, w, rfl, rfl, hw⟩ := turnNow_OK (d := 0) ht hp
  exact ⟨w, hw, fun d => ⟨M, a1, a2, n, _, _, run_more n n _ (d + 1 + 1 + 1) _ _ _ _ _ _ (Nat.le_refl _) (by omega) a3, w, rfl, rfl, rfl⟩⟩
theorem ledAt_OK {d i : Nat} {x1 : Int32} {σ : Sg} (ht : typed TYP σ) (hp : pkOK σ) (h1 : x1.toInt = (i : Int)) (hi : i ≤ 16) : OkI PRG (d + 1) 232 [.ref 97, .int x1] σ (fun _ σ' => σ' = σ) := by
  have four : (4 : Int32).toInt = 4 := by decide
  have r4 : (x1 - x1 / (4 : Int32) * (4 : Int32)).toInt = ((i % 4 : Nat) : Int) := by
    rw [rem_ex (by decide), h1, four, Int.tmod_eq_emod_of_nonneg (by omega)]; omega
  have e2 : (x1 - (x1 - x1 / (4 : Int32) * (4 : Int32))).toInt = ((i - i % 4 : Nat) : Int) := by
    rw [sub_ex (by rw [h1, r4]; unfold FL; clear r4; omega) (by rw [h1, r4]; unfold FH; clear r4; omega), h1, r4]; clear r4; omega
  refine ⟨M_232, rfl, Nat.le_of_ble_eq_true rfl, w_232_0 σ x1 ⟨fun _ => ⟨_, rfl, rfl⟩, fun c => ?_⟩⟩
  have hne : ¬ i % 4 = 0 := fun h => c (Int32.toInt_inj.mp (by rw [r4, h]; rfl))
  refine ⟨inR_ok (by rw [e2]; clear r4 e2; omega) (by rw [e2]; clear r4 e2; omega), _, suitOf_OK ht hp, fun w2 σ1 hq => ⟨_, rfl, hq.1⟩⟩
theorem suitCards_OK {d : Nat} {x1 : Int32} {σ : Sg} (ht : typed TYP σ) : OkI PRG (d + 1) 215 [.ref 97, .int x1] σ (fun _ σ' => σ' = σ) := by
  refine ⟨M_215, rfl, Nat.le_of_ble_eq_true rfl, w_215_0 σ x1 ⟨live_in ht, _, in_OK, fun w2 σ1 hq => ?_⟩⟩
  obtain ⟨rfl, -⟩ := hq
  exact ⟨fun _ => ⟨_, rfl, rfl⟩, fun _ => ⟨live_in ht, live_in ht, _, rfl, rfl⟩⟩
/-- the hand of the one whose turn it is, and what he may lay -/
def hnP (σ : Sg) (w0 hand : Int32) : Prop := ∃ y, pbP σ w0 (wn (σ.1 97 48)) y ∧ hand = (σ.1 125 (wn w0)) &&& (y ^^^ (-1 : Int32))
def myP (σ : Sg) (w0 w : Int32) : Prop := (w0.toInt < 0 ∧ w = 0) ∨ (0 ≤ w0.toInt ∧ ∃ hand z, hnP σ w0 hand ∧ (w = hand ∨ (¬ w = 0 ∧ w = (hand &&& z))))
theorem mayNow_OK {d N : Nat} {w0 : Int32} {σ : Sg} (ht : typed TYP σ) (hP : pack N σ) (h0 : tnP N σ w0) (hT : ∀ d, OkI PRG (d + 1 + 1 + 1) 230 [.ref 97] σ (fun w σ' => σ' = σ ∧ w = w0)) : OkI PRG (d + 1 + 1 + 1 + 1) 233 [.ref 97] σ (fun w σ' => σ' = σ ∧ myP σ w0 w) := by
  obtain ⟨n, hn, hn16⟩ := played_rg ht
  refine ⟨M_233, rfl, Nat.le_of_ble_eq_true rfl, w_233_0 σ ⟨_, hT d, fun w2 σ1 hq => ?_⟩⟩
  obtain ⟨rfl, rfl⟩ := hq
  refine ⟨fun c => ?_, fun c => ?_⟩
  · rw [z_le] at c
    have hr : w2.toInt ≤ 3 := by
      rcases h0 with ⟨-, h⟩ | ⟨-, -, -, h, -⟩
      · omega
      · exact h
    refine ⟨_, handNow_OK ht (p := wn w2) (by unfold wn; omega) (by unfold wn; omega) hn, fun w4 σ3 hq => ?_⟩
    obtain ⟨rfl, y, hy, hw4⟩ := hq
    refine ⟨_, ledAt_OK ht hP.pk hn hn16, fun w6 σ5 hq => ?_⟩
    subst hq
    refine ⟨_, suitCards_OK ht, fun w8 σ7 hq => ?_⟩
    subst hq
    have hwn : wn (σ7.1 97 48) = n := by unfold wn; omega
    have hh : hnP σ7 w2 w4 := ⟨y, by rw [hwn]; exact hy, hw4⟩
    exact ⟨fun _ => ⟨_, rfl, rfl, Or.inr ⟨c, w4, w8, hh, Or.inl rfl⟩⟩, fun hne => ⟨_, rfl, rfl, Or.inr ⟨c, w4, w8, hh, Or.inr ⟨hne, rfl⟩⟩⟩⟩
  · rw [z_le] at c
    exact ⟨_, rfl, rfl, Or.inl ⟨by omega, rfl⟩⟩
theorem canPlay_OK {d N : Nat} {w0 x1 : Int32} {σ : Sg} (ht : typed TYP σ) (hI : I2 σ) (hP : pack N σ) (h0 : tnP N σ w0) (hT : ∀ d, OkI PRG (d + 1 + 1 + 1) 230 [.ref 97] σ (fun w σ' => σ' = σ ∧ w = w0)) (hC : ∀ {d}, OkI PRG (d + 1) 217 [.ref 97, .int x1] σ (fun w σ' => σ' = σ ∧ (¬ w = 0 → 0 ≤ x1.toInt ∧ x1.toInt < (N : Int)))) : OkI PRG (d + 1 + 1 + 1 + 1) 236 [.ref 97, .int x1] σ (fun w σ' => σ' = σ ∧ (¬ w = 0 → 0 ≤ w0.toInt ∧ 0 ≤ x1.toInt ∧ x1.toInt < (N : Int) ∧ ∃ hand, hnP σ w0 hand ∧ bt hand x1.toInt.toNat = true)) := by
  obtain ⟨n, hn, hn16⟩ := played_rg ht
  have hN := hP.le
  refine ⟨M_236, rfl, Nat.le_of_ble_eq_true rfl, w_236_0 σ x1 ⟨_, hT d, fun w2 σ1 hq => ?_⟩⟩
  obtain ⟨rfl, rfl⟩ := hq
  refine ⟨fun _ => ⟨_, rfl, rfl, fun h => absurd rfl h⟩, fun c => ⟨_, hC, fun w4 σ3 hq => ?_⟩⟩
  obtain ⟨rfl, hc⟩ := hq
  rw [z_lt] at c
  have hr : w2.toInt ≤ 3 := by
    rcases h0 with ⟨-, h⟩ | ⟨-, -, -, h, -⟩
    · omega
    · exact h
  refine ⟨fun _ => ⟨_, rfl, rfl, fun h => absurd rfl h⟩, fun hne => ⟨_, handNow_OK ht (p := wn w2) (by unfold wn; omega) (by unfold wn; omega) hn, fun w6 σ5 hq => ?_⟩⟩
  obtain ⟨rfl, y, hy, hw6⟩ := hq
  have hx := hc hne
  have hwn : wn (σ5.1 97 48) = n := by unfold wn; omega
  rw [bit_1 (k := x1.toInt.toNat) (by omega) (by omega)]
  exact ⟨fun hb => ⟨_, rfl, rfl, fun _ => ⟨by omega, hx.1, hx.2, w6, ⟨y, by rw [hwn]; exact hy, hw6⟩, hb⟩⟩, fun _ => ⟨_, rfl, rfl, fun h => absurd rfl h⟩⟩
