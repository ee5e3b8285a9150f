/-! lies: what must hold -/
set_option maxRecDepth 100000 in
theorem w_300_0 {d : Nat} {Q : Option Value → Sg → Prop} (σ : Sg) (x1 x2 : Int32) (h : (∃ Qc : Int32 → Sg → Prop, OkI PRG d 230 [.ref 97] σ Qc ∧ ∀ w2 σ1, Qc w2 σ1 → (∃ Qc : Int32 → Sg → Prop, OkI PRG d 232 [.ref 97, .int (σ1.1 97 48)] σ1 Qc ∧ ∀ w4 σ3, Qc w4 σ3 → ((w4 = (-1 : Int32) → Rn PRG (d + 1) 300 48 [(0, .ref 97), (1, .int x1), (2, .int x2), (3, .int w2), (4, .int w4), (5, .int (0 : Int32)), (6, .int (-1 : Int32)), (7, .int (0 : Int32))] [] σ3 Q) ∧ (¬ w4 = (-1 : Int32) → (∃ Qc : Int32 → Sg → Prop, OkI PRG d 212 [.ref 97, .int x1] σ3 Qc ∧ ∀ w6 σ5, Qc w6 σ5 → ((w6 = w4 → Rn PRG (d + 1) 300 48 [(0, .ref 97), (1, .int x1), (2, .int x2), (3, .int w2), (4, .int w4), (5, .int (1 : Int32)), (6, .int (-1 : Int32)), (7, .int (0 : Int32))] [] σ5 Q) ∧ (¬ w6 = w4 → Rn PRG (d + 1) 300 48 [(0, .ref 97), (1, .int x1), (2, .int x2), (3, .int w2), (4, .int w4), (5, .int (2 : Int32)), (6, .int (-1 : Int32)), (7, .int (0 : Int32))] [] σ5 Q)))))))) : Rn PRG (d + 1) 300 0 [(0, .ref 97), (1, .int x1), (2, .int x2)] [] σ Q := by
  have hM : PRG[300]? = some M_300 := rfl
  refine Rn.seg (pc' := 1) (ls' := [(0, .ref 97), (1, .int x1), (2, .int x2)]) (st' := [.ref 97]) (σ' := σ) hM 1 rfl ?_
  obtain ⟨Qc, hq, h⟩ := h
  refine Rn.cI hM rfl rfl (by decide) hq (fun w2 σ1 hw => ?_)
  replace h := h w2 σ1 hw
  refine Rn.seg (pc' := 10) (ls' := [(3, .int w2), (0, .ref 97), (1, .int x1), (2, .int x2)]) (st' := [.int (σ1.1 97 48), .ref 97]) (σ' := σ1) hM 4 rfl ?_
  obtain ⟨Qc, hq, h⟩ := h
  refine Rn.cI hM rfl rfl (by decide) hq (fun w4 σ3 hw => ?_)
  replace h := h w4 σ3 hw
  refine Rn.brN (c := w4 = (-1 : Int32)) (a := 25) (b := 21) (ls' := [(4, .int w4), (3, .int w2), (0, .ref 97), (1, .int x1), (2, .int x2)]) (st' := []) (σ' := σ3) hM 4 rfl (fun c => ?_) (fun c => ?_)
  · replace h := h.2 c
    refine Rn.seg (pc' := 27) (ls' := [(4, .int w4), (3, .int w2), (0, .ref 97), (1, .int x1), (2, .int x2)]) (st' := [.int x1, .ref 97]) (σ' := σ3) hM 2 rfl ?_
    obtain ⟨Qc, hq, h⟩ := h
    refine Rn.cI hM rfl rfl (by decide) hq (fun w6 σ5 hw => ?_)
    replace h := h w6 σ5 hw
    refine Rn.brN (c := w6 = w4) (a := 39) (b := 35) (ls' := [(4, .int w4), (3, .int w2), (0, .ref 97), (1, .int x1), (2, .int x2)]) (st' := []) (σ' := σ5) hM 2 rfl (fun c => ?_) (fun c => ?_)
    · replace h := h.2 c
      refine Rn.seg (pc' := 48) (ls' := [(7, .int (0 : Int32)), (6, .int (-1 : Int32)), (5, .int (2 : Int32)), (4, .int w4), (3, .int w2), (0, .ref 97), (1, .int x1), (2, .int x2)]) (st' := []) (σ' := σ5) hM 6 rfl ?_
      exact Rn.sub h (subL_cons rfl (subL_cons rfl (subL_cons rfl (subL_cons rfl (subL_cons rfl (subL_cons rfl (subL_cons rfl (subL_cons rfl subL_nil)))))))) (show ndL _ from (by decide : List.Nodup ([0, 1, 2, 3, 4, 5, 6, 7] : List Nat)))
    · replace h := h.1 c
      refine Rn.seg (pc' := 48) (ls' := [(7, .int (0 : Int32)), (6, .int (-1 : Int32)), (5, .int (1 : Int32)), (4, .int w4), (3, .int w2), (0, .ref 97), (1, .int x1), (2, .int x2)]) (st' := []) (σ' := σ5) hM 7 rfl ?_
      exact Rn.sub h (subL_cons rfl (subL_cons rfl (subL_cons rfl (subL_cons rfl (subL_cons rfl (subL_cons rfl (subL_cons rfl (subL_cons rfl subL_nil)))))))) (show ndL _ from (by decide : List.Nodup ([0, 1, 2, 3, 4, 5, 6, 7] : List Nat)))
  · replace h := h.1 c
    refine Rn.seg (pc' := 48) (ls' := [(7, .int (0 : Int32)), (6, .int (-1 : Int32)), (5, .int (0 : Int32)), (4, .int w4), (3, .int w2), (0, .ref 97), (1, .int x1), (2, .int x2)]) (st' := []) (σ' := σ3) hM 7 rfl ?_
    exact Rn.sub h (subL_cons rfl (subL_cons rfl (subL_cons rfl (subL_cons rfl (subL_cons rfl (subL_cons rfl (subL_cons rfl (subL_cons rfl subL_nil)))))))) (show ndL _ from (by decide : List.Nodup ([0, 1, 2, 3, 4, 5, 6, 7] : List Nat)))
set_option maxRecDepth 100000 in
theorem w_300_48 {d : Nat} {Q : Option Value → Sg → Prop} (σ : Sg) (x1 x2 x3 x4 x5 x6 x7 : Int32) (h : (((σ.1 97 48) ≤ x7 → (∃ Qc : Int32 → Sg → Prop, OkI PRG d 253 [.ref 97, .int x2, .int x3, .int x5, .int x1, .int x4, .int ((σ.1 97 48) / (4 : Int32)), .int x6] σ Qc ∧ ∀ w2 σ1, Qc w2 σ1 → (∃ Qc : Int32 → Sg → Prop, OkI PRG d 226 [.ref 97, .int x3] σ1 Qc ∧ ∀ w4 σ3, Qc w4 σ3 → (∃ Qc : Int32 → Sg → Prop, OkI PRG d 254 [.ref 97, .int w2, .int x1, .int w4] σ3 Qc ∧ ∀ w6 σ5, Qc w6 σ5 → Q (some (.int w6)) σ5)))) ∧ (¬ (σ.1 97 48) ≤ x7 → (inR x7 16 = true ∧ (((σ.1 127 x7.toNatClampNeg) = x3 → (inR x7 16 = true ∧ (∃ Qc : Int32 → Sg → Prop, OkI PRG d 212 [.ref 97, .int (σ.1 126 x7.toNatClampNeg)] σ Qc ∧ ∀ w8 σ7, Qc w8 σ7 → (∃ Qc : Int32 → Sg → Prop, OkI PRG d 212 [.ref 97, .int x1] σ7 Qc ∧ ∀ w10 σ9, Qc w10 σ9 → ((w8 = w10 → (inR x7 16 = true ∧ (∃ Qc : Int32 → Sg → Prop, OkI PRG d 213 [.ref 97, .int (σ9.1 126 x7.toNatClampNeg)] σ9 Qc ∧ ∀ w12 σ11, Qc w12 σ11 → Rn PRG (d + 1) 300 48 [(0, .ref 97), (1, .int x1), (2, .int x2), (3, .int x3), (4, .int x4), (5, .int x5), (6, .int w12), (7, .int (x7 + (1 : Int32)))] [] σ11 Q))) ∧ (¬ w8 = w10 → Rn PRG (d + 1) 300 48 [(0, .ref 97), (1, .int x1), (2, .int x2), (3, .int x3), (4, .int x4), (5, .int x5), (6, .int x6), (7, .int (x7 + (1 : Int32)))] [] σ9 Q)))))) ∧ (¬ (σ.1 127 x7.toNatClampNeg) = x3 → Rn PRG (d + 1) 300 48 [(0, .ref 97), (1, .int x1), (2, .int x2), (3, .int x3), (4, .int x4), (5, .int x5), (6, .int x6), (7, .int (x7 + (1 : Int32)))] [] σ Q)))))) : Rn PRG (d + 1) 300 48 [(0, .ref 97), (1, .int x1), (2, .int x2), (3, .int x3), (4, .int x4), (5, .int x5), (6, .int x6), (7, .int x7)] [] σ Q := by
  have hM : PRG[300]? = some M_300 := rfl
  refine Rn.br (c := (σ.1 97 48) ≤ x7) (a := 106) (b := 57) (ls' := [(0, .ref 97), (1, .int x1), (2, .int x2), (3, .int x3), (4, .int x4), (5, .int x5), (6, .int x6), (7, .int x7)]) (st' := []) (σ' := σ) hM 4 rfl (fun c => ?_) (fun c => ?_)
  · replace h := h.1 c
    refine Rn.seg (pc' := 123) (ls' := [(0, .ref 97), (1, .int x1), (2, .int x2), (3, .int x3), (4, .int x4), (5, .int x5), (6, .int x6), (7, .int x7)]) (st' := [.int x6, .int ((σ.1 97 48) / (4 : Int32)), .int x4, .int x1, .int x5, .int x3, .int x2, .ref 97, .ref 97]) (σ' := σ) hM 12 rfl ?_
    obtain ⟨Qc, hq, h⟩ := h
    refine Rn.cI hM rfl rfl (by decide) hq (fun w2 σ1 hw => ?_)
    replace h := h w2 σ1 hw
    refine Rn.seg (pc' := 129) (ls' := [(0, .ref 97), (1, .int x1), (2, .int x2), (3, .int x3), (4, .int x4), (5, .int x5), (6, .int x6), (7, .int x7)]) (st' := [.int x3, .ref 97, .int x1, .int w2, .ref 97]) (σ' := σ1) hM 3 rfl ?_
    obtain ⟨Qc, hq, h⟩ := h
    refine Rn.cI hM rfl rfl (by decide) hq (fun w4 σ3 hw => ?_)
    replace h := h w4 σ3 hw
    refine Rn.seg (pc' := 132) (ls' := [(0, .ref 97), (1, .int x1), (2, .int x2), (3, .int x3), (4, .int x4), (5, .int x5), (6, .int x6), (7, .int x7)]) (st' := [.int w4, .int x1, .int w2, .ref 97]) (σ' := σ3) hM 0 rfl ?_
    obtain ⟨Qc, hq, h⟩ := h
    refine Rn.cI hM rfl rfl (by decide) hq (fun w6 σ5 hw => ?_)
    replace h := h w6 σ5 hw
    refine Rn.seg (pc' := 135) (ls' := [(0, .ref 97), (1, .int x1), (2, .int x2), (3, .int x3), (4, .int x4), (5, .int x5), (6, .int x6), (7, .int x7)]) (st' := [.int w6]) (σ' := σ5) hM 0 rfl ?_
    exact Rn.ret hM rfl rfl h
  · replace h := h.2 c
    refine Rn.seg (pc' := 63) (ls' := [(0, .ref 97), (1, .int x1), (2, .int x2), (3, .int x3), (4, .int x4), (5, .int x5), (6, .int x6), (7, .int x7)]) (st' := [.int x7, .ref 127]) (σ' := σ) hM 3 rfl ?_
    refine Rn.iald hM rfl rfl h.1 ?_
    refine Rn.brN (c := (σ.1 127 x7.toNatClampNeg) = x3) (a := 100) (b := 68) (ls' := [(0, .ref 97), (1, .int x1), (2, .int x2), (3, .int x3), (4, .int x4), (5, .int x5), (6, .int x6), (7, .int x7)]) (st' := []) (σ' := σ) hM 2 rfl (fun c => ?_) (fun c => ?_)
    · replace h := h.2.2 c
      refine Rn.seg (pc' := 48) (ls' := [(7, .int (x7 + (1 : Int32))), (0, .ref 97), (1, .int x1), (2, .int x2), (3, .int x3), (4, .int x4), (5, .int x5), (6, .int x6)]) (st' := []) (σ' := σ) hM 2 rfl ?_
      exact Rn.sub h (subL_cons rfl (subL_cons rfl (subL_cons rfl (subL_cons rfl (subL_cons rfl (subL_cons rfl (subL_cons rfl (subL_cons rfl subL_nil)))))))) (show ndL _ from (by decide : List.Nodup ([0, 1, 2, 3, 4, 5, 6, 7] : List Nat)))
    · replace h := h.2.1 c
      refine Rn.seg (pc' := 75) (ls' := [(0, .ref 97), (1, .int x1), (2, .int x2), (3, .int x3), (4, .int x4), (5, .int x5), (6, .int x6), (7, .int x7)]) (st' := [.int x7, .ref 126, .ref 97]) (σ' := σ) hM 4 rfl ?_
      refine Rn.iald hM rfl rfl h.1 ?_
      refine Rn.seg (pc' := 76) (ls' := [(0, .ref 97), (1, .int x1), (2, .int x2), (3, .int x3), (4, .int x4), (5, .int x5), (6, .int x6), (7, .int x7)]) (st' := [.int (σ.1 126 x7.toNatClampNeg), .ref 97]) (σ' := σ) hM 0 rfl ?_
      obtain ⟨Qc, hq, h⟩ := h.2
      refine Rn.cI hM rfl rfl (by decide) hq (fun w8 σ7 hw => ?_)
      replace h := h w8 σ7 hw
      refine Rn.seg (pc' := 81) (ls' := [(0, .ref 97), (1, .int x1), (2, .int x2), (3, .int x3), (4, .int x4), (5, .int x5), (6, .int x6), (7, .int x7)]) (st' := [.int x1, .ref 97, .int w8]) (σ' := σ7) hM 2 rfl ?_
      obtain ⟨Qc, hq, h⟩ := h
      refine Rn.cI hM rfl rfl (by decide) hq (fun w10 σ9 hw => ?_)
      replace h := h w10 σ9 hw
      refine Rn.brN (c := w8 = w10) (a := 100) (b := 87) (ls' := [(0, .ref 97), (1, .int x1), (2, .int x2), (3, .int x3), (4, .int x4), (5, .int x5), (6, .int x6), (7, .int x7)]) (st' := []) (σ' := σ9) hM 1 rfl (fun c => ?_) (fun c => ?_)
      · replace h := h.2 c
        refine Rn.seg (pc' := 48) (ls' := [(7, .int (x7 + (1 : Int32))), (0, .ref 97), (1, .int x1), (2, .int x2), (3, .int x3), (4, .int x4), (5, .int x5), (6, .int x6)]) (st' := []) (σ' := σ9) hM 2 rfl ?_
        exact Rn.sub h (subL_cons rfl (subL_cons rfl (subL_cons rfl (subL_cons rfl (subL_cons rfl (subL_cons rfl (subL_cons rfl (subL_cons rfl subL_nil)))))))) (show ndL _ from (by decide : List.Nodup ([0, 1, 2, 3, 4, 5, 6, 7] : List Nat)))
      · replace h := h.1 c
        refine Rn.seg (pc' := 94) (ls' := [(0, .ref 97), (1, .int x1), (2, .int x2), (3, .int x3), (4, .int x4), (5, .int x5), (6, .int x6), (7, .int x7)]) (st' := [.int x7, .ref 126, .ref 97]) (σ' := σ9) hM 4 rfl ?_
        refine Rn.iald hM rfl rfl h.1 ?_
        refine Rn.seg (pc' := 95) (ls' := [(0, .ref 97), (1, .int x1), (2, .int x2), (3, .int x3), (4, .int x4), (5, .int x5), (6, .int x6), (7, .int x7)]) (st' := [.int (σ9.1 126 x7.toNatClampNeg), .ref 97]) (σ' := σ9) hM 0 rfl ?_
        obtain ⟨Qc, hq, h⟩ := h.2
        refine Rn.cI hM rfl rfl (by decide) hq (fun w12 σ11 hw => ?_)
        replace h := h w12 σ11 hw
        refine Rn.seg (pc' := 48) (ls' := [(7, .int (x7 + (1 : Int32))), (6, .int w12), (0, .ref 97), (1, .int x1), (2, .int x2), (3, .int x3), (4, .int x4), (5, .int x5)]) (st' := []) (σ' := σ11) hM 3 rfl ?_
        exact Rn.sub h (subL_cons rfl (subL_cons rfl (subL_cons rfl (subL_cons rfl (subL_cons rfl (subL_cons rfl (subL_cons rfl (subL_cons rfl subL_nil)))))))) (show ndL _ from (by decide : List.Nodup ([0, 1, 2, 3, 4, 5, 6, 7] : List Nat)))
set_option maxRecDepth 100000 in
theorem w_301_0 {d : Nat} {Q : Option Value → Sg → Prop} (σ : Sg) (x1 : Int32) (h : (∃ Qc : Int32 → Sg → Prop, OkI PRG d 230 [.ref 97] σ Qc ∧ ∀ w2 σ1, Qc w2 σ1 → ((w2 < 0 → Q (some (.int (-1 : Int32))) σ1) ∧ (¬ w2 < 0 → (∃ Qc : Int32 → Sg → Prop, OkI PRG d 217 [.ref 97, .int x1] σ1 Qc ∧ ∀ w4 σ3, Qc w4 σ3 → ((w4 = 0 → Q (some (.int (-1 : Int32))) σ3) ∧ (¬ w4 = 0 → (∃ Qc : Int32 → Sg → Prop, OkI PRG d 233 [.ref 97] σ3 Qc ∧ ∀ w6 σ5, Qc w6 σ5 → ((((w6 >>> (x1 &&& 31)) &&& (1 : Int32)) = 0 → Q (some (.int (-1 : Int32))) σ5) ∧ (¬ ((w6 >>> (x1 &&& 31)) &&& (1 : Int32)) = 0 → (inR (σ5.1 97 18) 2 = true ∧ (∃ Qc : Int32 → Sg → Prop, OkI PRG d 300 [.ref 97, .int x1, .int (((1 : Int32) <<< ((σ5.1 109 (σ5.1 97 18).toNatClampNeg) &&& 31)) - (1 : Int32))] σ5 Qc ∧ ∀ w8 σ7, Qc w8 σ7 → Q (some (.int w8)) σ7)))))))))))) : Rn PRG (d + 1) 301 0 [(0, .ref 97), (1, .int x1)] [] σ Q := by
  have hM : PRG[301]? = some M_301 := rfl
  refine Rn.seg (pc' := 1) (ls' := [(0, .ref 97), (1, .int x1)]) (st' := [.ref 97]) (σ' := σ) hM 1 rfl ?_
  obtain ⟨Qc, hq, h⟩ := h
  refine Rn.cI hM rfl rfl (by decide) hq (fun w2 σ1 hw => ?_)
  replace h := h w2 σ1 hw
  refine Rn.br (c := w2 < 0) (a := 26) (b := 7) (ls' := [(0, .ref 97), (1, .int x1)]) (st' := []) (σ' := σ1) hM 1 rfl (fun c => ?_) (fun c => ?_)
  · replace h := h.1 c
    refine Rn.seg (pc' := 27) (ls' := [(0, .ref 97), (1, .int x1)]) (st' := [.int (-1 : Int32)]) (σ' := σ1) hM 1 rfl ?_
    exact Rn.ret hM rfl rfl h
  · replace h := h.2 c
    refine Rn.seg (pc' := 9) (ls' := [(0, .ref 97), (1, .int x1)]) (st' := [.int x1, .ref 97]) (σ' := σ1) hM 2 rfl ?_
    obtain ⟨Qc, hq, h⟩ := h
    refine Rn.cI hM rfl rfl (by decide) hq (fun w4 σ3 hw => ?_)
    replace h := h w4 σ3 hw
    refine Rn.br (c := w4 = 0) (a := 26) (b := 15) (ls' := [(0, .ref 97), (1, .int x1)]) (st' := []) (σ' := σ3) hM 1 rfl (fun c => ?_) (fun c => ?_)
    · replace h := h.1 c
      refine Rn.seg (pc' := 27) (ls' := [(0, .ref 97), (1, .int x1)]) (st' := [.int (-1 : Int32)]) (σ' := σ3) hM 1 rfl ?_
      exact Rn.ret hM rfl rfl h
    · replace h := h.2 c
      refine Rn.seg (pc' := 16) (ls' := [(0, .ref 97), (1, .int x1)]) (st' := [.ref 97]) (σ' := σ3) hM 1 rfl ?_
      obtain ⟨Qc, hq, h⟩ := h
      refine Rn.cI hM rfl rfl (by decide) hq (fun w6 σ5 hw => ?_)
      replace h := h w6 σ5 hw
      refine Rn.brN (c := ((w6 >>> (x1 &&& 31)) &&& (1 : Int32)) = 0) (a := 28) (b := 26) (ls' := [(0, .ref 97), (1, .int x1)]) (st' := []) (σ' := σ5) hM 5 rfl (fun c => ?_) (fun c => ?_)
      · replace h := h.2 c
        refine Rn.seg (pc' := 39) (ls' := [(0, .ref 97), (1, .int x1)]) (st' := [.int (σ5.1 97 18), .ref 109, .int (1 : Int32), .int x1, .ref 97]) (σ' := σ5) hM 7 rfl ?_
        refine Rn.iald hM rfl rfl h.1 ?_
        refine Rn.seg (pc' := 43) (ls' := [(0, .ref 97), (1, .int x1)]) (st' := [.int (((1 : Int32) <<< ((σ5.1 109 (σ5.1 97 18).toNatClampNeg) &&& 31)) - (1 : Int32)), .int x1, .ref 97]) (σ' := σ5) hM 3 rfl ?_
        obtain ⟨Qc, hq, h⟩ := h.2
        refine Rn.cI hM rfl rfl (by decide) hq (fun w8 σ7 hw => ?_)
        replace h := h w8 σ7 hw
        refine Rn.seg (pc' := 46) (ls' := [(0, .ref 97), (1, .int x1)]) (st' := [.int w8]) (σ' := σ7) hM 0 rfl ?_
        exact Rn.ret hM rfl rfl h
      · replace h := h.1 c
        refine Rn.seg (pc' := 27) (ls' := [(0, .ref 97), (1, .int x1)]) (st' := [.int (-1 : Int32)]) (σ' := σ5) hM 1 rfl ?_
        exact Rn.ret hM rfl rfl h
set_option maxRecDepth 100000 in
theorem w_302_0 {d : Nat} {Q : Option Value → Sg → Prop} (σ : Sg) (x1 : Int32) (h : (∃ Qc : Int32 → Sg → Prop, OkI PRG d 291 [.ref 97, .int x1] σ Qc ∧ ∀ w2 σ1, Qc w2 σ1 → ((w2 = 0 → Q (some (.long (Int64.ofNat 18446744073708551616))) σ1) ∧ (¬ w2 = 0 → (∃ Qc : Int32 → Sg → Prop, OkI PRG d 290 [.ref 97] σ1 Qc ∧ ∀ w4 σ3, Qc w4 σ3 → ((w4 = 0 → Q (some (.long (Int64.ofNat 18446744073708551616))) σ3) ∧ (¬ w4 = 0 → (∃ Qc : Sg → Prop, OkV PRG d 289 [.ref 97, .int x1] σ3 Qc ∧ ∀ σ5, Qc σ5 → Rn PRG (d + 1) 302 28 [(0, .ref 97), (1, .int x1), (2, .int (0 : Int32)), (3, .int (0 : Int32))] [] σ5 Q)))))))) : Rn PRG (d + 1) 302 0 [(0, .ref 97), (1, .int x1)] [] σ Q := by
  have hM : PRG[302]? = some M_302 := rfl
  refine Rn.seg (pc' := 2) (ls' := [(0, .ref 97), (1, .int x1)]) (st' := [.int x1, .ref 97]) (σ' := σ) hM 2 rfl ?_
  obtain ⟨Qc, hq, h⟩ := h
  refine Rn.cI hM rfl rfl (by decide) hq (fun w2 σ1 hw => ?_)
  replace h := h w2 σ1 hw
  refine Rn.br (c := w2 = 0) (a := 15) (b := 8) (ls' := [(0, .ref 97), (1, .int x1)]) (st' := []) (σ' := σ1) hM 1 rfl (fun c => ?_) (fun c => ?_)
  · replace h := h.1 c
    refine Rn.seg (pc' := 18) (ls' := [(0, .ref 97), (1, .int x1)]) (st' := [.long (Int64.ofNat 18446744073708551616)]) (σ' := σ1) hM 1 rfl ?_
    exact Rn.ret hM rfl rfl h
  · replace h := h.2 c
    refine Rn.seg (pc' := 9) (ls' := [(0, .ref 97), (1, .int x1)]) (st' := [.ref 97]) (σ' := σ1) hM 1 rfl ?_
    obtain ⟨Qc, hq, h⟩ := h
    refine Rn.cI hM rfl rfl (by decide) hq (fun w4 σ3 hw => ?_)
    replace h := h w4 σ3 hw
    refine Rn.brN (c := w4 = 0) (a := 19) (b := 15) (ls' := [(0, .ref 97), (1, .int x1)]) (st' := []) (σ' := σ3) hM 1 rfl (fun c => ?_) (fun c => ?_)
    · replace h := h.2 c
      refine Rn.seg (pc' := 21) (ls' := [(0, .ref 97), (1, .int x1)]) (st' := [.int x1, .ref 97]) (σ' := σ3) hM 2 rfl ?_
      obtain ⟨Qc, hq, h⟩ := h
      refine Rn.cV hM rfl rfl (by decide) hq (fun σ5 hw => ?_)
      replace h := h σ5 hw
      refine Rn.seg (pc' := 28) (ls' := [(3, .int (0 : Int32)), (2, .int (0 : Int32)), (0, .ref 97), (1, .int x1)]) (st' := []) (σ' := σ5) hM 4 rfl ?_
      exact Rn.sub h (subL_cons rfl (subL_cons rfl (subL_cons rfl (subL_cons rfl subL_nil)))) (show ndL _ from (by decide : List.Nodup ([0, 1, 2, 3] : List Nat)))
    · replace h := h.1 c
      refine Rn.seg (pc' := 18) (ls' := [(0, .ref 97), (1, .int x1)]) (st' := [.long (Int64.ofNat 18446744073708551616)]) (σ' := σ3) hM 1 rfl ?_
      exact Rn.ret hM rfl rfl h
set_option maxRecDepth 100000 in
theorem w_302_28 {d : Nat} {Q : Option Value → Sg → Prop} (σ : Sg) (x1 x2 x3 : Int32) (h : (∃ Qc : Int32 → Sg → Prop, OkI PRG d 210 [.ref 97] σ Qc ∧ ∀ w2 σ1, Qc w2 σ1 → ((w2 ≤ x3 → ((x2 = 0 → Q (some (.long (Int64.ofNat 18446744073708551616))) σ1) ∧ (¬ x2 = 0 → ((((σ1.1 97 78) &&& (x2 ^^^ (-1 : Int32))) = 0 → Q (some (.long (Int64.ofNat 18446744073708551616))) σ1) ∧ (¬ ((σ1.1 97 78) &&& (x2 ^^^ (-1 : Int32))) = 0 → (∃ Qc : Int32 → Sg → Prop, OkI PRG d 293 [.ref 97, .int x2] σ1 Qc ∧ ∀ w4 σ3, Qc w4 σ3 → (inR w4 16 = true ∧ (∃ Qc : Int32 → Sg → Prop, OkI PRG d 293 [.ref 97, .int ((σ1.1 97 78) &&& (x2 ^^^ (-1 : Int32)))] σ3 Qc ∧ ∀ w6 σ5, Qc w6 σ5 → (inR w6 16 = true ∧ Q (some (.long ((σ3.2 144 w4.toNatClampNeg) - (σ5.2 144 w6.toNatClampNeg)))) σ5))))))))) ∧ (¬ w2 ≤ x3 → (((((σ1.1 97 78) >>> (x3 &&& 31)) &&& (1 : Int32)) = (1 : Int32) → (∃ Qc : Int32 → Sg → Prop, OkI PRG d 300 [.ref 97, .int x3, .int x1] σ1 Qc ∧ ∀ w8 σ7, Qc w8 σ7 → ((w8 = 0 → Rn PRG (d + 1) 302 28 [(0, .ref 97), (1, .int x1), (2, .int x2), (3, .int (x3 + (1 : Int32)))] [] σ7 Q) ∧ (¬ w8 = 0 → Rn PRG (d + 1) 302 28 [(0, .ref 97), (1, .int x1), (2, .int (x2 ||| ((1 : Int32) <<< (x3 &&& 31)))), (3, .int (x3 + (1 : Int32)))] [] σ7 Q)))) ∧ (¬ (((σ1.1 97 78) >>> (x3 &&& 31)) &&& (1 : Int32)) = (1 : Int32) → Rn PRG (d + 1) 302 28 [(0, .ref 97), (1, .int x1), (2, .int x2), (3, .int (x3 + (1 : Int32)))] [] σ1 Q)))))) : Rn PRG (d + 1) 302 28 [(0, .ref 97), (1, .int x1), (2, .int x2), (3, .int x3)] [] σ Q := by
  have hM : PRG[302]? = some M_302 := rfl
  refine Rn.seg (pc' := 30) (ls' := [(0, .ref 97), (1, .int x1), (2, .int x2), (3, .int x3)]) (st' := [.ref 97, .int x3]) (σ' := σ) hM 2 rfl ?_
  obtain ⟨Qc, hq, h⟩ := h
  refine Rn.cI hM rfl rfl (by decide) hq (fun w2 σ1 hw => ?_)
  replace h := h w2 σ1 hw
  refine Rn.br (c := w2 ≤ x3) (a := 69) (b := 36) (ls' := [(0, .ref 97), (1, .int x1), (2, .int x2), (3, .int x3)]) (st' := []) (σ' := σ1) hM 1 rfl (fun c => ?_) (fun c => ?_)
  · replace h := h.1 c
    refine Rn.br (c := x2 = 0) (a := 86) (b := 82) (ls' := [(3, .int ((σ1.1 97 78) &&& (x2 ^^^ (-1 : Int32)))), (0, .ref 97), (1, .int x1), (2, .int x2)]) (st' := []) (σ' := σ1) hM 9 rfl (fun c => ?_) (fun c => ?_)
    · replace h := h.1 c
      refine Rn.seg (pc' := 113) (ls' := [(3, .int ((σ1.1 97 78) &&& (x2 ^^^ (-1 : Int32)))), (0, .ref 97), (1, .int x1), (2, .int x2)]) (st' := [.long (Int64.ofNat 18446744073708551616)]) (σ' := σ1) hM 2 rfl ?_
      exact Rn.ret hM rfl rfl h
    · replace h := h.2 c
      refine Rn.brN (c := ((σ1.1 97 78) &&& (x2 ^^^ (-1 : Int32))) = 0) (a := 92) (b := 86) (ls' := [(3, .int ((σ1.1 97 78) &&& (x2 ^^^ (-1 : Int32)))), (0, .ref 97), (1, .int x1), (2, .int x2)]) (st' := []) (σ' := σ1) hM 2 rfl (fun c => ?_) (fun c => ?_)
      · replace h := h.2 c
        refine Rn.seg (pc' := 98) (ls' := [(3, .int ((σ1.1 97 78) &&& (x2 ^^^ (-1 : Int32)))), (0, .ref 97), (1, .int x1), (2, .int x2)]) (st' := [.int x2, .ref 97, .ref 144]) (σ' := σ1) hM 4 rfl ?_
        obtain ⟨Qc, hq, h⟩ := h
        refine Rn.cI hM rfl rfl (by decide) hq (fun w4 σ3 hw => ?_)
        replace h := h w4 σ3 hw
        refine Rn.seg (pc' := 101) (ls' := [(3, .int ((σ1.1 97 78) &&& (x2 ^^^ (-1 : Int32)))), (0, .ref 97), (1, .int x1), (2, .int x2)]) (st' := [.int w4, .ref 144]) (σ' := σ3) hM 0 rfl ?_
        refine Rn.lald hM rfl rfl h.1 ?_
        refine Rn.seg (pc' := 108) (ls' := [(3, .int ((σ1.1 97 78) &&& (x2 ^^^ (-1 : Int32)))), (0, .ref 97), (1, .int x1), (2, .int x2)]) (st' := [.int ((σ1.1 97 78) &&& (x2 ^^^ (-1 : Int32))), .ref 97, .ref 144, .long (σ3.2 144 w4.toNatClampNeg)]) (σ' := σ3) hM 4 rfl ?_
        obtain ⟨Qc, hq, h⟩ := h.2
        refine Rn.cI hM rfl rfl (by decide) hq (fun w6 σ5 hw => ?_)
        replace h := h w6 σ5 hw
        refine Rn.seg (pc' := 111) (ls' := [(3, .int ((σ1.1 97 78) &&& (x2 ^^^ (-1 : Int32)))), (0, .ref 97), (1, .int x1), (2, .int x2)]) (st' := [.int w6, .ref 144, .long (σ3.2 144 w4.toNatClampNeg)]) (σ' := σ5) hM 0 rfl ?_
        refine Rn.lald hM rfl rfl h.1 ?_
        refine Rn.seg (pc' := 113) (ls' := [(3, .int ((σ1.1 97 78) &&& (x2 ^^^ (-1 : Int32)))), (0, .ref 97), (1, .int x1), (2, .int x2)]) (st' := [.long ((σ3.2 144 w4.toNatClampNeg) - (σ5.2 144 w6.toNatClampNeg))]) (σ' := σ5) hM 1 rfl ?_
        exact Rn.ret hM rfl rfl h.2
      · replace h := h.1 c
        refine Rn.seg (pc' := 113) (ls' := [(3, .int ((σ1.1 97 78) &&& (x2 ^^^ (-1 : Int32)))), (0, .ref 97), (1, .int x1), (2, .int x2)]) (st' := [.long (Int64.ofNat 18446744073708551616)]) (σ' := σ1) hM 2 rfl ?_
        exact Rn.ret hM rfl rfl h
  · replace h := h.2 c
    refine Rn.brN (c := (((σ1.1 97 78) >>> (x3 &&& 31)) &&& (1 : Int32)) = (1 : Int32)) (a := 63) (b := 48) (ls' := [(0, .ref 97), (1, .int x1), (2, .int x2), (3, .int x3)]) (st' := []) (σ' := σ1) hM 8 rfl (fun c => ?_) (fun c => ?_)
    · replace h := h.2 c
      refine Rn.seg (pc' := 28) (ls' := [(3, .int (x3 + (1 : Int32))), (0, .ref 97), (1, .int x1), (2, .int x2)]) (st' := []) (σ' := σ1) hM 2 rfl ?_
      exact Rn.sub h (subL_cons rfl (subL_cons rfl (subL_cons rfl (subL_cons rfl subL_nil)))) (show ndL _ from (by decide : List.Nodup ([0, 1, 2, 3] : List Nat)))
    · replace h := h.1 c
      refine Rn.seg (pc' := 51) (ls' := [(0, .ref 97), (1, .int x1), (2, .int x2), (3, .int x3)]) (st' := [.int x1, .int x3, .ref 97]) (σ' := σ1) hM 3 rfl ?_
      obtain ⟨Qc, hq, h⟩ := h
      refine Rn.cI hM rfl rfl (by decide) hq (fun w8 σ7 hw => ?_)
      replace h := h w8 σ7 hw
      refine Rn.br (c := w8 = 0) (a := 63) (b := 57) (ls' := [(0, .ref 97), (1, .int x1), (2, .int x2), (3, .int x3)]) (st' := []) (σ' := σ7) hM 1 rfl (fun c => ?_) (fun c => ?_)
      · replace h := h.1 c
        refine Rn.seg (pc' := 28) (ls' := [(3, .int (x3 + (1 : Int32))), (0, .ref 97), (1, .int x1), (2, .int x2)]) (st' := []) (σ' := σ7) hM 2 rfl ?_
        exact Rn.sub h (subL_cons rfl (subL_cons rfl (subL_cons rfl (subL_cons rfl subL_nil)))) (show ndL _ from (by decide : List.Nodup ([0, 1, 2, 3] : List Nat)))
      · replace h := h.2 c
        refine Rn.seg (pc' := 28) (ls' := [(3, .int (x3 + (1 : Int32))), (2, .int (x2 ||| ((1 : Int32) <<< (x3 &&& 31)))), (0, .ref 97), (1, .int x1)]) (st' := []) (σ' := σ7) hM 8 rfl ?_
        exact Rn.sub h (subL_cons rfl (subL_cons rfl (subL_cons rfl (subL_cons rfl subL_nil)))) (show ndL _ from (by decide : List.Nodup ([0, 1, 2, 3] : List Nat)))
/-! lies -/
theorem rankOf_OK {d : Nat} {x1 : Int32} {σ : Sg} (ht : typed TYP σ) (hI : I2 σ) (hx : -1 ≤ x1.toInt ∧ x1.toInt ≤ 15) : OkI PRG d 213 [.ref 97, .int x1] σ (fun _ σ' => σ' = σ) := by
  have h2 := (SpecOK.atI (av := [.ref 97, .int x1]) c_213 ht hI.1 (avsC avM (avsC (avI hx.1 hx.2) avsN)) rfl rfl rfl)
  have h3 := Ok.pure (S := [213]) (by decide +kernel) (by decide) h2
  refine Ok.deep (Ok.mono h3 (fun v σ' hq => ?_)) (show 0 ≤ d by omega)
  obtain ⟨e, w, hw, -⟩ := hq
  exact ⟨w, hw, e⟩
theorem lw_48 {N n p : Nat} {x1 x2 x3 x4 x5 : Int32} {σ : Sg} (h : GI N σ) (hn : (σ.1 97 48).toInt = (n : Int)) (hn16 : n ≤ 16) (hx : -1 ≤ x1.toInt ∧ x1.toInt ≤ 15) (h3 : x3.toInt = (p : Int)) (hp : p ≤ 3) : ∀ (m k : Nat) (x6 x7 : Int32), k + m = n → x7.toInt = (k : Int) → Rn PRG (4 + 1) 300 48 [(0, .ref 97), (1, .int x1), (2, .int x2), (3, .int x3), (4, .int x4), (5, .int x5), (6, .int x6), (7, .int x7)] [] σ (fun v σ' => ∃ w : Int32, v = some (.int w) ∧ Gl mdFit σ σ' ∧ I2 σ') := by
  have fin : ∀ x6 : Int32, ∃ Qc : Int32 → Sg → Prop, OkI PRG 4 253 [.ref 97, .int x2, .int x3, .int x5, .int x1, .int x4, .int ((σ.1 97 48) / (4 : Int32)), .int x6] σ Qc ∧ ∀ w2 σ1, Qc w2 σ1 → (∃ Qc : Int32 → Sg → Prop, OkI PRG 4 226 [.ref 97, .int x3] σ1 Qc ∧ ∀ w4 σ3, Qc w4 σ3 → (∃ Qc : Int32 → Sg → Prop, OkI PRG 4 254 [.ref 97, .int w2, .int x1, .int w4] σ3 Qc ∧ ∀ w6 σ5, Qc w6 σ5 → ∃ w : Int32, some (.int w6) = some (Value.int w) ∧ Gl mdFit σ σ5 ∧ I2 σ5)) := by
    intro x6
    refine ⟨_, appliesTo_OK (d := 0) h.1 h.2.1 hx, fun w2 σ1 hq => ?_⟩
    obtain ⟨g1, i1⟩ := hq
    refine ⟨_, handNow_OK (d := 3) g1.1 h3 hp (n := n) (by rw [g1.get (q := 97) (κ := 12) rfl rfl]; exact hn), fun w4 σ3 hq => ?_⟩
    rw [hq.1]
    exact ⟨_, lieOf_OK (d := 0) g1.1 i1 hx, fun w6 σ5 hq => ⟨_, rfl, g1.trans hq.1 rfl, hq.2⟩⟩
  intro m
  induction m with
  | zero =>
    intro k x6 x7 hk h7
    exact w_300_48 σ x1 x2 x3 x4 x5 x6 x7 ⟨fun _ => fin x6, fun c => absurd (by rw [le_i hn h7]; omega) c⟩
  | succ m ih =>
    intro k x6 x7 hk h7
    have hx7 : (x7 + (1 : Int32)).toInt = ((k + 1 : Nat) : Int) := by
      rw [add_lit (k := 1) h7 (by decide) (by unfold FL; omega) (by unfold FH; omega)]; push_cast; rfl
    have hin : inR x7 16 = true := inR_ok (by clear hx7; omega) (by clear hx7; omega)
    refine w_300_48 σ x1 x2 x3 x4 x5 x6 x7 ⟨fun _ => fin x6, fun _ => ⟨hin, ?_⟩⟩
    rw [cn_of h7]
    refine ⟨fun _ => ⟨hin, _, suitOf_OK h.1 h.2.2.1.pk, fun w8 σ7 hq => ?_⟩, fun _ => ih (k + 1) _ _ (by omega) hx7⟩
    rw [hq.1]
    refine ⟨_, suitOf_OK h.1 h.2.2.1.pk, fun w10 σ9 hq => ?_⟩
    rw [hq.1]
    have hr := tyA h.1 (q := 126) (κ := 82) (k := k) (a := 0) (b := 15) (lo := -1) (hi := 15) rfl rfl (by omega) (by clear hx7; omega)
    refine ⟨fun _ => ⟨hin, _, rankOf_OK h.1 h.2.1 hr, fun w12 σ11 hq => ?_⟩, fun _ => ih (k + 1) _ _ (by omega) hx7⟩
    rw [hq]
    exact ih (k + 1) _ _ (by omega) hx7
theorem liesWith_OK {N n : Nat} {x1 x2 : Int32} {σ : Sg} (h : RD N n σ) (hx : -1 ≤ x1.toInt ∧ x1.toInt ≤ 15) : OkI PRG 9 300 [.ref 97, .int x1, .int x2] σ (fun _ σ' => Gl mdFit σ σ' ∧ RD N n σ') := by
  obtain ⟨w0, hF, h0⟩ := h.tf
  obtain ⟨p3, px⟩ := hF.p3 h0
  have hg := h.1
  have fin : ∀ x6 x4 x5 : Int32, Rn PRG (4 + 1) 300 48 [(0, .ref 97), (1, .int x1), (2, .int x2), (3, .int w0), (4, .int x4), (5, .int x5), (6, .int x6), (7, .int (0 : Int32))] [] σ (fun v σ' => ∃ w : Int32, v = some (.int w) ∧ Gl mdFit σ σ' ∧ RD N n σ') := by
    intro x6 x4 x5
    refine Rn.mono (lw_48 hg hF.2.1 hF.2.2.1 hx px p3 n 0 x6 0 (by omega) rfl) (fun v σ' hq => ?_)
    obtain ⟨w, e, g, i⟩ := hq
    exact ⟨w, e, g, h.keep (g.mono rfl) (hg.keep g rfl i (hg.2.2.2.1.keep g rfl))⟩
  refine OkI.deep (d := 5) ⟨M_300, rfl, Nat.le_of_ble_eq_true rfl, w_300_0 σ x1 x2 ⟨_, hF.2.2.2.2 1, fun w2 σ1 hq => ?_⟩⟩ (by omega)
  obtain ⟨e1, e2⟩ := hq
  rw [e1, e2]
  refine ⟨_, ledAt_OK (d := 3) hg.1 hg.2.2.1.pk hF.2.1 hF.2.2.1, fun w4 σ3 hq => ?_⟩
  rw [hq]
  refine ⟨fun _ => fin _ _ _, fun _ => ⟨_, suitOf_OK hg.1 hg.2.2.1.pk, fun w6 σ5 hq => ?_⟩⟩
  rw [hq.1]
  exact ⟨fun _ => fin _ _ _, fun _ => fin _ _ _⟩
theorem lies_OK {N : Nat} {x1 : Int32} {σ : Sg} (h : GI N σ) : OkI PRG 11 301 [.ref 97, .int x1] σ (fun _ σ' => GI N σ') := by
  obtain ⟨n, w0, hF⟩ := TW.of h
  have hN := h.2.2.1.le
  refine ⟨M_301, rfl, Nat.le_of_ble_eq_true rfl, w_301_0 σ x1 ⟨_, hF.2.2.2.2 7, fun w2 σ1 hq => ?_⟩⟩
  obtain ⟨e1, e2⟩ := hq
  rw [e1, e2]
  refine ⟨fun _ => ⟨_, rfl, h⟩, fun c => ⟨_, isCardN_OK (d := 9) h.1 h.2.2.1, fun w4 σ3 hq => ?_⟩⟩
  rw [z_lt] at c
  obtain ⟨e3, c3⟩ := hq
  rw [e3]
  refine ⟨fun _ => ⟨_, rfl, h⟩, fun hne3 => ⟨_, mayNow_OK (d := 6) h.1 h.2.2.1 hF.2.2.2.1 hF.2.2.2.2, fun w6 σ5 hq => ?_⟩⟩
  rw [hq.1]
  have c3 := c3 hne3
  exact ⟨fun _ => ⟨_, rfl, h⟩, fun _ => ⟨live_in h.1, _, OkI.deep (liesWith_OK (hF.rd (by omega)) (by omega)) (by omega), fun w8 σ7 hq => ⟨_, rfl, hq.2.1⟩⟩⟩
theorem nz_bt {x : Int32} (hne : ¬ x = 0) : ∃ i, i < 32 ∧ bt x i = true := by
  apply Classical.byContradiction
  intro hno
  apply hne
  apply bt_ext
  intro i hi
  rw [bt_0]
  cases hx : bt x i with
  | false => rfl
  | true => exact absurd ⟨i, hi, hx⟩ hno
theorem nz_card {N : Nat} {x X : Int32} (hne : ¬ x = 0) (h1 : ∀ i, bt x i = true → bt X i = true) (h2 : ∀ i, bt X i = true → i < N) : ∃ c, c < N ∧ bt x c = true := by
  obtain ⟨i, -, hi⟩ := nz_bt hne
  exact ⟨i, h2 i (h1 i hi), hi⟩
theorem bt_add {x X y : Int32} {k : Nat} (hy : y.toInt = (k : Int)) (hk : k < 32) (h1 : ∀ i, bt x i = true → bt X i = true) (h2 : bt X k = true) : ∀ i, bt (x ||| ((1 : Int32) <<< (y &&& 31))) i = true → bt X i = true := by
  intro i hi
  rw [bt_or, Bool.or_eq_true] at hi
  rcases hi with hi | hi
  · exact h1 i hi
  · by_cases h32 : i < 32
    · rw [bt_one hy hk h32] at hi
      rw [Nat.eq_of_beq_eq_true hi]; exact h2
    · rw [bt_big _ (by omega)] at hi; cases hi
theorem card_in {w : Int32} {N : Nat} {x : Int32} (h : ∃ c : Nat, c < N ∧ w.toInt = (c : Int) ∧ bt x c = true) (hN : N ≤ 16) : inR w 16 = true := by
  obtain ⟨c, c1, c2, -⟩ := h
  exact inR_ok (by omega) (by omega)
theorem worthC_go {N n : Nat} {x1 X : Int32} (hX : ∀ i, bt X i = true → i < N) : ∀ (m k : Nat) (x2 x3 : Int32) (σ : Sg), k + m = N → x3.toInt = (k : Int) → RD N n σ → σ.1 97 78 = X → (∀ i, bt x2 i = true → bt X i = true) → Rn PRG (10 + 1) 302 28 [(0, .ref 97), (1, .int x1), (2, .int x2), (3, .int x3)] [] σ (fun v σ' => ∃ w : Int64, v = some (.long w) ∧ GI N σ') := by
  intro m
  induction m with
  | zero =>
    intro k x2 x3 σ hk h3 hR hX78 hx
    have hg := hR.1
    have hN := hg.2.2.1.le
    refine w_302_28 σ x1 x2 x3 ⟨_, cards_OK hg.1 hg.2.2.1, fun w2 σ1 hq => ?_⟩
    obtain ⟨e1, hw⟩ := hq
    rw [e1]
    refine ⟨fun _ => ⟨fun _ => ⟨_, rfl, hg⟩, fun hne => ⟨fun _ => ⟨_, rfl, hg⟩, fun hne2 => ⟨_, bestOf_OK (d := 9) hg.1 hg.2.2.1, fun w4 σ3 hq => ?_⟩⟩⟩, fun c => absurd (by rw [le_i hw h3]; omega) c⟩
    obtain ⟨e3, hb3⟩ := hq
    rw [e3]
    refine ⟨card_in (bs_card hb3 (nz_card hne hx hX)) hN.2, _, bestOf_OK (d := 9) hg.1 hg.2.2.1, fun w6 σ5 hq => ?_⟩
    obtain ⟨e5, hb5⟩ := hq
    rw [e5]
    refine ⟨card_in (bs_card hb5 (nz_card hne2 (X := X) (fun i hi => ?_) hX)) hN.2, _, rfl, hg⟩
    rw [bt_and, Bool.and_eq_true, hX78] at hi
    exact hi.1
  | succ m ih =>
    intro k x2 x3 σ hk h3 hR hX78 hx
    have hg := hR.1
    have hN := hg.2.2.1.le
    refine w_302_28 σ x1 x2 x3 ⟨_, cards_OK hg.1 hg.2.2.1, fun w2 σ1 hq => ?_⟩
    obtain ⟨e1, hw⟩ := hq
    rw [e1]
    refine ⟨fun c => ?_, fun _ => ?_⟩
    · rw [le_i hw h3] at c; omega
    have hx3 : (x3 + (1 : Int32)).toInt = ((k + 1 : Nat) : Int) := by
      rw [add_lit (k := 1) h3 (by decide) (by unfold FL; omega) (by unfold FH; omega)]; push_cast; rfl
    rw [hX78, bit_1 h3 (by clear hx3; omega)]
    refine ⟨fun hb => ⟨_, OkI.deep (liesWith_OK hR (by clear hx3; omega)) (by omega), fun w8 σ7 hq => ?_⟩, fun _ => ih (k + 1) _ _ σ (by omega) hx3 hR hX78 hx⟩
    have e78 : σ7.1 97 78 = X := by rw [hq.1.get (q := 97) (κ := 12) rfl rfl]; exact hX78
    exact ⟨fun _ => ih (k + 1) _ _ σ7 (by omega) hx3 hq.2 e78 hx, fun _ => ih (k + 1) _ _ σ7 (by omega) hx3 hq.2 e78 (bt_add h3 (by clear hx3; omega) hx hb)⟩
theorem worthC_OK {N : Nat} {x1 : Int32} {σ : Sg} (h : GI N σ) : OkJ PRG 11 302 [.ref 97, .int x1] σ (fun _ σ' => GI N σ') := by
  obtain ⟨n, w0, hF⟩ := TW.of h
  refine ⟨M_302, rfl, Nat.le_of_ble_eq_true rfl, w_302_0 σ x1 ⟨_, canMean_OK (d := 6) hF, fun w2 σ1 hq => ?_⟩⟩
  obtain ⟨e1, c0⟩ := hq
  rw [e1]
  refine ⟨fun _ => ⟨_, rfl, h⟩, fun hne => ⟨_, isLate_OK (d := 6) hF (c0 hne), fun w4 σ3 hq => ?_⟩⟩
  rw [hq]
  refine ⟨fun _ => ⟨_, rfl, h⟩, fun _ => ⟨_, fillMeans_OK h hF.2.1 hF.2.2.2.1 hF.2.2.2.2 (c0 hne), fun σ5 hq => ?_⟩⟩
  obtain ⟨g5, hg5, hm5⟩ := hq
  exact worthC_go (hF.lt (c0 hne) hm5) N 0 0 0 σ5 (by omega) rfl ((hF.rd (c0 hne)).keep g5 hg5) rfl (fun i hi => by rw [bt_0] at hi; cases hi)
