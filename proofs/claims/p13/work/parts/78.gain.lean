/-! gains: what must hold -/
set_option maxRecDepth 100000 in
theorem w_304_0 {d : Nat} {Q : Option Value → Sg → Prop} (σ : Sg) (x1 x2 x3 : Int32) (h : Rn PRG (d + 1) 304 6 [(0, .ref 97), (1, .int x1), (2, .int x2), (3, .int x3), (4, .int (0 : Int32)), (5, .int (0 : Int32))] [] σ Q) : Rn PRG (d + 1) 304 0 [(0, .ref 97), (1, .int x1), (2, .int x2), (3, .int x3)] [] σ Q := by
  have hM : PRG[304]? = some M_304 := rfl
  refine Rn.seg (pc' := 6) (ls' := [(5, .int (0 : Int32)), (4, .int (0 : Int32)), (0, .ref 97), (1, .int x1), (2, .int x2), (3, .int x3)]) (st' := []) (σ' := σ) hM 4 rfl ?_
  exact Rn.sub h (subL_cons rfl (subL_cons rfl (subL_cons rfl (subL_cons rfl (subL_cons rfl (subL_cons rfl subL_nil)))))) (show ndL _ from (by decide : List.Nodup ([0, 1, 2, 3, 4, 5] : List Nat)))
set_option maxRecDepth 100000 in
theorem w_304_6 {d : Nat} {Q : Option Value → Sg → Prop} (σ : Sg) (x1 x2 x3 x4 x5 : Int32) (h : ((x3 ≤ x5 → Q (some (.int x4)) σ) ∧ (¬ x3 ≤ x5 → (∃ Qc : Int32 → Sg → Prop, OkI PRG d 222 [.ref 97, .int (x2 + x5)] σ Qc ∧ ∀ w2 σ1, Qc w2 σ1 → Rn PRG (d + 1) 304 21 [(0, .ref 97), (1, .int x1), (2, .int x2), (3, .int x3), (4, .int x4), (5, .int x5)] [] σ1 Q)))) : Rn PRG (d + 1) 304 6 [(0, .ref 97), (1, .int x1), (2, .int x2), (3, .int x3), (4, .int x4), (5, .int x5)] [] σ Q := by
  have hM : PRG[304]? = some M_304 := rfl
  refine Rn.br (c := x3 ≤ x5) (a := 148) (b := 12) (ls' := [(0, .ref 97), (1, .int x1), (2, .int x2), (3, .int x3), (4, .int x4), (5, .int x5)]) (st' := []) (σ' := σ) hM 3 rfl (fun c => ?_) (fun c => ?_)
  · replace h := h.1 c
    refine Rn.seg (pc' := 150) (ls' := [(0, .ref 97), (1, .int x1), (2, .int x2), (3, .int x3), (4, .int x4), (5, .int x5)]) (st' := [.int x4]) (σ' := σ) hM 1 rfl ?_
    exact Rn.ret hM rfl rfl h
  · replace h := h.2 c
    refine Rn.seg (pc' := 17) (ls' := [(0, .ref 97), (1, .int x1), (2, .int x2), (3, .int x3), (4, .int x4), (5, .int x5)]) (st' := [.int (x2 + x5), .ref 97]) (σ' := σ) hM 4 rfl ?_
    obtain ⟨Qc, hq, h⟩ := h
    refine Rn.cI hM rfl rfl (by decide) hq (fun w2 σ1 hw => ?_)
    replace h := h w2 σ1 hw
    refine Rn.seg (pc' := 21) (ls' := [(0, .ref 97), (1, .int x1), (2, .int x2), (3, .int x3), (4, .int x4), (5, .int x5)]) (st' := []) (σ' := σ1) hM 1 rfl ?_
    exact Rn.sub h (subL_cons rfl (subL_cons rfl (subL_cons rfl (subL_cons rfl (subL_cons rfl (subL_cons rfl subL_nil)))))) (show ndL _ from (by decide : List.Nodup ([0, 1, 2, 3, 4, 5] : List Nat)))
set_option maxRecDepth 100000 in
theorem w_304_21 {d : Nat} {Q : Option Value → Sg → Prop} (σ : Sg) (x1 x2 x3 x4 x5 : Int32) (h : (∃ Qc : Int32 → Sg → Prop, OkI PRG d 210 [.ref 97] σ Qc ∧ ∀ w2 σ1, Qc w2 σ1 → ((w2 ≤ (σ.1 97 48) → (∃ Qc : Int32 → Sg → Prop, OkI PRG d 245 [.ref 97, .int (0 : Int32)] σ1 Qc ∧ ∀ w4 σ3, Qc w4 σ3 → Rn PRG (d + 1) 304 6 [(0, .ref 97), (1, .int x1), (2, .int x2), (3, .int x3), (4, .int (x4 + w4)), (5, .int (x5 + (1 : Int32)))] [] σ3 Q)) ∧ (¬ w2 ≤ (σ.1 97 48) → (∃ Qc : Sg → Prop, OkV PRG d 289 [.ref 97, .int x1] σ1 Qc ∧ ∀ σ5, Qc σ5 → Rn PRG (d + 1) 304 43 [(0, .ref 97), (1, .int x1), (2, .int x2), (3, .int x3), (4, .int x4), (5, .int x5), (6, .int (0 : Int32)), (7, .int (0 : Int32))] [] σ5 Q))))) : Rn PRG (d + 1) 304 21 [(0, .ref 97), (1, .int x1), (2, .int x2), (3, .int x3), (4, .int x4), (5, .int x5)] [] σ Q := by
  have hM : PRG[304]? = some M_304 := rfl
  refine Rn.seg (pc' := 26) (ls' := [(0, .ref 97), (1, .int x1), (2, .int x2), (3, .int x3), (4, .int x4), (5, .int x5)]) (st' := [.ref 97, .int (σ.1 97 48)]) (σ' := σ) hM 3 rfl ?_
  obtain ⟨Qc, hq, h⟩ := h
  refine Rn.cI hM rfl rfl (by decide) hq (fun w2 σ1 hw => ?_)
  replace h := h w2 σ1 hw
  refine Rn.br (c := w2 ≤ (σ.1 97 48)) (a := 132) (b := 32) (ls' := [(0, .ref 97), (1, .int x1), (2, .int x2), (3, .int x3), (4, .int x4), (5, .int x5)]) (st' := []) (σ' := σ1) hM 1 rfl (fun c => ?_) (fun c => ?_)
  · replace h := h.1 c
    refine Rn.seg (pc' := 136) (ls' := [(0, .ref 97), (1, .int x1), (2, .int x2), (3, .int x3), (4, .int x4), (5, .int x5)]) (st' := [.int (0 : Int32), .ref 97, .int x4]) (σ' := σ1) hM 3 rfl ?_
    obtain ⟨Qc, hq, h⟩ := h
    refine Rn.cI hM rfl rfl (by decide) hq (fun w4 σ3 hw => ?_)
    replace h := h w4 σ3 hw
    refine Rn.seg (pc' := 6) (ls' := [(5, .int (x5 + (1 : Int32))), (4, .int (x4 + w4)), (0, .ref 97), (1, .int x1), (2, .int x2), (3, .int x3)]) (st' := []) (σ' := σ3) hM 4 rfl ?_
    exact Rn.sub h (subL_cons rfl (subL_cons rfl (subL_cons rfl (subL_cons rfl (subL_cons rfl (subL_cons rfl subL_nil)))))) (show ndL _ from (by decide : List.Nodup ([0, 1, 2, 3, 4, 5] : List Nat)))
  · replace h := h.2 c
    refine Rn.seg (pc' := 34) (ls' := [(0, .ref 97), (1, .int x1), (2, .int x2), (3, .int x3), (4, .int x4), (5, .int x5)]) (st' := [.int x1, .ref 97]) (σ' := σ1) hM 2 rfl ?_
    obtain ⟨Qc, hq, h⟩ := h
    refine Rn.cV hM rfl rfl (by decide) hq (fun σ5 hw => ?_)
    replace h := h σ5 hw
    refine Rn.seg (pc' := 43) (ls' := [(7, .int (0 : Int32)), (6, .int (0 : Int32)), (0, .ref 97), (1, .int x1), (2, .int x2), (3, .int x3), (4, .int x4), (5, .int x5)]) (st' := []) (σ' := σ5) hM 4 rfl ?_
    exact Rn.sub h (subL_cons rfl (subL_cons rfl (subL_cons rfl (subL_cons rfl (subL_cons rfl (subL_cons rfl (subL_cons rfl (subL_cons rfl subL_nil)))))))) (show ndL _ from (by decide : List.Nodup ([0, 1, 2, 3, 4, 5, 6, 7] : List Nat)))
set_option maxRecDepth 100000 in
theorem w_304_43 {d : Nat} {Q : Option Value → Sg → Prop} (σ : Sg) (x1 x2 x3 x4 x5 x6 x7 : Int32) (h : (∃ Qc : Int32 → Sg → Prop, OkI PRG d 210 [.ref 97] σ Qc ∧ ∀ w2 σ1, Qc w2 σ1 → ((w2 ≤ x7 → (∃ Qc : Int32 → Sg → Prop, OkI PRG d 230 [.ref 97] σ1 Qc ∧ ∀ w4 σ3, Qc w4 σ3 → ((x6 = 0 → (∃ Qc : Int32 → Sg → Prop, OkI PRG d 293 [.ref 97, .int (σ3.1 97 78)] σ3 Qc ∧ ∀ w10 σ9, Qc w10 σ9 → (∃ Qc : Int32 → Sg → Prop, OkI PRG d 235 [.ref 97, .int w4, .int w10] σ9 Qc ∧ ∀ w12 σ11, Qc w12 σ11 → Rn PRG (d + 1) 304 21 [(0, .ref 97), (1, .int x1), (2, .int x2), (3, .int x3), (4, .int x4), (5, .int x5)] [] σ11 Q))) ∧ (¬ x6 = 0 → (∃ Qc : Int32 → Sg → Prop, OkI PRG d 293 [.ref 97, .int x6] σ3 Qc ∧ ∀ w6 σ5, Qc w6 σ5 → (∃ Qc : Int32 → Sg → Prop, OkI PRG d 235 [.ref 97, .int w4, .int w6] σ5 Qc ∧ ∀ w8 σ7, Qc w8 σ7 → Rn PRG (d + 1) 304 21 [(0, .ref 97), (1, .int x1), (2, .int x2), (3, .int x3), (4, .int x4), (5, .int x5)] [] σ7 Q)))))) ∧ (¬ w2 ≤ x7 → (((((σ1.1 97 78) >>> (x7 &&& 31)) &&& (1 : Int32)) = (1 : Int32) → (∃ Qc : Int32 → Sg → Prop, OkI PRG d 230 [.ref 97] σ1 Qc ∧ ∀ w14 σ13, Qc w14 σ13 → (∃ Qc : Int32 → Sg → Prop, OkI PRG d 303 [.ref 97, .int x1, .int w14] σ13 Qc ∧ ∀ w16 σ15, Qc w16 σ15 → ((w16 = 0 → Rn PRG (d + 1) 304 43 [(0, .ref 97), (1, .int x1), (2, .int x2), (3, .int x3), (4, .int x4), (5, .int x5), (6, .int (x6 ||| ((1 : Int32) <<< (x7 &&& 31)))), (7, .int (x7 + (1 : Int32)))] [] σ15 Q) ∧ (¬ w16 = 0 → (∃ Qc : Int32 → Sg → Prop, OkI PRG d 300 [.ref 97, .int x7, .int x1] σ15 Qc ∧ ∀ w18 σ17, Qc w18 σ17 → ((w18 = 0 → Rn PRG (d + 1) 304 43 [(0, .ref 97), (1, .int x1), (2, .int x2), (3, .int x3), (4, .int x4), (5, .int x5), (6, .int (x6 ||| ((1 : Int32) <<< (x7 &&& 31)))), (7, .int (x7 + (1 : Int32)))] [] σ17 Q) ∧ (¬ w18 = 0 → Rn PRG (d + 1) 304 43 [(0, .ref 97), (1, .int x1), (2, .int x2), (3, .int x3), (4, .int x4), (5, .int x5), (6, .int x6), (7, .int (x7 + (1 : Int32)))] [] σ17 Q)))))))) ∧ (¬ (((σ1.1 97 78) >>> (x7 &&& 31)) &&& (1 : Int32)) = (1 : Int32) → Rn PRG (d + 1) 304 43 [(0, .ref 97), (1, .int x1), (2, .int x2), (3, .int x3), (4, .int x4), (5, .int x5), (6, .int x6), (7, .int (x7 + (1 : Int32)))] [] σ1 Q)))))) : Rn PRG (d + 1) 304 43 [(0, .ref 97), (1, .int x1), (2, .int x2), (3, .int x3), (4, .int x4), (5, .int x5), (6, .int x6), (7, .int x7)] [] σ Q := by
  have hM : PRG[304]? = some M_304 := rfl
  refine Rn.seg (pc' := 46) (ls' := [(0, .ref 97), (1, .int x1), (2, .int x2), (3, .int x3), (4, .int x4), (5, .int x5), (6, .int x6), (7, .int x7)]) (st' := [.ref 97, .int x7]) (σ' := σ) hM 2 rfl ?_
  obtain ⟨Qc, hq, h⟩ := h
  refine Rn.cI hM rfl rfl (by decide) hq (fun w2 σ1 hw => ?_)
  replace h := h w2 σ1 hw
  refine Rn.br (c := w2 ≤ x7) (a := 102) (b := 52) (ls' := [(0, .ref 97), (1, .int x1), (2, .int x2), (3, .int x3), (4, .int x4), (5, .int x5), (6, .int x6), (7, .int x7)]) (st' := []) (σ' := σ1) hM 1 rfl (fun c => ?_) (fun c => ?_)
  · replace h := h.1 c
    refine Rn.seg (pc' := 104) (ls' := [(0, .ref 97), (1, .int x1), (2, .int x2), (3, .int x3), (4, .int x4), (5, .int x5), (6, .int x6), (7, .int x7)]) (st' := [.ref 97, .ref 97]) (σ' := σ1) hM 2 rfl ?_
    obtain ⟨Qc, hq, h⟩ := h
    refine Rn.cI hM rfl rfl (by decide) hq (fun w4 σ3 hw => ?_)
    replace h := h w4 σ3 hw
    refine Rn.brN (c := x6 = 0) (a := 120) (b := 113) (ls' := [(0, .ref 97), (1, .int x1), (2, .int x2), (3, .int x3), (4, .int x4), (5, .int x5), (6, .int x6), (7, .int x7)]) (st' := [.ref 97, .int w4, .ref 97]) (σ' := σ3) hM 3 rfl (fun c => ?_) (fun c => ?_)
    · replace h := h.2 c
      refine Rn.seg (pc' := 122) (ls' := [(0, .ref 97), (1, .int x1), (2, .int x2), (3, .int x3), (4, .int x4), (5, .int x5), (6, .int x6), (7, .int x7)]) (st' := [.int x6, .ref 97, .int w4, .ref 97]) (σ' := σ3) hM 1 rfl ?_
      obtain ⟨Qc, hq, h⟩ := h
      refine Rn.cI hM rfl rfl (by decide) hq (fun w6 σ5 hw => ?_)
      replace h := h w6 σ5 hw
      refine Rn.seg (pc' := 125) (ls' := [(0, .ref 97), (1, .int x1), (2, .int x2), (3, .int x3), (4, .int x4), (5, .int x5), (6, .int x6), (7, .int x7)]) (st' := [.int w6, .int w4, .ref 97]) (σ' := σ5) hM 0 rfl ?_
      obtain ⟨Qc, hq, h⟩ := h
      refine Rn.cI hM rfl rfl (by decide) hq (fun w8 σ7 hw => ?_)
      replace h := h w8 σ7 hw
      refine Rn.seg (pc' := 21) (ls' := [(0, .ref 97), (1, .int x1), (2, .int x2), (3, .int x3), (4, .int x4), (5, .int x5), (6, .int x6), (7, .int x7)]) (st' := []) (σ' := σ7) hM 2 rfl ?_
      exact Rn.sub h (subL_cons rfl (subL_cons rfl (subL_cons rfl (subL_cons rfl (subL_cons rfl (subL_cons rfl subL_nil)))))) (show ndL _ from (by decide : List.Nodup ([0, 1, 2, 3, 4, 5] : List Nat)))
    · replace h := h.1 c
      refine Rn.seg (pc' := 122) (ls' := [(0, .ref 97), (1, .int x1), (2, .int x2), (3, .int x3), (4, .int x4), (5, .int x5), (6, .int x6), (7, .int x7)]) (st' := [.int (σ3.1 97 78), .ref 97, .int w4, .ref 97]) (σ' := σ3) hM 3 rfl ?_
      obtain ⟨Qc, hq, h⟩ := h
      refine Rn.cI hM rfl rfl (by decide) hq (fun w10 σ9 hw => ?_)
      replace h := h w10 σ9 hw
      refine Rn.seg (pc' := 125) (ls' := [(0, .ref 97), (1, .int x1), (2, .int x2), (3, .int x3), (4, .int x4), (5, .int x5), (6, .int x6), (7, .int x7)]) (st' := [.int w10, .int w4, .ref 97]) (σ' := σ9) hM 0 rfl ?_
      obtain ⟨Qc, hq, h⟩ := h
      refine Rn.cI hM rfl rfl (by decide) hq (fun w12 σ11 hw => ?_)
      replace h := h w12 σ11 hw
      refine Rn.seg (pc' := 21) (ls' := [(0, .ref 97), (1, .int x1), (2, .int x2), (3, .int x3), (4, .int x4), (5, .int x5), (6, .int x6), (7, .int x7)]) (st' := []) (σ' := σ11) hM 2 rfl ?_
      exact Rn.sub h (subL_cons rfl (subL_cons rfl (subL_cons rfl (subL_cons rfl (subL_cons rfl (subL_cons rfl subL_nil)))))) (show ndL _ from (by decide : List.Nodup ([0, 1, 2, 3, 4, 5] : List Nat)))
  · replace h := h.2 c
    refine Rn.brN (c := (((σ1.1 97 78) >>> (x7 &&& 31)) &&& (1 : Int32)) = (1 : Int32)) (a := 96) (b := 65) (ls' := [(0, .ref 97), (1, .int x1), (2, .int x2), (3, .int x3), (4, .int x4), (5, .int x5), (6, .int x6), (7, .int x7)]) (st' := []) (σ' := σ1) hM 8 rfl (fun c => ?_) (fun c => ?_)
    · replace h := h.2 c
      refine Rn.seg (pc' := 43) (ls' := [(7, .int (x7 + (1 : Int32))), (0, .ref 97), (1, .int x1), (2, .int x2), (3, .int x3), (4, .int x4), (5, .int x5), (6, .int x6)]) (st' := []) (σ' := σ1) hM 2 rfl ?_
      exact Rn.sub h (subL_cons rfl (subL_cons rfl (subL_cons rfl (subL_cons rfl (subL_cons rfl (subL_cons rfl (subL_cons rfl (subL_cons rfl subL_nil)))))))) (show ndL _ from (by decide : List.Nodup ([0, 1, 2, 3, 4, 5, 6, 7] : List Nat)))
    · replace h := h.1 c
      refine Rn.seg (pc' := 68) (ls' := [(0, .ref 97), (1, .int x1), (2, .int x2), (3, .int x3), (4, .int x4), (5, .int x5), (6, .int x6), (7, .int x7)]) (st' := [.ref 97, .int x1, .ref 97]) (σ' := σ1) hM 3 rfl ?_
      obtain ⟨Qc, hq, h⟩ := h
      refine Rn.cI hM rfl rfl (by decide) hq (fun w14 σ13 hw => ?_)
      replace h := h w14 σ13 hw
      refine Rn.seg (pc' := 71) (ls' := [(0, .ref 97), (1, .int x1), (2, .int x2), (3, .int x3), (4, .int x4), (5, .int x5), (6, .int x6), (7, .int x7)]) (st' := [.int w14, .int x1, .ref 97]) (σ' := σ13) hM 0 rfl ?_
      obtain ⟨Qc, hq, h⟩ := h
      refine Rn.cI hM rfl rfl (by decide) hq (fun w16 σ15 hw => ?_)
      replace h := h w16 σ15 hw
      refine Rn.br (c := w16 = 0) (a := 87) (b := 77) (ls' := [(0, .ref 97), (1, .int x1), (2, .int x2), (3, .int x3), (4, .int x4), (5, .int x5), (6, .int x6), (7, .int x7)]) (st' := []) (σ' := σ15) hM 1 rfl (fun c => ?_) (fun c => ?_)
      · replace h := h.1 c
        refine Rn.seg (pc' := 43) (ls' := [(7, .int (x7 + (1 : Int32))), (6, .int (x6 ||| ((1 : Int32) <<< (x7 &&& 31)))), (0, .ref 97), (1, .int x1), (2, .int x2), (3, .int x3), (4, .int x4), (5, .int x5)]) (st' := []) (σ' := σ15) hM 8 rfl ?_
        exact Rn.sub h (subL_cons rfl (subL_cons rfl (subL_cons rfl (subL_cons rfl (subL_cons rfl (subL_cons rfl (subL_cons rfl (subL_cons rfl subL_nil)))))))) (show ndL _ from (by decide : List.Nodup ([0, 1, 2, 3, 4, 5, 6, 7] : List Nat)))
      · replace h := h.2 c
        refine Rn.seg (pc' := 81) (ls' := [(0, .ref 97), (1, .int x1), (2, .int x2), (3, .int x3), (4, .int x4), (5, .int x5), (6, .int x6), (7, .int x7)]) (st' := [.int x1, .int x7, .ref 97]) (σ' := σ15) hM 3 rfl ?_
        obtain ⟨Qc, hq, h⟩ := h
        refine Rn.cI hM rfl rfl (by decide) hq (fun w18 σ17 hw => ?_)
        replace h := h w18 σ17 hw
        refine Rn.brN (c := w18 = 0) (a := 96) (b := 87) (ls' := [(0, .ref 97), (1, .int x1), (2, .int x2), (3, .int x3), (4, .int x4), (5, .int x5), (6, .int x6), (7, .int x7)]) (st' := []) (σ' := σ17) hM 1 rfl (fun c => ?_) (fun c => ?_)
        · replace h := h.2 c
          refine Rn.seg (pc' := 43) (ls' := [(7, .int (x7 + (1 : Int32))), (0, .ref 97), (1, .int x1), (2, .int x2), (3, .int x3), (4, .int x4), (5, .int x5), (6, .int x6)]) (st' := []) (σ' := σ17) hM 2 rfl ?_
          exact Rn.sub h (subL_cons rfl (subL_cons rfl (subL_cons rfl (subL_cons rfl (subL_cons rfl (subL_cons rfl (subL_cons rfl (subL_cons rfl subL_nil)))))))) (show ndL _ from (by decide : List.Nodup ([0, 1, 2, 3, 4, 5, 6, 7] : List Nat)))
        · replace h := h.1 c
          refine Rn.seg (pc' := 43) (ls' := [(7, .int (x7 + (1 : Int32))), (6, .int (x6 ||| ((1 : Int32) <<< (x7 &&& 31)))), (0, .ref 97), (1, .int x1), (2, .int x2), (3, .int x3), (4, .int x4), (5, .int x5)]) (st' := []) (σ' := σ17) hM 8 rfl ?_
          exact Rn.sub h (subL_cons rfl (subL_cons rfl (subL_cons rfl (subL_cons rfl (subL_cons rfl (subL_cons rfl (subL_cons rfl (subL_cons rfl subL_nil)))))))) (show ndL _ from (by decide : List.Nodup ([0, 1, 2, 3, 4, 5, 6, 7] : List Nat)))
set_option maxRecDepth 100000 in
theorem w_305_0 {d : Nat} {Q : Option Value → Sg → Prop} (σ : Sg) (h : (((σ.1 97 45) = 0 ∨ (σ.1 97 45) = 1) ∧ Rn PRG d 305 26 [(0, .ref 97), (1, .int (0 : Int32))] [] (s1 (s1 (s1 σ 97 80 (σ.1 97 45)) 97 82 (σ.1 97 47)) 97 83 (σ.1 97 48)) Q)) : Rn PRG d 305 0 [(0, .ref 97)] [] σ Q := by
  have hM : PRG[305]? = some M_305 := rfl
  refine Rn.seg (pc' := 5) (ls' := [(0, .ref 97)]) (st' := [.int (σ.1 97 45), .ref 97]) (σ' := σ) hM 3 rfl ?_
  refine Rn.putZ hM rfl rfl rfl rfl h.1 ?_
  refine Rn.seg (pc' := 26) (ls' := [(1, .int (0 : Int32)), (0, .ref 97)]) (st' := []) (σ' := (s1 (s1 (s1 σ 97 80 (σ.1 97 45)) 97 82 (σ.1 97 47)) 97 83 (σ.1 97 48))) hM 10 rfl ?_
  exact Rn.sub h.2 (subL_cons rfl (subL_cons rfl subL_nil)) (show ndL _ from (by decide : List.Nodup ([0, 1] : List Nat)))
set_option maxRecDepth 100000 in
theorem w_305_26 {d : Nat} {Q : Option Value → Sg → Prop} (σ : Sg) (x1 : Int32) (h : (((4 : Int32) ≤ x1 → Rn PRG d 305 51 [(0, .ref 97), (1, .int (0 : Int32))] [] σ Q) ∧ (¬ (4 : Int32) ≤ x1 → (inR x1 4 = true ∧ (inR x1 4 = true ∧ Rn PRG d 305 26 [(0, .ref 97), (1, .int (x1 + (1 : Int32)))] [] (s1 σ 147 x1.toNatClampNeg (σ.1 125 x1.toNatClampNeg)) Q))))) : Rn PRG d 305 26 [(0, .ref 97), (1, .int x1)] [] σ Q := by
  have hM : PRG[305]? = some M_305 := rfl
  refine Rn.br (c := (4 : Int32) ≤ x1) (a := 49) (b := 31) (ls' := [(0, .ref 97), (1, .int x1)]) (st' := []) (σ' := σ) hM 3 rfl (fun c => ?_) (fun c => ?_)
  · replace h := h.1 c
    refine Rn.seg (pc' := 51) (ls' := [(1, .int (0 : Int32)), (0, .ref 97)]) (st' := []) (σ' := σ) hM 2 rfl ?_
    exact Rn.sub h (subL_cons rfl (subL_cons rfl subL_nil)) (show ndL _ from (by decide : List.Nodup ([0, 1] : List Nat)))
  · replace h := h.2 c
    refine Rn.seg (pc' := 41) (ls' := [(0, .ref 97), (1, .int x1)]) (st' := [.int x1, .ref 125, .int x1, .ref 147]) (σ' := σ) hM 6 rfl ?_
    refine Rn.iald hM rfl rfl h.1 ?_
    refine Rn.seg (pc' := 42) (ls' := [(0, .ref 97), (1, .int x1)]) (st' := [.int (σ.1 125 x1.toNatClampNeg), .int x1, .ref 147]) (σ' := σ) hM 0 rfl ?_
    refine Rn.iast hM rfl rfl h.2.1 ?_
    refine Rn.seg (pc' := 26) (ls' := [(1, .int (x1 + (1 : Int32))), (0, .ref 97)]) (st' := []) (σ' := (s1 σ 147 x1.toNatClampNeg (σ.1 125 x1.toNatClampNeg))) hM 2 rfl ?_
    exact Rn.sub h.2.2 (subL_cons rfl (subL_cons rfl subL_nil)) (show ndL _ from (by decide : List.Nodup ([0, 1] : List Nat)))
set_option maxRecDepth 100000 in
theorem w_305_51 {d : Nat} {Q : Option Value → Sg → Prop} (σ : Sg) (x1 : Int32) (h : (((16 : Int32) ≤ x1 → Q none σ) ∧ (¬ (16 : Int32) ≤ x1 → (inR x1 16 = true ∧ (inR x1 16 = true ∧ (inR x1 16 = true ∧ (inR x1 16 = true ∧ Rn PRG d 305 51 [(0, .ref 97), (1, .int (x1 + (1 : Int32)))] [] (s1 (s1 σ 148 x1.toNatClampNeg (σ.1 126 x1.toNatClampNeg)) 149 x1.toNatClampNeg (σ.1 127 x1.toNatClampNeg)) Q))))))) : Rn PRG d 305 51 [(0, .ref 97), (1, .int x1)] [] σ Q := by
  have hM : PRG[305]? = some M_305 := rfl
  refine Rn.br (c := (16 : Int32) ≤ x1) (a := 87) (b := 57) (ls' := [(0, .ref 97), (1, .int x1)]) (st' := []) (σ' := σ) hM 3 rfl (fun c => ?_) (fun c => ?_)
  · replace h := h.1 c
    refine Rn.seg (pc' := 87) (ls' := [(0, .ref 97), (1, .int x1)]) (st' := []) (σ' := σ) hM 0 rfl ?_
    exact Rn.ret hM rfl rfl h
  · replace h := h.2 c
    refine Rn.seg (pc' := 67) (ls' := [(0, .ref 97), (1, .int x1)]) (st' := [.int x1, .ref 126, .int x1, .ref 148]) (σ' := σ) hM 6 rfl ?_
    refine Rn.iald hM rfl rfl h.1 ?_
    refine Rn.seg (pc' := 68) (ls' := [(0, .ref 97), (1, .int x1)]) (st' := [.int (σ.1 126 x1.toNatClampNeg), .int x1, .ref 148]) (σ' := σ) hM 0 rfl ?_
    refine Rn.iast hM rfl rfl h.2.1 ?_
    refine Rn.seg (pc' := 79) (ls' := [(0, .ref 97), (1, .int x1)]) (st' := [.int x1, .ref 127, .int x1, .ref 149]) (σ' := (s1 σ 148 x1.toNatClampNeg (σ.1 126 x1.toNatClampNeg))) hM 6 rfl ?_
    refine Rn.iald hM rfl rfl h.2.2.1 ?_
    refine Rn.seg (pc' := 80) (ls' := [(0, .ref 97), (1, .int x1)]) (st' := [.int (σ.1 127 x1.toNatClampNeg), .int x1, .ref 149]) (σ' := (s1 σ 148 x1.toNatClampNeg (σ.1 126 x1.toNatClampNeg))) hM 0 rfl ?_
    refine Rn.iast hM rfl rfl h.2.2.2.1 ?_
    refine Rn.seg (pc' := 51) (ls' := [(1, .int (x1 + (1 : Int32))), (0, .ref 97)]) (st' := []) (σ' := (s1 (s1 σ 148 x1.toNatClampNeg (σ.1 126 x1.toNatClampNeg)) 149 x1.toNatClampNeg (σ.1 127 x1.toNatClampNeg))) hM 2 rfl ?_
    exact Rn.sub h.2.2.2.2 (subL_cons rfl (subL_cons rfl subL_nil)) (show ndL _ from (by decide : List.Nodup ([0, 1] : List Nat)))
set_option maxRecDepth 100000 in
theorem w_306_0 {d : Nat} {Q : Option Value → Sg → Prop} (σ : Sg) (h : (((σ.1 97 80) = 0 ∨ (σ.1 97 80) = 1) ∧ Rn PRG d 306 26 [(0, .ref 97), (1, .int (0 : Int32))] [] (s1 (s1 (s1 σ 97 45 (σ.1 97 80)) 97 47 (σ.1 97 82)) 97 48 (σ.1 97 83)) Q)) : Rn PRG d 306 0 [(0, .ref 97)] [] σ Q := by
  have hM : PRG[306]? = some M_306 := rfl
  refine Rn.seg (pc' := 5) (ls' := [(0, .ref 97)]) (st' := [.int (σ.1 97 80), .ref 97]) (σ' := σ) hM 3 rfl ?_
  refine Rn.putZ hM rfl rfl rfl rfl h.1 ?_
  refine Rn.seg (pc' := 26) (ls' := [(1, .int (0 : Int32)), (0, .ref 97)]) (st' := []) (σ' := (s1 (s1 (s1 σ 97 45 (σ.1 97 80)) 97 47 (σ.1 97 82)) 97 48 (σ.1 97 83))) hM 10 rfl ?_
  exact Rn.sub h.2 (subL_cons rfl (subL_cons rfl subL_nil)) (show ndL _ from (by decide : List.Nodup ([0, 1] : List Nat)))
set_option maxRecDepth 100000 in
theorem w_306_26 {d : Nat} {Q : Option Value → Sg → Prop} (σ : Sg) (x1 : Int32) (h : (((4 : Int32) ≤ x1 → Rn PRG d 306 51 [(0, .ref 97), (1, .int (0 : Int32))] [] σ Q) ∧ (¬ (4 : Int32) ≤ x1 → (inR x1 4 = true ∧ (inR x1 4 = true ∧ Rn PRG d 306 26 [(0, .ref 97), (1, .int (x1 + (1 : Int32)))] [] (s1 σ 125 x1.toNatClampNeg (σ.1 147 x1.toNatClampNeg)) Q))))) : Rn PRG d 306 26 [(0, .ref 97), (1, .int x1)] [] σ Q := by
  have hM : PRG[306]? = some M_306 := rfl
  refine Rn.br (c := (4 : Int32) ≤ x1) (a := 49) (b := 31) (ls' := [(0, .ref 97), (1, .int x1)]) (st' := []) (σ' := σ) hM 3 rfl (fun c => ?_) (fun c => ?_)
  · replace h := h.1 c
    refine Rn.seg (pc' := 51) (ls' := [(1, .int (0 : Int32)), (0, .ref 97)]) (st' := []) (σ' := σ) hM 2 rfl ?_
    exact Rn.sub h (subL_cons rfl (subL_cons rfl subL_nil)) (show ndL _ from (by decide : List.Nodup ([0, 1] : List Nat)))
  · replace h := h.2 c
    refine Rn.seg (pc' := 41) (ls' := [(0, .ref 97), (1, .int x1)]) (st' := [.int x1, .ref 147, .int x1, .ref 125]) (σ' := σ) hM 6 rfl ?_
    refine Rn.iald hM rfl rfl h.1 ?_
    refine Rn.seg (pc' := 42) (ls' := [(0, .ref 97), (1, .int x1)]) (st' := [.int (σ.1 147 x1.toNatClampNeg), .int x1, .ref 125]) (σ' := σ) hM 0 rfl ?_
    refine Rn.iast hM rfl rfl h.2.1 ?_
    refine Rn.seg (pc' := 26) (ls' := [(1, .int (x1 + (1 : Int32))), (0, .ref 97)]) (st' := []) (σ' := (s1 σ 125 x1.toNatClampNeg (σ.1 147 x1.toNatClampNeg))) hM 2 rfl ?_
    exact Rn.sub h.2.2 (subL_cons rfl (subL_cons rfl subL_nil)) (show ndL _ from (by decide : List.Nodup ([0, 1] : List Nat)))
set_option maxRecDepth 100000 in
theorem w_306_51 {d : Nat} {Q : Option Value → Sg → Prop} (σ : Sg) (x1 : Int32) (h : (((16 : Int32) ≤ x1 → Q none σ) ∧ (¬ (16 : Int32) ≤ x1 → (inR x1 16 = true ∧ (inR x1 16 = true ∧ (inR x1 16 = true ∧ (inR x1 16 = true ∧ Rn PRG d 306 51 [(0, .ref 97), (1, .int (x1 + (1 : Int32)))] [] (s1 (s1 σ 126 x1.toNatClampNeg (σ.1 148 x1.toNatClampNeg)) 127 x1.toNatClampNeg (σ.1 149 x1.toNatClampNeg)) Q))))))) : Rn PRG d 306 51 [(0, .ref 97), (1, .int x1)] [] σ Q := by
  have hM : PRG[306]? = some M_306 := rfl
  refine Rn.br (c := (16 : Int32) ≤ x1) (a := 87) (b := 57) (ls' := [(0, .ref 97), (1, .int x1)]) (st' := []) (σ' := σ) hM 3 rfl (fun c => ?_) (fun c => ?_)
  · replace h := h.1 c
    refine Rn.seg (pc' := 87) (ls' := [(0, .ref 97), (1, .int x1)]) (st' := []) (σ' := σ) hM 0 rfl ?_
    exact Rn.ret hM rfl rfl h
  · replace h := h.2 c
    refine Rn.seg (pc' := 67) (ls' := [(0, .ref 97), (1, .int x1)]) (st' := [.int x1, .ref 148, .int x1, .ref 126]) (σ' := σ) hM 6 rfl ?_
    refine Rn.iald hM rfl rfl h.1 ?_
    refine Rn.seg (pc' := 68) (ls' := [(0, .ref 97), (1, .int x1)]) (st' := [.int (σ.1 148 x1.toNatClampNeg), .int x1, .ref 126]) (σ' := σ) hM 0 rfl ?_
    refine Rn.iast hM rfl rfl h.2.1 ?_
    refine Rn.seg (pc' := 79) (ls' := [(0, .ref 97), (1, .int x1)]) (st' := [.int x1, .ref 149, .int x1, .ref 127]) (σ' := (s1 σ 126 x1.toNatClampNeg (σ.1 148 x1.toNatClampNeg))) hM 6 rfl ?_
    refine Rn.iald hM rfl rfl h.2.2.1 ?_
    refine Rn.seg (pc' := 80) (ls' := [(0, .ref 97), (1, .int x1)]) (st' := [.int (σ.1 149 x1.toNatClampNeg), .int x1, .ref 127]) (σ' := (s1 σ 126 x1.toNatClampNeg (σ.1 148 x1.toNatClampNeg))) hM 0 rfl ?_
    refine Rn.iast hM rfl rfl h.2.2.2.1 ?_
    refine Rn.seg (pc' := 51) (ls' := [(1, .int (x1 + (1 : Int32))), (0, .ref 97)]) (st' := []) (σ' := (s1 (s1 σ 126 x1.toNatClampNeg (σ.1 148 x1.toNatClampNeg)) 127 x1.toNatClampNeg (σ.1 149 x1.toNatClampNeg))) hM 2 rfl ?_
    exact Rn.sub h.2.2.2.2 (subL_cons rfl (subL_cons rfl subL_nil)) (show ndL _ from (by decide : List.Nodup ([0, 1] : List Nat)))
set_option maxRecDepth 100000 in
theorem w_308_0 {d : Nat} {Q : Option Value → Sg → Prop} (σ : Sg) (x1 x2 x3 : Int32) (h : (∃ Qc : Int32 → Sg → Prop, OkI PRG d 218 [.ref 97, .int x1] σ Qc ∧ ∀ w2 σ1, Qc w2 σ1 → ((w2 = 0 → Q (some (.int (-1000 : Int32))) σ1) ∧ (¬ w2 = 0 → (∃ Qc : Int32 → Sg → Prop, OkI PRG d 307 [.ref 97, .int x3] σ1 Qc ∧ ∀ w4 σ3, Qc w4 σ3 → ((w4 = 0 → Q (some (.int (-1000 : Int32))) σ3) ∧ (¬ w4 = 0 → (∃ Qc : Sg → Prop, OkV PRG d 305 [.ref 97] σ3 Qc ∧ ∀ σ5, Qc σ5 → (∃ Qc : Int32 → Sg → Prop, OkI PRG d 304 [.ref 97, .int x1, .int x2, .int x3] σ5 Qc ∧ ∀ w7 σ6, Qc w7 σ6 → (∃ Qc : Int32 → Sg → Prop, OkI PRG d 304 [.ref 97, .int (0 : Int32), .int x2, .int x3] σ6 Qc ∧ ∀ w9 σ8, Qc w9 σ8 → (∃ Qc : Sg → Prop, OkV PRG d 306 [.ref 97] σ8 Qc ∧ ∀ σ10, Qc σ10 → Q (some (.int (w7 - w9))) σ10))))))))))) : Rn PRG (d + 1) 308 0 [(0, .ref 97), (1, .int x1), (2, .int x2), (3, .int x3)] [] σ Q := by
  have hM : PRG[308]? = some M_308 := rfl
  refine Rn.seg (pc' := 2) (ls' := [(0, .ref 97), (1, .int x1), (2, .int x2), (3, .int x3)]) (st' := [.int x1, .ref 97]) (σ' := σ) hM 2 rfl ?_
  obtain ⟨Qc, hq, h⟩ := h
  refine Rn.cI hM rfl rfl (by decide) hq (fun w2 σ1 hw => ?_)
  replace h := h w2 σ1 hw
  refine Rn.br (c := w2 = 0) (a := 16) (b := 8) (ls' := [(0, .ref 97), (1, .int x1), (2, .int x2), (3, .int x3)]) (st' := []) (σ' := σ1) hM 1 rfl (fun c => ?_) (fun c => ?_)
  · replace h := h.1 c
    refine Rn.seg (pc' := 19) (ls' := [(0, .ref 97), (1, .int x1), (2, .int x2), (3, .int x3)]) (st' := [.int (-1000 : Int32)]) (σ' := σ1) hM 1 rfl ?_
    exact Rn.ret hM rfl rfl h
  · replace h := h.2 c
    refine Rn.seg (pc' := 10) (ls' := [(0, .ref 97), (1, .int x1), (2, .int x2), (3, .int x3)]) (st' := [.int x3, .ref 97]) (σ' := σ1) hM 2 rfl ?_
    obtain ⟨Qc, hq, h⟩ := h
    refine Rn.cI hM rfl rfl (by decide) hq (fun w4 σ3 hw => ?_)
    replace h := h w4 σ3 hw
    refine Rn.brN (c := w4 = 0) (a := 20) (b := 16) (ls' := [(0, .ref 97), (1, .int x1), (2, .int x2), (3, .int x3)]) (st' := []) (σ' := σ3) hM 1 rfl (fun c => ?_) (fun c => ?_)
    · replace h := h.2 c
      refine Rn.seg (pc' := 21) (ls' := [(0, .ref 97), (1, .int x1), (2, .int x2), (3, .int x3)]) (st' := [.ref 97]) (σ' := σ3) hM 1 rfl ?_
      obtain ⟨Qc, hq, h⟩ := h
      refine Rn.cV hM rfl rfl (by decide) hq (fun σ5 hw => ?_)
      replace h := h σ5 hw
      refine Rn.seg (pc' := 28) (ls' := [(0, .ref 97), (1, .int x1), (2, .int x2), (3, .int x3)]) (st' := [.int x3, .int x2, .int x1, .ref 97]) (σ' := σ5) hM 4 rfl ?_
      obtain ⟨Qc, hq, h⟩ := h
      refine Rn.cI hM rfl rfl (by decide) hq (fun w7 σ6 hw => ?_)
      replace h := h w7 σ6 hw
      refine Rn.seg (pc' := 35) (ls' := [(0, .ref 97), (1, .int x1), (2, .int x2), (3, .int x3)]) (st' := [.int x3, .int x2, .int (0 : Int32), .ref 97, .int w7]) (σ' := σ6) hM 4 rfl ?_
      obtain ⟨Qc, hq, h⟩ := h
      refine Rn.cI hM rfl rfl (by decide) hq (fun w9 σ8 hw => ?_)
      replace h := h w9 σ8 hw
      refine Rn.seg (pc' := 42) (ls' := [(4, .int (w7 - w9)), (0, .ref 97), (1, .int x1), (2, .int x2), (3, .int x3)]) (st' := [.ref 97]) (σ' := σ8) hM 3 rfl ?_
      obtain ⟨Qc, hq, h⟩ := h
      refine Rn.cV hM rfl rfl (by decide) hq (fun σ10 hw => ?_)
      replace h := h σ10 hw
      refine Rn.seg (pc' := 47) (ls' := [(4, .int (w7 - w9)), (0, .ref 97), (1, .int x1), (2, .int x2), (3, .int x3)]) (st' := [.int (w7 - w9)]) (σ' := σ10) hM 1 rfl ?_
      exact Rn.ret hM rfl rfl h
    · replace h := h.1 c
      refine Rn.seg (pc' := 19) (ls' := [(0, .ref 97), (1, .int x1), (2, .int x2), (3, .int x3)]) (st' := [.int (-1000 : Int32)]) (σ' := σ3) hM 1 rfl ?_
      exact Rn.ret hM rfl rfl h
set_option maxRecDepth 100000 in
theorem w_309_0 {d : Nat} {Q : Option Value → Sg → Prop} (σ : Sg) (x1 x2 x3 : Int32) (h : (∃ Qc : Int32 → Sg → Prop, OkI PRG d 307 [.ref 97, .int x2] σ Qc ∧ ∀ w2 σ1, Qc w2 σ1 → ((w2 = 0 → Q (some (.int (-1000 : Int32))) σ1) ∧ (¬ w2 = 0 → (∃ Qc : Int32 → Sg → Prop, OkI PRG d 195 [.int x3, .int (0 : Int32), .int (1 : Int32)] σ1 Qc ∧ ∀ w4 σ3, Qc w4 σ3 → ((w4 = 0 → Q (some (.int (-1000 : Int32))) σ3) ∧ (¬ w4 = 0 → (∃ Qc : Sg → Prop, OkV PRG d 305 [.ref 97] σ3 Qc ∧ ∀ σ5, Qc σ5 → (∃ Qc : Int32 → Sg → Prop, OkI PRG d 304 [.ref 97, .int (0 : Int32), .int x1, .int x2] σ5 Qc ∧ ∀ w7 σ6, Qc w7 σ6 → Rn PRG (d + 1) 309 43 [(0, .ref 97), (1, .int x1), (2, .int x2), (3, .int x3), (4, .int w7), (5, .int (0 : Int32)), (6, .int (0 : Int32)), (7, .int (1 : Int32))] [] σ6 Q))))))))) : Rn PRG (d + 1) 309 0 [(0, .ref 97), (1, .int x1), (2, .int x2), (3, .int x3)] [] σ Q := by
  have hM : PRG[309]? = some M_309 := rfl
  refine Rn.seg (pc' := 2) (ls' := [(0, .ref 97), (1, .int x1), (2, .int x2), (3, .int x3)]) (st' := [.int x2, .ref 97]) (σ' := σ) hM 2 rfl ?_
  obtain ⟨Qc, hq, h⟩ := h
  refine Rn.cI hM rfl rfl (by decide) hq (fun w2 σ1 hw => ?_)
  replace h := h w2 σ1 hw
  refine Rn.br (c := w2 = 0) (a := 17) (b := 8) (ls' := [(0, .ref 97), (1, .int x1), (2, .int x2), (3, .int x3)]) (st' := []) (σ' := σ1) hM 1 rfl (fun c => ?_) (fun c => ?_)
  · replace h := h.1 c
    refine Rn.seg (pc' := 20) (ls' := [(0, .ref 97), (1, .int x1), (2, .int x2), (3, .int x3)]) (st' := [.int (-1000 : Int32)]) (σ' := σ1) hM 1 rfl ?_
    exact Rn.ret hM rfl rfl h
  · replace h := h.2 c
    refine Rn.seg (pc' := 11) (ls' := [(0, .ref 97), (1, .int x1), (2, .int x2), (3, .int x3)]) (st' := [.int (1 : Int32), .int (0 : Int32), .int x3]) (σ' := σ1) hM 3 rfl ?_
    obtain ⟨Qc, hq, h⟩ := h
    refine Rn.cI hM rfl rfl (by decide) hq (fun w4 σ3 hw => ?_)
    replace h := h w4 σ3 hw
    refine Rn.brN (c := w4 = 0) (a := 21) (b := 17) (ls' := [(0, .ref 97), (1, .int x1), (2, .int x2), (3, .int x3)]) (st' := []) (σ' := σ3) hM 1 rfl (fun c => ?_) (fun c => ?_)
    · replace h := h.2 c
      refine Rn.seg (pc' := 22) (ls' := [(0, .ref 97), (1, .int x1), (2, .int x2), (3, .int x3)]) (st' := [.ref 97]) (σ' := σ3) hM 1 rfl ?_
      obtain ⟨Qc, hq, h⟩ := h
      refine Rn.cV hM rfl rfl (by decide) hq (fun σ5 hw => ?_)
      replace h := h σ5 hw
      refine Rn.seg (pc' := 29) (ls' := [(0, .ref 97), (1, .int x1), (2, .int x2), (3, .int x3)]) (st' := [.int x2, .int x1, .int (0 : Int32), .ref 97]) (σ' := σ5) hM 4 rfl ?_
      obtain ⟨Qc, hq, h⟩ := h
      refine Rn.cI hM rfl rfl (by decide) hq (fun w7 σ6 hw => ?_)
      replace h := h w7 σ6 hw
      refine Rn.seg (pc' := 43) (ls' := [(7, .int (1 : Int32)), (6, .int (0 : Int32)), (5, .int (0 : Int32)), (4, .int w7), (0, .ref 97), (1, .int x1), (2, .int x2), (3, .int x3)]) (st' := []) (σ' := σ6) hM 7 rfl ?_
      exact Rn.sub h (subL_cons rfl (subL_cons rfl (subL_cons rfl (subL_cons rfl (subL_cons rfl (subL_cons rfl (subL_cons rfl (subL_cons rfl subL_nil)))))))) (show ndL _ from (by decide : List.Nodup ([0, 1, 2, 3, 4, 5, 6, 7] : List Nat)))
    · replace h := h.1 c
      refine Rn.seg (pc' := 20) (ls' := [(0, .ref 97), (1, .int x1), (2, .int x2), (3, .int x3)]) (st' := [.int (-1000 : Int32)]) (σ' := σ3) hM 1 rfl ?_
      exact Rn.ret hM rfl rfl h
set_option maxRecDepth 100000 in
theorem w_309_43 {d : Nat} {Q : Option Value → Sg → Prop} (σ : Sg) (x1 x2 x3 x4 x5 x6 x7 : Int32) (h : (inR (σ.1 97 18) 2 = true ∧ ((((1 : Int32) <<< ((σ.1 109 (σ.1 97 18).toNatClampNeg) &&& 31)) ≤ x7 → (∃ Qc : Sg → Prop, OkV PRG d 306 [.ref 97] σ Qc ∧ ∀ σ1, Qc σ1 → ((x3 = 0 → Q (some (.int x5)) σ1) ∧ (¬ x3 = 0 → Q (some (.int x6)) σ1)))) ∧ (¬ ((1 : Int32) <<< ((σ.1 109 (σ.1 97 18).toNatClampNeg) &&& 31)) ≤ x7 → (∃ Qc : Int32 → Sg → Prop, OkI PRG d 304 [.ref 97, .int x7, .int x1, .int x2] σ Qc ∧ ∀ w3 σ2, Qc w3 σ2 → ((x6 < (w3 - x4) → Rn PRG (d + 1) 309 43 [(0, .ref 97), (1, .int x1), (2, .int x2), (3, .int x3), (4, .int x4), (5, .int x7), (6, .int (w3 - x4)), (7, .int (x7 + (1 : Int32)))] [] σ2 Q) ∧ (¬ x6 < (w3 - x4) → Rn PRG (d + 1) 309 43 [(0, .ref 97), (1, .int x1), (2, .int x2), (3, .int x3), (4, .int x4), (5, .int x5), (6, .int x6), (7, .int (x7 + (1 : Int32)))] [] σ2 Q))))))) : Rn PRG (d + 1) 309 43 [(0, .ref 97), (1, .int x1), (2, .int x2), (3, .int x3), (4, .int x4), (5, .int x5), (6, .int x6), (7, .int x7)] [] σ Q := by
  have hM : PRG[309]? = some M_309 := rfl
  refine Rn.seg (pc' := 54) (ls' := [(0, .ref 97), (1, .int x1), (2, .int x2), (3, .int x3), (4, .int x4), (5, .int x5), (6, .int x6), (7, .int x7)]) (st' := [.int (σ.1 97 18), .ref 109, .int (1 : Int32), .int x7]) (σ' := σ) hM 6 rfl ?_
  refine Rn.iald hM rfl rfl h.1 ?_
  refine Rn.br (c := ((1 : Int32) <<< ((σ.1 109 (σ.1 97 18).toNatClampNeg) &&& 31)) ≤ x7) (a := 96) (b := 59) (ls' := [(0, .ref 97), (1, .int x1), (2, .int x2), (3, .int x3), (4, .int x4), (5, .int x5), (6, .int x6), (7, .int x7)]) (st' := []) (σ' := σ) hM 2 rfl (fun c => ?_) (fun c => ?_)
  · replace h := h.2.1 c
    refine Rn.seg (pc' := 97) (ls' := [(0, .ref 97), (1, .int x1), (2, .int x2), (3, .int x3), (4, .int x4), (5, .int x5), (6, .int x6), (7, .int x7)]) (st' := [.ref 97]) (σ' := σ) hM 1 rfl ?_
    obtain ⟨Qc, hq, h⟩ := h
    refine Rn.cV hM rfl rfl (by decide) hq (fun σ1 hw => ?_)
    replace h := h σ1 hw
    refine Rn.brN (c := x3 = 0) (a := 109) (b := 104) (ls' := [(0, .ref 97), (1, .int x1), (2, .int x2), (3, .int x3), (4, .int x4), (5, .int x5), (6, .int x6), (7, .int x7)]) (st' := []) (σ' := σ1) hM 2 rfl (fun c => ?_) (fun c => ?_)
    · replace h := h.2 c
      refine Rn.seg (pc' := 111) (ls' := [(0, .ref 97), (1, .int x1), (2, .int x2), (3, .int x3), (4, .int x4), (5, .int x5), (6, .int x6), (7, .int x7)]) (st' := [.int x6]) (σ' := σ1) hM 1 rfl ?_
      exact Rn.ret hM rfl rfl h
    · replace h := h.1 c
      refine Rn.seg (pc' := 111) (ls' := [(0, .ref 97), (1, .int x1), (2, .int x2), (3, .int x3), (4, .int x4), (5, .int x5), (6, .int x6), (7, .int x7)]) (st' := [.int x5]) (σ' := σ1) hM 2 rfl ?_
      exact Rn.ret hM rfl rfl h
  · replace h := h.2.2 c
    refine Rn.seg (pc' := 64) (ls' := [(0, .ref 97), (1, .int x1), (2, .int x2), (3, .int x3), (4, .int x4), (5, .int x5), (6, .int x6), (7, .int x7)]) (st' := [.int x2, .int x1, .int x7, .ref 97]) (σ' := σ) hM 4 rfl ?_
    obtain ⟨Qc, hq, h⟩ := h
    refine Rn.cI hM rfl rfl (by decide) hq (fun w3 σ2 hw => ?_)
    replace h := h w3 σ2 hw
    refine Rn.br (c := x6 < (w3 - x4)) (a := 82) (b := 79) (ls' := [(8, .int (w3 - x4)), (0, .ref 97), (1, .int x1), (2, .int x2), (3, .int x3), (4, .int x4), (5, .int x5), (6, .int x6), (7, .int x7)]) (st' := []) (σ' := σ2) hM 6 rfl (fun c => ?_) (fun c => ?_)
    · replace h := h.1 c
      refine Rn.seg (pc' := 43) (ls' := [(7, .int (x7 + (1 : Int32))), (6, .int (w3 - x4)), (5, .int x7), (8, .int (w3 - x4)), (0, .ref 97), (1, .int x1), (2, .int x2), (3, .int x3), (4, .int x4)]) (st' := []) (σ' := σ2) hM 6 rfl ?_
      exact Rn.sub h (subL_cons rfl (subL_cons rfl (subL_cons rfl (subL_cons rfl (subL_cons rfl (subL_cons rfl (subL_cons rfl (subL_cons rfl subL_nil)))))))) (show ndL _ from (by decide : List.Nodup ([0, 1, 2, 3, 4, 5, 6, 7] : List Nat)))
    · replace h := h.2 c
      refine Rn.seg (pc' := 43) (ls' := [(7, .int (x7 + (1 : Int32))), (8, .int (w3 - x4)), (0, .ref 97), (1, .int x1), (2, .int x2), (3, .int x3), (4, .int x4), (5, .int x5), (6, .int x6)]) (st' := []) (σ' := σ2) hM 3 rfl ?_
      exact Rn.sub h (subL_cons rfl (subL_cons rfl (subL_cons rfl (subL_cons rfl (subL_cons rfl (subL_cons rfl (subL_cons rfl (subL_cons rfl subL_nil)))))))) (show ndL _ from (by decide : List.Nodup ([0, 1, 2, 3, 4, 5, 6, 7] : List Nat)))
/-! gains -/
theorem z01 {x : Int32} (h : 0 ≤ x.toInt ∧ x.toInt ≤ 1) : x = 0 ∨ x = 1 := by
  have z0 : (0 : Int32).toInt = 0 := by decide
  have z1 : (1 : Int32).toInt = 1 := by decide
  by_cases e : x.toInt = 0
  · exact Or.inl (Int32.toInt_inj.mp (by rw [e, z0]))
  · exact Or.inr (Int32.toInt_inj.mp (by rw [z1]; omega))
/-- the game that was kept aside -/
def WS (N : Nat) (σ : Sg) : Prop := ((σ.1 97 80) = 0 → (σ.1 97 83).toInt = 0) ∧ (¬ (σ.1 97 80) = 0 → PL N (σ.1 147) (wn (σ.1 97 83)) (σ.1 148) (σ.1 149))
theorem WS.keep {N : Nat} {ms : List (Nat × Nat × Nat)} {σ σ' : Sg} (hN : N ≤ 16) (h : WS N σ) (hG : Gl ms σ σ') (ho : offD ms [(12, 80, 80), (12, 83, 83), (103, 0, 3), (104, 0, 15), (105, 0, 15)] = true) : WS N σ' := by
  have e80 : σ'.1 97 80 = σ.1 97 80 := hG.get (q := 97) (κ := 12) rfl (off_in ho rfl)
  have e83 : σ'.1 97 83 = σ.1 97 83 := hG.get (q := 97) (κ := 12) rfl (off_in ho rfl)
  have e147 : ∀ k, k ≤ 3 → σ'.1 147 k = σ.1 147 k := fun k hk => hG.get (q := 147) (κ := 103) rfl (off_in ho (inM_of (a := 0) (b := 3) (by decide) (by omega) hk))
  have e148 : ∀ k, k ≤ 15 → σ'.1 148 k = σ.1 148 k := fun k hk => hG.get (q := 148) (κ := 104) rfl (off_in ho (inM_of (a := 0) (b := 15) (by decide) (by omega) hk))
  have e149 : ∀ k, k ≤ 15 → σ'.1 149 k = σ.1 149 k := fun k hk => hG.get (q := 149) (κ := 105) rfl (off_in ho (inM_of (a := 0) (b := 15) (by decide) (by omega) hk))
  refine ⟨by rw [e80, e83]; exact h.1, fun h0 => ?_⟩
  rw [e80] at h0
  rw [e83]
  have hp := h.2 h0
  have := hp.1
  exact hp.congr (fun p hp => e147 p hp) (fun k hk => e148 k (by omega)) (fun k hk => e149 k (by omega))
def mdKA : List (Nat × Nat × Nat) := [(12, 80, 80), (12, 82, 83), (103, 0, 3), (104, 0, 15), (105, 0, 15)]
def kaI (i j : Nat) (σ0 σ : Sg) : Prop := (∀ p, p < i → σ.1 147 p = σ0.1 125 p) ∧ (∀ k, k < j → σ.1 148 k = σ0.1 126 k ∧ σ.1 149 k = σ0.1 127 k) ∧ σ.1 97 80 = σ0.1 97 45 ∧ σ.1 97 83 = σ0.1 97 48
theorem ka_51 {d N : Nat} {σ0 : Sg} (h : GI N σ0) : ∀ (m k : Nat) (x1 : Int32) (σ : Sg), k + m = 16 → x1.toInt = (k : Int) → Gl mdKA σ0 σ → kaI 4 k σ0 σ → Rn PRG d 305 51 [(0, .ref 97), (1, .int x1)] [] σ (fun v σ' => v = none ∧ Gl mdKA σ0 σ' ∧ GI N σ' ∧ WS N σ') := by
  have sixt : (16 : Int32).toInt = 16 := by decide
  have hN := h.2.2.1.le
  intro m
  induction m with
  | zero =>
    intro k x1 σ hk h1 hG hh
    have : k = 16 := by omega
    subst this
    refine w_305_51 σ x1 ⟨fun _ => ⟨rfl, hG, h.keep hG rfl (h.2.1.keep hG rfl) (h.2.2.2.1.keep hG rfl), ?_⟩, fun c => absurd (by rw [le_i sixt h1]; omega) c⟩
    obtain ⟨a1, a2, a3, a4⟩ := hh
    obtain ⟨g1, g2⟩ := h.2.2.2.2.1
    refine ⟨by rw [a3, a4]; exact g1, fun h0 => ?_⟩
    rw [a3] at h0
    rw [a4]
    have hp := g2 h0
    have := hp.1
    exact hp.congr (fun p hp => a1 p (by omega)) (fun k hk => (a2 k (by omega)).1) (fun k hk => (a2 k (by omega)).2)
  | succ m ih =>
    intro k x1 σ hk h1 hG hh
    have hx1 : (x1 + (1 : Int32)).toInt = ((k + 1 : Nat) : Int) := by
      rw [add_lit (k := 1) h1 (by decide) (by unfold FL; omega) (by unfold FH; omega)]; push_cast; rfl
    have hin : inR x1 16 = true := inR_ok (by clear hx1; omega) (by clear hx1; omega)
    refine w_305_51 σ x1 ⟨fun c => ?_, fun _ => ⟨hin, hin, hin, hin, ?_⟩⟩
    · rw [le_i sixt h1] at c; omega
    rw [cn_of h1]
    have hc := tyA hG.1 (q := 126) (κ := 82) (k := k) (a := 0) (b := 15) (lo := -1) (hi := 15) rfl rfl (by omega) (by clear hx1; omega)
    have hw := tyA hG.1 (q := 127) (κ := 83) (k := k) (a := 0) (b := 15) (lo := 0) (hi := 3) rfl rfl (by omega) (by clear hx1; omega)
    have g1 : Gl mdKA σ0 (s1 σ 148 k (σ.1 126 k)) := wrG (κ := 104) (a := 0) (b := 15) (vl := -1) (vh := 15) rfl rfl hG rfl (Nat.zero_le _) (by clear hx1; omega) hc.1 hc.2
    have g2 := wrG (x := σ.1 127 k) (q := 149) (k := k) (κ := 105) (a := 0) (b := 15) (vl := 0) (vh := 3) rfl rfl g1 rfl (Nat.zero_le _) (by clear hx1; omega) hw.1 hw.2
    obtain ⟨a1, a2, a3, a4⟩ := hh
    have e126 : σ.1 126 k = σ0.1 126 k := hG.get (q := 126) (κ := 82) rfl rfl
    have e127 : σ.1 127 k = σ0.1 127 k := hG.get (q := 127) (κ := 83) rfl rfl
    refine ih (k + 1) _ _ (by omega) hx1 g2 ⟨fun p hp => ?_, fun j hj => ?_, ?_, ?_⟩
    · rw [s1_off (by omega), s1_off (by omega)]; exact a1 p hp
    · by_cases hjk : j = k
      · subst hjk
        exact ⟨by rw [s1_off (by omega), s1_on, e126], by rw [s1_on, e127]⟩
      · have := a2 j (by omega)
        exact ⟨by rw [s1_off (by omega), s1_off (by omega)]; exact this.1, by rw [s1_off (by omega), s1_off (by omega)]; exact this.2⟩
    · rw [s1_off (by omega), s1_off (by omega)]; exact a3
    · rw [s1_off (by omega), s1_off (by omega)]; exact a4
theorem ka_26 {d N : Nat} {σ0 : Sg} (h : GI N σ0) : ∀ (m k : Nat) (x1 : Int32) (σ : Sg), k + m = 4 → x1.toInt = (k : Int) → Gl mdKA σ0 σ → kaI k 0 σ0 σ → Rn PRG d 305 26 [(0, .ref 97), (1, .int x1)] [] σ (fun v σ' => v = none ∧ Gl mdKA σ0 σ' ∧ GI N σ' ∧ WS N σ') := by
  have four : (4 : Int32).toInt = 4 := by decide
  intro m
  induction m with
  | zero =>
    intro k x1 σ hk h1 hG hh
    have : k = 4 := by omega
    subst this
    exact w_305_26 σ x1 ⟨fun _ => ka_51 h 16 0 0 σ rfl rfl hG hh, fun c => absurd (by rw [le_i four h1]; omega) c⟩
  | succ m ih =>
    intro k x1 σ hk h1 hG hh
    have hx1 : (x1 + (1 : Int32)).toInt = ((k + 1 : Nat) : Int) := by
      rw [add_lit (k := 1) h1 (by decide) (by unfold FL; omega) (by unfold FH; omega)]; push_cast; rfl
    have hin : inR x1 4 = true := inR_ok (by clear hx1; omega) (by clear hx1; omega)
    refine w_305_26 σ x1 ⟨fun c => ?_, fun _ => ⟨hin, hin, ?_⟩⟩
    · rw [le_i four h1] at c; omega
    rw [cn_of h1]
    have hc := tyA hG.1 (q := 125) (κ := 81) (k := k) (a := 0) (b := 3) (lo := 0) (hi := 65535) rfl rfl (by omega) (by clear hx1; omega)
    have e125 : σ.1 125 k = σ0.1 125 k := hG.get (q := 125) (κ := 81) rfl rfl
    obtain ⟨a1, a2, a3, a4⟩ := hh
    refine ih (k + 1) _ _ (by omega) hx1 (wrG (κ := 103) (a := 0) (b := 3) (vl := 0) (vh := 65535) rfl rfl hG rfl (Nat.zero_le _) (by clear hx1; omega) hc.1 hc.2) ⟨fun p hp => ?_, fun j hj => absurd hj (by omega), ?_, ?_⟩
    · by_cases hpk : p = k
      · subst hpk; rw [s1_on, e125]
      · rw [s1_off (by omega)]; exact a1 p (by omega)
    · rw [s1_off (by omega)]; exact a3
    · rw [s1_off (by omega)]; exact a4
theorem keepsAside_OK {d N : Nat} {σ : Sg} (h : GI N σ) : OkV PRG d 305 [.ref 97] σ (fun σ' => Gl mdKA σ σ' ∧ GI N σ' ∧ WS N σ') := by
  have h45 := tyF h.1 (q := 97) (κ := 12) (k := 45) (lo := 0) (hi := 1) rfl rfl
  have h47 := tyF h.1 (q := 97) (κ := 12) (k := 47) (lo := 0) (hi := 3) rfl rfl
  have h48 := tyF h.1 (q := 97) (κ := 12) (k := 48) (lo := 0) (hi := 16) rfl rfl
  have k1 : Gl mdKA σ (s1 σ 97 80 (σ.1 97 45)) := wrG (κ := 12) (a := 80) (b := 80) (vl := 0) (vh := 1) rfl rfl (Gl.refl h.1) rfl (Nat.le_refl _) (Nat.le_refl _) h45.1 h45.2
  have k2 := wrG (x := σ.1 97 47) (q := 97) (k := 82) (κ := 12) (a := 82) (b := 82) (vl := 0) (vh := 3) rfl rfl k1 rfl (Nat.le_refl _) (Nat.le_refl _) h47.1 h47.2
  have k3 := wrG (x := σ.1 97 48) (q := 97) (k := 83) (κ := 12) (a := 83) (b := 83) (vl := 0) (vh := 16) rfl rfl k2 rfl (Nat.le_refl _) (Nat.le_refl _) h48.1 h48.2
  refine ⟨M_305, rfl, Nat.le_of_ble_eq_true rfl, w_305_0 σ ⟨z01 h45, ka_26 h 4 0 0 _ rfl rfl k3 ⟨fun p hp => absurd hp (by omega), fun k hk => absurd hk (by omega), ?_, ?_⟩⟩⟩
  · rw [s1_off (by omega), s1_off (by omega), s1_on]
  · rw [s1_on]
def mdTU : List (Nat × Nat × Nat) := [(12, 45, 45), (12, 47, 48), (81, 0, 3), (82, 0, 15), (83, 0, 15)]
def tuI (i j : Nat) (σ0 σ : Sg) : Prop := (∀ p, p < i → σ.1 125 p = σ0.1 147 p) ∧ (∀ k, k < j → σ.1 126 k = σ0.1 148 k ∧ σ.1 127 k = σ0.1 149 k) ∧ σ.1 97 45 = σ0.1 97 80 ∧ σ.1 97 48 = σ0.1 97 83
theorem tu_51 {d N : Nat} {σ0 : Sg} (h : GI N σ0) (hW : WS N σ0) : ∀ (m k : Nat) (x1 : Int32) (σ : Sg), k + m = 16 → x1.toInt = (k : Int) → Gl mdTU σ0 σ → tuI 4 k σ0 σ → Rn PRG d 306 51 [(0, .ref 97), (1, .int x1)] [] σ (fun v σ' => v = none ∧ GI N σ') := by
  have sixt : (16 : Int32).toInt = 16 := by decide
  obtain ⟨ht, hI, hP, hT, hS, hH⟩ := h
  have hN := hP.le
  intro m
  induction m with
  | zero =>
    intro k x1 σ hk h1 hG hh
    have : k = 16 := by omega
    subst this
    obtain ⟨a1, a2, a3, a4⟩ := hh
    refine w_306_51 σ x1 ⟨fun _ => ⟨rfl, hG.1, hI.keep hG rfl, pack_of (hG.get (q := 97) (κ := 12) rfl rfl) (hG.get (q := 106) (κ := 62) rfl rfl) (hG.get (q := 107) (κ := 63) rfl rfl) hP, hT.keep hG rfl, ⟨by rw [a3, a4]; exact hW.1, fun h0 => ?_⟩, hH.keep hN.2 hG rfl⟩, fun c => absurd (by rw [le_i sixt h1]; omega) c⟩
    rw [a3] at h0
    rw [a4]
    have hp := hW.2 h0
    have := hp.1
    exact hp.congr (fun p hp => a1 p (by omega)) (fun k hk => (a2 k (by omega)).1) (fun k hk => (a2 k (by omega)).2)
  | succ m ih =>
    intro k x1 σ hk h1 hG hh
    have hx1 : (x1 + (1 : Int32)).toInt = ((k + 1 : Nat) : Int) := by
      rw [add_lit (k := 1) h1 (by decide) (by unfold FL; omega) (by unfold FH; omega)]; push_cast; rfl
    have hin : inR x1 16 = true := inR_ok (by clear hx1; omega) (by clear hx1; omega)
    refine w_306_51 σ x1 ⟨fun c => ?_, fun _ => ⟨hin, hin, hin, hin, ?_⟩⟩
    · rw [le_i sixt h1] at c; omega
    rw [cn_of h1]
    have hc := tyA hG.1 (q := 148) (κ := 104) (k := k) (a := 0) (b := 15) (lo := -1) (hi := 15) rfl rfl (by omega) (by clear hx1; omega)
    have hw := tyA hG.1 (q := 149) (κ := 105) (k := k) (a := 0) (b := 15) (lo := 0) (hi := 3) rfl rfl (by omega) (by clear hx1; omega)
    have g1 : Gl mdTU σ0 (s1 σ 126 k (σ.1 148 k)) := wrG (κ := 82) (a := 0) (b := 15) (vl := -1) (vh := 15) rfl rfl hG rfl (Nat.zero_le _) (by clear hx1; omega) hc.1 hc.2
    have g2 := wrG (x := σ.1 149 k) (q := 127) (k := k) (κ := 83) (a := 0) (b := 15) (vl := 0) (vh := 3) rfl rfl g1 rfl (Nat.zero_le _) (by clear hx1; omega) hw.1 hw.2
    obtain ⟨a1, a2, a3, a4⟩ := hh
    have e148 : σ.1 148 k = σ0.1 148 k := hG.get (q := 148) (κ := 104) rfl rfl
    have e149 : σ.1 149 k = σ0.1 149 k := hG.get (q := 149) (κ := 105) rfl rfl
    refine ih (k + 1) _ _ (by omega) hx1 g2 ⟨fun p hp => ?_, fun j hj => ?_, ?_, ?_⟩
    · rw [s1_off (by omega), s1_off (by omega)]; exact a1 p hp
    · by_cases hjk : j = k
      · subst hjk
        exact ⟨by rw [s1_off (by omega), s1_on, e148], by rw [s1_on, e149]⟩
      · have := a2 j (by omega)
        exact ⟨by rw [s1_off (by omega), s1_off (by omega)]; exact this.1, by rw [s1_off (by omega), s1_off (by omega)]; exact this.2⟩
    · rw [s1_off (by omega), s1_off (by omega)]; exact a3
    · rw [s1_off (by omega), s1_off (by omega)]; exact a4
theorem tu_26 {d N : Nat} {σ0 : Sg} (h : GI N σ0) (hW : WS N σ0) : ∀ (m k : Nat) (x1 : Int32) (σ : Sg), k + m = 4 → x1.toInt = (k : Int) → Gl mdTU σ0 σ → tuI k 0 σ0 σ → Rn PRG d 306 26 [(0, .ref 97), (1, .int x1)] [] σ (fun v σ' => v = none ∧ GI N σ') := by
  have four : (4 : Int32).toInt = 4 := by decide
  intro m
  induction m with
  | zero =>
    intro k x1 σ hk h1 hG hh
    have : k = 4 := by omega
    subst this
    exact w_306_26 σ x1 ⟨fun _ => tu_51 h hW 16 0 0 σ rfl rfl hG hh, fun c => absurd (by rw [le_i four h1]; omega) c⟩
  | succ m ih =>
    intro k x1 σ hk h1 hG hh
    have hx1 : (x1 + (1 : Int32)).toInt = ((k + 1 : Nat) : Int) := by
      rw [add_lit (k := 1) h1 (by decide) (by unfold FL; omega) (by unfold FH; omega)]; push_cast; rfl
    have hin : inR x1 4 = true := inR_ok (by clear hx1; omega) (by clear hx1; omega)
    refine w_306_26 σ x1 ⟨fun c => ?_, fun _ => ⟨hin, hin, ?_⟩⟩
    · rw [le_i four h1] at c; omega
    rw [cn_of h1]
    have hc := tyA hG.1 (q := 147) (κ := 103) (k := k) (a := 0) (b := 3) (lo := 0) (hi := 65535) rfl rfl (by omega) (by clear hx1; omega)
    have e147 : σ.1 147 k = σ0.1 147 k := hG.get (q := 147) (κ := 103) rfl rfl
    obtain ⟨a1, a2, a3, a4⟩ := hh
    refine ih (k + 1) _ _ (by omega) hx1 (wrG (κ := 81) (a := 0) (b := 3) (vl := 0) (vh := 65535) rfl rfl hG rfl (Nat.zero_le _) (by clear hx1; omega) hc.1 hc.2) ⟨fun p hp => ?_, fun j hj => absurd hj (by omega), ?_, ?_⟩
    · by_cases hpk : p = k
      · subst hpk; rw [s1_on, e147]
      · rw [s1_off (by omega)]; exact a1 p (by omega)
    · rw [s1_off (by omega)]; exact a3
    · rw [s1_off (by omega)]; exact a4
theorem takesUp_OK {d N : Nat} {σ : Sg} (h : GI N σ) (hW : WS N σ) : OkV PRG d 306 [.ref 97] σ (fun σ' => GI N σ') := by
  have h80 := tyF h.1 (q := 97) (κ := 12) (k := 80) (lo := 0) (hi := 1) rfl rfl
  have h82 := tyF h.1 (q := 97) (κ := 12) (k := 82) (lo := 0) (hi := 3) rfl rfl
  have h83 := tyF h.1 (q := 97) (κ := 12) (k := 83) (lo := 0) (hi := 16) rfl rfl
  have k1 : Gl mdTU σ (s1 σ 97 45 (σ.1 97 80)) := wrG (κ := 12) (a := 45) (b := 45) (vl := 0) (vh := 1) rfl rfl (Gl.refl h.1) rfl (Nat.le_refl _) (Nat.le_refl _) h80.1 h80.2
  have k2 := wrG (x := σ.1 97 82) (q := 97) (k := 47) (κ := 12) (a := 47) (b := 47) (vl := 0) (vh := 3) rfl rfl k1 rfl (Nat.le_refl _) (Nat.le_refl _) h82.1 h82.2
  have k3 := wrG (x := σ.1 97 83) (q := 97) (k := 48) (κ := 12) (a := 48) (b := 48) (vl := 0) (vh := 16) rfl rfl k2 rfl (Nat.le_refl _) (Nat.le_refl _) h83.1 h83.2
  refine ⟨M_306, rfl, Nat.le_of_ble_eq_true rfl, w_306_0 σ ⟨z01 h80, tu_26 h hW 4 0 0 _ rfl rfl k3 ⟨fun p hp => absurd hp (by omega), fun k hk => absurd hk (by omega), ?_, ?_⟩⟩⟩
  · rw [s1_off (by omega), s1_off (by omega), s1_on]
  · rw [s1_on]
def mdTB : List (Nat × Nat × Nat) := [(12, 44, 44), (79, 0, 13), (80, 0, 399), (12, 59, 61), (85, 0, 3), (93, 0, 3), (94, 0, 15), (95, 0, 3), (12, 69, 69), (12, 71, 71), (96, 0, 3), (97, 0, 3), (98, 0, 3), (99, 0, 3), (92, 0, 262143), (101, 0, 15), (102, 0, 79), (12, 78, 79), (12, 53, 55), (86, 0, 2), (87, 0, 2), (88, 0, 2), (89, 0, 15), (81, 0, 3), (84, 0, 15), (12, 45, 45), (12, 47, 48), (82, 0, 15), (83, 0, 15)]
theorem hasSide_OK {N n : Nat} {x1 x2 : Int32} {σ : Sg} (h : RD N n σ) : OkI PRG 10 303 [.ref 97, .int x1, .int x2] σ (fun _ σ' => Gl [] σ σ' ∧ RD N n σ') := by
  refine OkI.deep (OkI.mono ((c_303.lift2 rfl).atI h.1.1 h.1.2.1 (avsC avM (avsC avF (avsC avF avsN))) rfl rfl rfl) (fun w σ' hq => ?_)) (show 0 ≤ 10 by omega)
  have g : Gl [] σ σ' := hq.1.mono rfl
  exact ⟨g, h.keep (g.mono rfl) (h.1.keep g rfl hq.2.1 (h.1.2.2.2.1.keep g rfl))⟩
theorem tb_43 {N n : Nat} {x1 x2 x3 x4 x5 w0 X : Int32} {σ0 σs : Sg} {Q : Option Value → Sg → Prop} (hF : TW N n w0 σs) (hp0 : 0 ≤ w0.toInt) (hm : myP σs w0 X) (g0 : Gl mdTB σ0 σs) (K : ∀ σ', GI N σ' → (σ'.1 97 48).toInt = ((n + 1 : Nat) : Int) → ¬ σ'.1 97 45 = 0 → Gl mdTB σ0 σ' → Rn PRG (10 + 1) 304 21 [(0, .ref 97), (1, .int x1), (2, .int x2), (3, .int x3), (4, .int x4), (5, .int x5)] [] σ' Q) : ∀ (m k : Nat) (x6 x7 : Int32) (σ : Sg), k + m = N → x7.toInt = (k : Int) → RD N n σ → Gl mdMeans σs σ → σ.1 97 78 = X → (∀ i, bt x6 i = true → bt X i = true) → Rn PRG (10 + 1) 304 43 [(0, .ref 97), (1, .int x1), (2, .int x2), (3, .int x3), (4, .int x4), (5, .int x5), (6, .int x6), (7, .int x7)] [] σ Q := by
  have hX := hF.lt hp0 hm
  have hXs := hF.some hp0 hm
  have turn : ∀ σ : Sg, RD N n σ → Gl mdMeans σs σ → TW N n w0 σ := by
    intro σ hR g
    obtain ⟨w1, hF1, h1⟩ := hR.tf
    rw [hF.same hF1 g hp0 h1] at hF1
    exact hF1
  have lay : ∀ (σ : Sg) (w : Int32), RD N n σ → Gl mdMeans σs σ → (∃ c : Nat, c < N ∧ w.toInt = (c : Int) ∧ bt X c = true) → OkI PRG 10 235 [.ref 97, .int w0, .int w] σ (fun _ σ' => GI N σ' ∧ (σ'.1 97 48).toInt = ((n + 1 : Nat) : Int) ∧ ¬ σ'.1 97 45 = 0 ∧ Gl mdTB σ0 σ') := by
    intro σ w hR g ⟨c, c1, c2, c3⟩
    have hN := hR.1.2.2.1.le
    have hbt := my_bt hF.2.1 hp0 (by omega) hm c3
    refine OkI.mono (plays_OK (d := 10) (turn σ hR g) hp0 c2 c1 ⟨by rw [g.get (q := 125) (κ := 81) rfl rfl]; exact hbt.1, fun ⟨k, k1, k2, k3⟩ => hbt.2 ⟨k, k1, ?_, ?_⟩⟩) (fun _ σ' h => ⟨h.1, h.2.1, h.2.2.1, (g0.trans g rfl).trans h.2.2.2 rfl⟩)
    · rw [← g.get (q := 127) (κ := 83) (k := k) rfl rfl]; exact k2
    · rw [← g.get (q := 126) (κ := 82) (k := k) rfl rfl]; exact k3
  intro m
  induction m with
  | zero =>
    intro k x6 x7 σ hk h7 hR g h78 hx
    have hg := hR.1
    refine w_304_43 σ x1 x2 x3 x4 x5 x6 x7 ⟨_, cards_OK hg.1 hg.2.2.1, fun w2 σ1 hq => ?_⟩
    obtain ⟨e1, hw⟩ := hq
    rw [e1]
    refine ⟨fun _ => ⟨_, (turn σ hR g).2.2.2.2 7, fun w4 σ3 hq => ?_⟩, fun c => absurd (by rw [le_i hw h7]; omega) c⟩
    obtain ⟨e3, e4⟩ := hq
    rw [e3, e4]
    refine ⟨fun _ => ⟨_, bestOf_OK (d := 9) hg.1 hg.2.2.1, fun w10 σ9 hq => ?_⟩, fun hne => ⟨_, bestOf_OK (d := 9) hg.1 hg.2.2.1, fun w6 σ5 hq => ?_⟩⟩
    · obtain ⟨e9, hb⟩ := hq
      rw [e9]
      rw [h78] at hb
      exact ⟨_, lay σ w10 hR g (bs_card hb hXs), fun w12 σ11 hq => K σ11 hq.1 hq.2.1 hq.2.2.1 hq.2.2.2⟩
    · obtain ⟨e5, hb⟩ := hq
      rw [e5]
      obtain ⟨c, c1, c2, c3⟩ := bs_card hb (nz_card hne hx hX)
      exact ⟨_, lay σ w6 hR g ⟨c, c1, c2, hx c c3⟩, fun w8 σ7 hq => K σ7 hq.1 hq.2.1 hq.2.2.1 hq.2.2.2⟩
  | succ m ih =>
    intro k x6 x7 σ hk h7 hR g h78 hx
    have hg := hR.1
    have hN := hg.2.2.1.le
    refine w_304_43 σ x1 x2 x3 x4 x5 x6 x7 ⟨_, cards_OK hg.1 hg.2.2.1, fun w2 σ1 hq => ?_⟩
    obtain ⟨e1, hw⟩ := hq
    rw [e1]
    refine ⟨fun c => ?_, fun _ => ?_⟩
    · rw [le_i hw h7] at c; omega
    have hx7 : (x7 + (1 : Int32)).toInt = ((k + 1 : Nat) : Int) := by
      rw [add_lit (k := 1) h7 (by decide) (by unfold FL; omega) (by unfold FH; omega)]; push_cast; rfl
    rw [h78, bit_1 h7 (by clear hx7; omega)]
    refine ⟨fun hb => ⟨_, (turn σ hR g).2.2.2.2 7, fun w14 σ13 hq => ?_⟩, fun _ => ih (k + 1) _ _ σ (by omega) hx7 hR g h78 hx⟩
    obtain ⟨e3, e4⟩ := hq
    rw [e3]
    refine ⟨_, hasSide_OK hR, fun w16 σ15 hq => ?_⟩
    obtain ⟨ga, ra⟩ := hq
    have ha78 : σ15.1 97 78 = X := by rw [ga.get (q := 97) (κ := 12) rfl rfl]; exact h78
    have hadd := bt_add h7 (by clear hx7; omega) hx hb
    refine ⟨fun _ => ih (k + 1) _ _ σ15 (by omega) hx7 ra (g.trans ga rfl) ha78 hadd, fun _ => ⟨_, OkI.deep (liesWith_OK ra (by clear hx7; omega)) (by omega), fun w18 σ17 hq => ?_⟩⟩
    obtain ⟨gb, rb⟩ := hq
    have hb78 : σ17.1 97 78 = X := by rw [gb.get (q := 97) (κ := 12) rfl rfl]; exact ha78
    have gab := (g.trans ga rfl).trans gb rfl
    exact ⟨fun _ => ih (k + 1) _ _ σ17 (by omega) hx7 rb gab hb78 hadd, fun _ => ih (k + 1) _ _ σ17 (by omega) hx7 rb gab hb78 hx⟩
theorem tb_21 {N : Nat} {x1 x2 x3 x5 : Int32} {σ0 : Sg} {Q : Option Value → Sg → Prop} (K : ∀ (x4 : Int32) (σ' : Sg), GI N σ' → Gl mdTB σ0 σ' → Rn PRG (10 + 1) 304 6 [(0, .ref 97), (1, .int x1), (2, .int x2), (3, .int x3), (4, .int x4), (5, .int (x5 + (1 : Int32)))] [] σ' Q) : ∀ (m n : Nat) (x4 : Int32) (σ : Sg), n + m = N → GI N σ → (σ.1 97 48).toInt = (n : Int) → ¬ σ.1 97 45 = 0 → Gl mdTB σ0 σ → Rn PRG (10 + 1) 304 21 [(0, .ref 97), (1, .int x1), (2, .int x2), (3, .int x3), (4, .int x4), (5, .int x5)] [] σ Q := by
  intro m
  induction m with
  | zero =>
    intro n x4 σ hm hg hn hd g0
    refine w_304_21 σ x1 x2 x3 x4 x5 ⟨_, cards_OK hg.1 hg.2.2.1, fun w2 σ1 hq => ?_⟩
    obtain ⟨e1, hw⟩ := hq
    rw [e1]
    refine ⟨fun _ => ⟨_, OkI.deep ((c_245.lift2 rfl).atI hg.1 hg.2.1 (avsC avM (avsC avF avsN)) rfl rfl rfl) (show 3 ≤ 10 by omega), fun w4 σ3 hq => ?_⟩, fun c => absurd (by rw [le_i hw hn]; omega) c⟩
    have g : Gl [] σ σ3 := hq.1.mono rfl
    exact K _ σ3 (hg.keep g rfl hq.2.1 (hg.2.2.2.1.keep g rfl)) (g0.trans g rfl)
  | succ m ih =>
    intro n x4 σ hm hg hn hd g0
    have hR : RD N n σ := ⟨hg, hn, hd, by omega⟩
    obtain ⟨w0, hF, hp0⟩ := hR.tf
    refine w_304_21 σ x1 x2 x3 x4 x5 ⟨_, cards_OK hg.1 hg.2.2.1, fun w2 σ1 hq => ?_⟩
    obtain ⟨e1, hw⟩ := hq
    rw [e1]
    refine ⟨fun c => ?_, fun _ => ⟨_, fillMeans_OK hg hF.2.1 hF.2.2.2.1 hF.2.2.2.2 hp0, fun σ5 hq => ?_⟩⟩
    · rw [le_i hw hn] at c; omega
    obtain ⟨g5, hg5, hm5⟩ := hq
    exact tb_43 hF hp0 hm5 g0 (fun σ' a b c e => ih (n + 1) x4 σ' (by omega) a b c e) N 0 0 0 σ5 (by omega) rfl (hR.keep g5 hg5) g5 rfl (fun i hi => by rw [bt_0] at hi; cases hi)
theorem tb_6 {N : Nat} {x1 x2 x3 : Int32} {σ0 : Sg} (h3 : x3.toInt ≤ 20) : ∀ (m : Nat) (x4 x5 : Int32) (σ : Sg), GI N σ → Gl mdTB σ0 σ → 0 ≤ x5.toInt → (x3.toInt - x5.toInt).toNat ≤ m → Rn PRG (10 + 1) 304 6 [(0, .ref 97), (1, .int x1), (2, .int x2), (3, .int x3), (4, .int x4), (5, .int x5)] [] σ (fun v σ' => ∃ w : Int32, v = some (.int w) ∧ GI N σ' ∧ Gl mdTB σ0 σ') := by
  intro m
  induction m with
  | zero =>
    intro x4 x5 σ hg g0 h5 hm
    exact w_304_6 σ x1 x2 x3 x4 x5 ⟨fun _ => ⟨_, rfl, hg, g0⟩, fun c => absurd (by rw [Int32.le_iff_toInt_le]; omega) c⟩
  | succ m ih =>
    intro x4 x5 σ hg g0 h5 hm
    refine w_304_6 σ x1 x2 x3 x4 x5 ⟨fun _ => ⟨_, rfl, hg, g0⟩, fun c => ⟨_, deal_D (d := 8) hg, fun w2 σ1 hq => ?_⟩⟩
    rw [Int32.le_iff_toInt_le] at c
    obtain ⟨hg1, hd1, g1⟩ := hq
    obtain ⟨n, hn, -⟩ := played_rg hg1.1
    have hle := hg1.le hd1 hn
    have hx5 : (x5 + (1 : Int32)).toInt = x5.toInt + 1 := add_lit (k := 1) rfl (by decide) (by unfold FL; omega) (by unfold FH; omega)
    exact tb_21 (fun x4 σ' a b => ih x4 _ σ' a b (by omega) (by omega)) (N - n) n x4 σ1 (by clear hx5; omega) hg1 hn hd1 (g0.trans g1 rfl)
theorem tricksBy_OK {N : Nat} {x1 x2 x3 : Int32} {σ : Sg} (h : GI N σ) (h3 : x3.toInt ≤ 20) : OkI PRG 11 304 [.ref 97, .int x1, .int x2, .int x3] σ (fun _ σ' => GI N σ' ∧ Gl mdTB σ σ') :=
  ⟨M_304, rfl, Nat.le_of_ble_eq_true rfl, w_304_0 σ x1 x2 x3 (tb_6 h3 _ 0 0 σ h (Gl.refl h.1) (by decide) (Nat.le_refl _))⟩
theorem canGain_OK {N : Nat} {x1 : Int32} {σ : Sg} (h : GI N σ) : OkI PRG 11 307 [.ref 97, .int x1] σ (fun w σ' => GI N σ' ∧ (¬ w = 0 → x1.toInt ≤ 20)) := by
  refine OkI.deep (OkI.mono ((c_307.lift2 rfl).atIm h.1 h.2.1 (avsC avM (avsC avF avsN)) rfl rfl rfl) (fun w σ' hq => ?_)) (show 1 ≤ 11 by omega)
  have g : Gl [] σ σ' := hq.1.mono rfl
  refine ⟨h.keep g rfl hq.2.1 (h.2.2.2.1.keep g rfl), fun hn => ?_⟩
  obtain ⟨y, h1, h2, h3⟩ := hq.2.2.2 hn (1, 1, 20) List.mem_cons_self
  cases h1
  exact h3
theorem gain_OK {N : Nat} {x1 x2 x3 : Int32} {σ : Sg} (h : GI N σ) : OkI PRG 12 308 [.ref 97, .int x1, .int x2, .int x3] σ (fun _ σ' => GI N σ') := by
  have hN := h.2.2.1.le
  refine ⟨M_308, rfl, Nat.le_of_ble_eq_true rfl, w_308_0 σ x1 x2 x3 ⟨_, areCustoms_OK (d := 10) h.1 h.2.1, fun w2 σ1 hq => ?_⟩⟩
  rw [hq]
  refine ⟨fun _ => ⟨_, rfl, h⟩, fun _ => ⟨_, canGain_OK h, fun w4 σ3 hq => ?_⟩⟩
  obtain ⟨h3, c3⟩ := hq
  refine ⟨fun _ => ⟨_, rfl, h3⟩, fun hne => ⟨_, keepsAside_OK h3, fun σ5 hq => ?_⟩⟩
  obtain ⟨-, h5, w5⟩ := hq
  refine ⟨_, tricksBy_OK h5 (c3 hne), fun w7 σ6 hq => ?_⟩
  obtain ⟨h6, g6⟩ := hq
  refine ⟨_, tricksBy_OK h6 (c3 hne), fun w9 σ8 hq => ?_⟩
  obtain ⟨h8, g8⟩ := hq
  exact ⟨_, takesUp_OK h8 ((w5.keep hN.2 g6 rfl).keep hN.2 g8 rfl), fun σ10 hq => ⟨_, rfl, hq⟩⟩
theorem one_c : ∀ c : Nat, c ≤ 6 → ((1 : Int32) <<< (nI c &&& 31)).toInt ≤ 64 := by decide
theorem bs_43 {N : Nat} {x1 x2 x3 x4 : Int32} (h2 : x2.toInt ≤ 20) : ∀ (m : Nat) (x5 x6 x7 : Int32) (σ : Sg), GI N σ → WS N σ → 0 ≤ x7.toInt → (64 - x7.toInt).toNat ≤ m → Rn PRG (11 + 1) 309 43 [(0, .ref 97), (1, .int x1), (2, .int x2), (3, .int x3), (4, .int x4), (5, .int x5), (6, .int x6), (7, .int x7)] [] σ (fun v σ' => ∃ w : Int32, v = some (.int w) ∧ GI N σ') := by
  have hcu : ∀ {σ : Sg}, GI N σ → ((1 : Int32) <<< ((σ.1 109 (σ.1 97 18).toNatClampNeg) &&& 31)).toInt ≤ 64 := by
    intro σ hg
    have hl := live_wn hg.1
    have hcl : (σ.1 97 18).toNatClampNeg ≤ 1 := hl.2
    have hc := tyA hg.1 (q := 109) (κ := 65) (k := (σ.1 97 18).toNatClampNeg) (a := 0) (b := 1) (lo := 0) (hi := 6) rfl rfl (by omega) hcl
    have e := i_nI (y := σ.1 109 (σ.1 97 18).toNatClampNeg) (n := (σ.1 109 (σ.1 97 18).toNatClampNeg).toInt.toNat) (by omega) (by omega)
    rw [e]
    exact one_c _ (by omega)
  intro m
  induction m with
  | zero =>
    intro x5 x6 x7 σ hg hW h7 hm
    refine w_309_43 σ x1 x2 x3 x4 x5 x6 x7 ⟨live_in hg.1, fun _ => ⟨_, takesUp_OK hg hW, fun σ1 hq => ⟨fun _ => ⟨_, rfl, hq⟩, fun _ => ⟨_, rfl, hq⟩⟩⟩, fun c => absurd ?_ c⟩
    rw [Int32.le_iff_toInt_le]
    have := hcu hg
    omega
  | succ m ih =>
    intro x5 x6 x7 σ hg hW h7 hm
    have hN := hg.2.2.1.le
    refine w_309_43 σ x1 x2 x3 x4 x5 x6 x7 ⟨live_in hg.1, fun _ => ⟨_, takesUp_OK hg hW, fun σ1 hq => ⟨fun _ => ⟨_, rfl, hq⟩, fun _ => ⟨_, rfl, hq⟩⟩⟩, fun c => ⟨_, tricksBy_OK hg h2, fun w3 σ2 hq => ?_⟩⟩
    obtain ⟨h3, g3⟩ := hq
    rw [Int32.le_iff_toInt_le] at c
    have := hcu hg
    have hx7 : (x7 + (1 : Int32)).toInt = x7.toInt + 1 := add_lit (k := 1) rfl (by decide) (by unfold FL; omega) (by unfold FH; omega)
    have hW3 := hW.keep hN.2 g3 rfl
    exact ⟨fun _ => ih _ _ _ σ2 h3 hW3 (by omega) (by omega), fun _ => ih _ _ _ σ2 h3 hW3 (by omega) (by omega)⟩
theorem bestSet_OK {N : Nat} {x1 x2 x3 : Int32} {σ : Sg} (h : GI N σ) : OkI PRG 12 309 [.ref 97, .int x1, .int x2, .int x3] σ (fun _ σ' => GI N σ') := by
  have hN := h.2.2.1.le
  refine ⟨M_309, rfl, Nat.le_of_ble_eq_true rfl, w_309_0 σ x1 x2 x3 ⟨_, canGain_OK h, fun w2 σ1 hq => ?_⟩⟩
  obtain ⟨h1, c1⟩ := hq
  refine ⟨fun _ => ⟨_, rfl, h1⟩, fun hne => ⟨_, in_OK, fun w4 σ3 hq => ?_⟩⟩
  rw [hq.1]
  refine ⟨fun _ => ⟨_, rfl, h1⟩, fun _ => ⟨_, keepsAside_OK h1, fun σ5 hq => ?_⟩⟩
  obtain ⟨-, h5, w5⟩ := hq
  refine ⟨_, tricksBy_OK h5 (c1 hne), fun w7 σ6 hq => ?_⟩
  obtain ⟨h6, g6⟩ := hq
  exact bs_43 (c1 hne) _ _ _ 1 σ6 h6 (w5.keep hN.2 g6 rfl) (by decide) (Nat.le_refl _)
