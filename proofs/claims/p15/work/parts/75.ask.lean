/-! the answers by means: what must hold -/
set_option maxRecDepth 100000 in
theorem w_290_0 {d : Nat} {Q : Option Value → Sg → Prop} (σ : Sg) (h : (∃ Qc : Int32 → Sg → Prop, OkI PRG d 230 [.ref 97] σ Qc ∧ ∀ w2 σ1, Qc w2 σ1 → (∃ Qc : Int32 → Sg → Prop, OkI PRG d 226 [.ref 97, .int w2] σ1 Qc ∧ ∀ w4 σ3, Qc w4 σ3 → (∃ Qc : Int32 → Sg → Prop, OkI PRG d 209 [.int w4] σ3 Qc ∧ ∀ w6 σ5, Qc w6 σ5 → (((3 : Int32) < w6 → Q (some (.int (0 : Int32))) σ5) ∧ (¬ (3 : Int32) < w6 → Q (some (.int (1 : Int32))) σ5)))))) : Rn PRG (d + 1) 290 0 [(0, .ref 97)] [] σ Q := by
  have hM : PRG[290]? = some M_290 := rfl
  refine Rn.seg (pc' := 2) (ls' := [(0, .ref 97)]) (st' := [.ref 97, .ref 97]) (σ' := σ) hM 2 rfl ?_
  obtain ⟨Qc, hq, h⟩ := h
  refine Rn.cI hM rfl rfl (by decide) hq (fun w2 σ1 hw => ?_)
  replace h := h w2 σ1 hw
  refine Rn.seg (pc' := 5) (ls' := [(0, .ref 97)]) (st' := [.int w2, .ref 97]) (σ' := σ1) hM 0 rfl ?_
  obtain ⟨Qc, hq, h⟩ := h
  refine Rn.cI hM rfl rfl (by decide) hq (fun w4 σ3 hw => ?_)
  replace h := h w4 σ3 hw
  refine Rn.seg (pc' := 8) (ls' := [(0, .ref 97)]) (st' := [.int w4]) (σ' := σ3) hM 0 rfl ?_
  obtain ⟨Qc, hq, h⟩ := h
  refine Rn.cI hM rfl rfl (by decide) hq (fun w6 σ5 hw => ?_)
  replace h := h w6 σ5 hw
  refine Rn.br (c := (3 : Int32) < w6) (a := 19) (b := 15) (ls' := [(0, .ref 97)]) (st' := []) (σ' := σ5) hM 2 rfl (fun c => ?_) (fun c => ?_)
  · replace h := h.1 c
    refine Rn.seg (pc' := 20) (ls' := [(0, .ref 97)]) (st' := [.int (0 : Int32)]) (σ' := σ5) hM 1 rfl ?_
    exact Rn.ret hM rfl rfl h
  · replace h := h.2 c
    refine Rn.seg (pc' := 20) (ls' := [(0, .ref 97)]) (st' := [.int (1 : Int32)]) (σ' := σ5) hM 2 rfl ?_
    exact Rn.ret hM rfl rfl h
set_option maxRecDepth 100000 in
theorem w_291_0 {d : Nat} {Q : Option Value → Sg → Prop} (σ : Sg) (x1 : Int32) (h : (∃ Qc : Int32 → Sg → Prop, OkI PRG d 230 [.ref 97] σ Qc ∧ ∀ w2 σ1, Qc w2 σ1 → ((w2 < 0 → Q (some (.int (0 : Int32))) σ1) ∧ (¬ w2 < 0 → (∃ Qc : Int32 → Sg → Prop, OkI PRG d 218 [.ref 97, .int x1] σ1 Qc ∧ ∀ w4 σ3, Qc w4 σ3 → ((w4 = 0 → Q (some (.int (0 : Int32))) σ3) ∧ (¬ w4 = 0 → Q (some (.int (1 : Int32))) σ3))))))) : Rn PRG (d + 1) 291 0 [(0, .ref 97), (1, .int x1)] [] σ Q := by
  have hM : PRG[291]? = some M_291 := rfl
  refine Rn.seg (pc' := 1) (ls' := [(0, .ref 97), (1, .int x1)]) (st' := [.ref 97]) (σ' := σ) hM 1 rfl ?_
  obtain ⟨Qc, hq, h⟩ := h
  refine Rn.cI hM rfl rfl (by decide) hq (fun w2 σ1 hw => ?_)
  replace h := h w2 σ1 hw
  refine Rn.br (c := w2 < 0) (a := 19) (b := 7) (ls' := [(0, .ref 97), (1, .int x1)]) (st' := []) (σ' := σ1) hM 1 rfl (fun c => ?_) (fun c => ?_)
  · replace h := h.1 c
    refine Rn.seg (pc' := 20) (ls' := [(0, .ref 97), (1, .int x1)]) (st' := [.int (0 : Int32)]) (σ' := σ1) hM 1 rfl ?_
    exact Rn.ret hM rfl rfl h
  · replace h := h.2 c
    refine Rn.seg (pc' := 9) (ls' := [(0, .ref 97), (1, .int x1)]) (st' := [.int x1, .ref 97]) (σ' := σ1) hM 2 rfl ?_
    obtain ⟨Qc, hq, h⟩ := h
    refine Rn.cI hM rfl rfl (by decide) hq (fun w4 σ3 hw => ?_)
    replace h := h w4 σ3 hw
    refine Rn.br (c := w4 = 0) (a := 19) (b := 15) (ls' := [(0, .ref 97), (1, .int x1)]) (st' := []) (σ' := σ3) hM 1 rfl (fun c => ?_) (fun c => ?_)
    · replace h := h.1 c
      refine Rn.seg (pc' := 20) (ls' := [(0, .ref 97), (1, .int x1)]) (st' := [.int (0 : Int32)]) (σ' := σ3) hM 1 rfl ?_
      exact Rn.ret hM rfl rfl h
    · replace h := h.2 c
      refine Rn.seg (pc' := 20) (ls' := [(0, .ref 97), (1, .int x1)]) (st' := [.int (1 : Int32)]) (σ' := σ3) hM 2 rfl ?_
      exact Rn.ret hM rfl rfl h
set_option maxRecDepth 100000 in
theorem w_292_0 {d : Nat} {Q : Option Value → Sg → Prop} (σ : Sg) (x1 x2 : Int32) (h : (∃ Qc : Int32 → Sg → Prop, OkI PRG d 291 [.ref 97, .int x2] σ Qc ∧ ∀ w2 σ1, Qc w2 σ1 → ((w2 = 0 → Q (some (.long (Int64.ofNat 18446744073709551615))) σ1) ∧ (¬ w2 = 0 → (∃ Qc : Int32 → Sg → Prop, OkI PRG d 217 [.ref 97, .int x1] σ1 Qc ∧ ∀ w4 σ3, Qc w4 σ3 → ((w4 = 0 → Q (some (.long (Int64.ofNat 18446744073709551615))) σ3) ∧ (¬ w4 = 0 → (∃ Qc : Int32 → Sg → Prop, OkI PRG d 233 [.ref 97] σ3 Qc ∧ ∀ w6 σ5, Qc w6 σ5 → ((((w6 >>> (x1 &&& 31)) &&& (1 : Int32)) = 0 → Q (some (.long (Int64.ofNat 18446744073709551615))) σ5) ∧ (¬ ((w6 >>> (x1 &&& 31)) &&& (1 : Int32)) = 0 → (∃ Qc : Int32 → Sg → Prop, OkI PRG d 290 [.ref 97] σ5 Qc ∧ ∀ w8 σ7, Qc w8 σ7 → ((w8 = 0 → Q (some (.long (Int64.ofNat 18446744073709551614))) σ7) ∧ (¬ w8 = 0 → (∃ Qc : Sg → Prop, OkV PRG d 289 [.ref 97, .int x2] σ7 Qc ∧ ∀ σ9, Qc σ9 → (inR x1 16 = true ∧ Q (some (.long (σ9.2 144 x1.toNatClampNeg))) σ9))))))))))))))) : Rn PRG (d + 1) 292 0 [(0, .ref 97), (1, .int x1), (2, .int x2)] [] σ Q := by
  have hM : PRG[292]? = some M_292 := rfl
  refine Rn.seg (pc' := 2) (ls' := [(0, .ref 97), (1, .int x1), (2, .int x2)]) (st' := [.int x2, .ref 97]) (σ' := σ) hM 2 rfl ?_
  obtain ⟨Qc, hq, h⟩ := h
  refine Rn.cI hM rfl rfl (by decide) hq (fun w2 σ1 hw => ?_)
  replace h := h w2 σ1 hw
  refine Rn.br (c := w2 = 0) (a := 27) (b := 8) (ls' := [(0, .ref 97), (1, .int x1), (2, .int x2)]) (st' := []) (σ' := σ1) hM 1 rfl (fun c => ?_) (fun c => ?_)
  · replace h := h.1 c
    refine Rn.seg (pc' := 30) (ls' := [(0, .ref 97), (1, .int x1), (2, .int x2)]) (st' := [.long (Int64.ofNat 18446744073709551615)]) (σ' := σ1) hM 1 rfl ?_
    exact Rn.ret hM rfl rfl h
  · replace h := h.2 c
    refine Rn.seg (pc' := 10) (ls' := [(0, .ref 97), (1, .int x1), (2, .int x2)]) (st' := [.int x1, .ref 97]) (σ' := σ1) hM 2 rfl ?_
    obtain ⟨Qc, hq, h⟩ := h
    refine Rn.cI hM rfl rfl (by decide) hq (fun w4 σ3 hw => ?_)
    replace h := h w4 σ3 hw
    refine Rn.br (c := w4 = 0) (a := 27) (b := 16) (ls' := [(0, .ref 97), (1, .int x1), (2, .int x2)]) (st' := []) (σ' := σ3) hM 1 rfl (fun c => ?_) (fun c => ?_)
    · replace h := h.1 c
      refine Rn.seg (pc' := 30) (ls' := [(0, .ref 97), (1, .int x1), (2, .int x2)]) (st' := [.long (Int64.ofNat 18446744073709551615)]) (σ' := σ3) hM 1 rfl ?_
      exact Rn.ret hM rfl rfl h
    · replace h := h.2 c
      refine Rn.seg (pc' := 17) (ls' := [(0, .ref 97), (1, .int x1), (2, .int x2)]) (st' := [.ref 97]) (σ' := σ3) hM 1 rfl ?_
      obtain ⟨Qc, hq, h⟩ := h
      refine Rn.cI hM rfl rfl (by decide) hq (fun w6 σ5 hw => ?_)
      replace h := h w6 σ5 hw
      refine Rn.brN (c := ((w6 >>> (x1 &&& 31)) &&& (1 : Int32)) = 0) (a := 31) (b := 27) (ls' := [(0, .ref 97), (1, .int x1), (2, .int x2)]) (st' := []) (σ' := σ5) hM 5 rfl (fun c => ?_) (fun c => ?_)
      · replace h := h.2 c
        refine Rn.seg (pc' := 32) (ls' := [(0, .ref 97), (1, .int x1), (2, .int x2)]) (st' := [.ref 97]) (σ' := σ5) hM 1 rfl ?_
        obtain ⟨Qc, hq, h⟩ := h
        refine Rn.cI hM rfl rfl (by decide) hq (fun w8 σ7 hw => ?_)
        replace h := h w8 σ7 hw
        refine Rn.brN (c := w8 = 0) (a := 42) (b := 38) (ls' := [(0, .ref 97), (1, .int x1), (2, .int x2)]) (st' := []) (σ' := σ7) hM 1 rfl (fun c => ?_) (fun c => ?_)
        · replace h := h.2 c
          refine Rn.seg (pc' := 44) (ls' := [(0, .ref 97), (1, .int x1), (2, .int x2)]) (st' := [.int x2, .ref 97]) (σ' := σ7) hM 2 rfl ?_
          obtain ⟨Qc, hq, h⟩ := h
          refine Rn.cV hM rfl rfl (by decide) hq (fun σ9 hw => ?_)
          replace h := h σ9 hw
          refine Rn.seg (pc' := 52) (ls' := [(0, .ref 97), (1, .int x1), (2, .int x2)]) (st' := [.int x1, .ref 144]) (σ' := σ9) hM 3 rfl ?_
          refine Rn.lald hM rfl rfl h.1 ?_
          refine Rn.seg (pc' := 53) (ls' := [(0, .ref 97), (1, .int x1), (2, .int x2)]) (st' := [.long (σ9.2 144 x1.toNatClampNeg)]) (σ' := σ9) hM 0 rfl ?_
          exact Rn.ret hM rfl rfl h.2
        · replace h := h.1 c
          refine Rn.seg (pc' := 41) (ls' := [(0, .ref 97), (1, .int x1), (2, .int x2)]) (st' := [.long (Int64.ofNat 18446744073709551614)]) (σ' := σ7) hM 1 rfl ?_
          exact Rn.ret hM rfl rfl h
      · replace h := h.1 c
        refine Rn.seg (pc' := 30) (ls' := [(0, .ref 97), (1, .int x1), (2, .int x2)]) (st' := [.long (Int64.ofNat 18446744073709551615)]) (σ' := σ5) hM 1 rfl ?_
        exact Rn.ret hM rfl rfl h
set_option maxRecDepth 100000 in
theorem w_293_0 {d : Nat} {Q : Option Value → Sg → Prop} (σ : Sg) (x1 : Int32) (h : Rn PRG (d + 1) 293 4 [(0, .ref 97), (1, .int x1), (2, .int (-1 : Int32)), (3, .int (0 : Int32))] [] σ Q) : Rn PRG (d + 1) 293 0 [(0, .ref 97), (1, .int x1)] [] σ Q := by
  have hM : PRG[293]? = some M_293 := rfl
  refine Rn.seg (pc' := 4) (ls' := [(3, .int (0 : Int32)), (2, .int (-1 : Int32)), (0, .ref 97), (1, .int x1)]) (st' := []) (σ' := σ) hM 4 rfl ?_
  exact Rn.sub h (subL_cons rfl (subL_cons rfl (subL_cons rfl (subL_cons rfl subL_nil)))) (show ndL _ from (by decide : List.Nodup ([0, 1, 2, 3] : List Nat)))
set_option maxRecDepth 100000 in
theorem w_293_4 {d : Nat} {Q : Option Value → Sg → Prop} (σ : Sg) (x1 x2 x3 : Int32) (h : (∃ Qc : Int32 → Sg → Prop, OkI PRG d 210 [.ref 97] σ Qc ∧ ∀ w2 σ1, Qc w2 σ1 → ((w2 ≤ x3 → Q (some (.int x2)) σ1) ∧ (¬ w2 ≤ x3 → ((((x1 >>> (x3 &&& 31)) &&& (1 : Int32)) = (1 : Int32) → ((x2 = (-1 : Int32) → Rn PRG (d + 1) 293 4 [(0, .ref 97), (1, .int x1), (2, .int x3), (3, .int (x3 + (1 : Int32)))] [] σ1 Q) ∧ (¬ x2 = (-1 : Int32) → (inR x3 16 = true ∧ (inR x2 16 = true ∧ (((lg_cmp (σ1.2 144 x3.toNatClampNeg) (σ1.2 144 x2.toNatClampNeg)) ≤ 0 → Rn PRG (d + 1) 293 4 [(0, .ref 97), (1, .int x1), (2, .int x2), (3, .int (x3 + (1 : Int32)))] [] σ1 Q) ∧ (¬ (lg_cmp (σ1.2 144 x3.toNatClampNeg) (σ1.2 144 x2.toNatClampNeg)) ≤ 0 → Rn PRG (d + 1) 293 4 [(0, .ref 97), (1, .int x1), (2, .int x3), (3, .int (x3 + (1 : Int32)))] [] σ1 Q))))))) ∧ (¬ ((x1 >>> (x3 &&& 31)) &&& (1 : Int32)) = (1 : Int32) → Rn PRG (d + 1) 293 4 [(0, .ref 97), (1, .int x1), (2, .int x2), (3, .int (x3 + (1 : Int32)))] [] σ1 Q)))))) : Rn PRG (d + 1) 293 4 [(0, .ref 97), (1, .int x1), (2, .int x2), (3, .int x3)] [] σ Q := by
  have hM : PRG[293]? = some M_293 := rfl
  refine Rn.seg (pc' := 6) (ls' := [(0, .ref 97), (1, .int x1), (2, .int x2), (3, .int x3)]) (st' := [.ref 97, .int x3]) (σ' := σ) hM 2 rfl ?_
  obtain ⟨Qc, hq, h⟩ := h
  refine Rn.cI hM rfl rfl (by decide) hq (fun w2 σ1 hw => ?_)
  replace h := h w2 σ1 hw
  refine Rn.br (c := w2 ≤ x3) (a := 50) (b := 12) (ls' := [(0, .ref 97), (1, .int x1), (2, .int x2), (3, .int x3)]) (st' := []) (σ' := σ1) hM 1 rfl (fun c => ?_) (fun c => ?_)
  · replace h := h.1 c
    refine Rn.seg (pc' := 51) (ls' := [(0, .ref 97), (1, .int x1), (2, .int x2), (3, .int x3)]) (st' := [.int x2]) (σ' := σ1) hM 1 rfl ?_
    exact Rn.ret hM rfl rfl h
  · replace h := h.2 c
    refine Rn.brN (c := ((x1 >>> (x3 &&& 31)) &&& (1 : Int32)) = (1 : Int32)) (a := 44) (b := 21) (ls' := [(0, .ref 97), (1, .int x1), (2, .int x2), (3, .int x3)]) (st' := []) (σ' := σ1) hM 7 rfl (fun c => ?_) (fun c => ?_)
    · replace h := h.2 c
      refine Rn.seg (pc' := 4) (ls' := [(3, .int (x3 + (1 : Int32))), (0, .ref 97), (1, .int x1), (2, .int x2)]) (st' := []) (σ' := σ1) hM 2 rfl ?_
      exact Rn.sub h (subL_cons rfl (subL_cons rfl (subL_cons rfl (subL_cons rfl subL_nil)))) (show ndL _ from (by decide : List.Nodup ([0, 1, 2, 3] : List Nat)))
    · replace h := h.1 c
      refine Rn.br (c := x2 = (-1 : Int32)) (a := 42) (b := 26) (ls' := [(0, .ref 97), (1, .int x1), (2, .int x2), (3, .int x3)]) (st' := []) (σ' := σ1) hM 3 rfl (fun c => ?_) (fun c => ?_)
      · replace h := h.1 c
        refine Rn.seg (pc' := 4) (ls' := [(3, .int (x3 + (1 : Int32))), (2, .int x3), (0, .ref 97), (1, .int x1)]) (st' := []) (σ' := σ1) hM 4 rfl ?_
        exact Rn.sub h (subL_cons rfl (subL_cons rfl (subL_cons rfl (subL_cons rfl subL_nil)))) (show ndL _ from (by decide : List.Nodup ([0, 1, 2, 3] : List Nat)))
      · replace h := h.2 c
        refine Rn.seg (pc' := 31) (ls' := [(0, .ref 97), (1, .int x1), (2, .int x2), (3, .int x3)]) (st' := [.int x3, .ref 144]) (σ' := σ1) hM 3 rfl ?_
        refine Rn.lald hM rfl rfl h.1 ?_
        refine Rn.seg (pc' := 37) (ls' := [(0, .ref 97), (1, .int x1), (2, .int x2), (3, .int x3)]) (st' := [.int x2, .ref 144, .long (σ1.2 144 x3.toNatClampNeg)]) (σ' := σ1) hM 3 rfl ?_
        refine Rn.lald hM rfl rfl h.2.1 ?_
        refine Rn.br (c := (lg_cmp (σ1.2 144 x3.toNatClampNeg) (σ1.2 144 x2.toNatClampNeg)) ≤ 0) (a := 44) (b := 42) (ls' := [(0, .ref 97), (1, .int x1), (2, .int x2), (3, .int x3)]) (st' := []) (σ' := σ1) hM 2 rfl (fun c => ?_) (fun c => ?_)
        · replace h := h.2.2.1 c
          refine Rn.seg (pc' := 4) (ls' := [(3, .int (x3 + (1 : Int32))), (0, .ref 97), (1, .int x1), (2, .int x2)]) (st' := []) (σ' := σ1) hM 2 rfl ?_
          exact Rn.sub h (subL_cons rfl (subL_cons rfl (subL_cons rfl (subL_cons rfl subL_nil)))) (show ndL _ from (by decide : List.Nodup ([0, 1, 2, 3] : List Nat)))
        · replace h := h.2.2.2 c
          refine Rn.seg (pc' := 4) (ls' := [(3, .int (x3 + (1 : Int32))), (2, .int x3), (0, .ref 97), (1, .int x1)]) (st' := []) (σ' := σ1) hM 4 rfl ?_
          exact Rn.sub h (subL_cons rfl (subL_cons rfl (subL_cons rfl (subL_cons rfl subL_nil)))) (show ndL _ from (by decide : List.Nodup ([0, 1, 2, 3] : List Nat)))
set_option maxRecDepth 100000 in
theorem w_294_0 {d : Nat} {Q : Option Value → Sg → Prop} (σ : Sg) (x1 : Int32) (h : (∃ Qc : Int32 → Sg → Prop, OkI PRG d 291 [.ref 97, .int x1] σ Qc ∧ ∀ w2 σ1, Qc w2 σ1 → ((w2 = 0 → Q (some (.int (-1 : Int32))) σ1) ∧ (¬ w2 = 0 → (∃ Qc : Int32 → Sg → Prop, OkI PRG d 290 [.ref 97] σ1 Qc ∧ ∀ w4 σ3, Qc w4 σ3 → ((w4 = 0 → Q (some (.int (-2 : Int32))) σ3) ∧ (¬ w4 = 0 → (∃ Qc : Sg → Prop, OkV PRG d 289 [.ref 97, .int x1] σ3 Qc ∧ ∀ σ5, Qc σ5 → (∃ Qc : Int32 → Sg → Prop, OkI PRG d 293 [.ref 97, .int (σ5.1 97 78)] σ5 Qc ∧ ∀ w7 σ6, Qc w7 σ6 → Q (some (.int w7)) σ6))))))))) : Rn PRG (d + 1) 294 0 [(0, .ref 97), (1, .int x1)] [] σ Q := by
  have hM : PRG[294]? = some M_294 := rfl
  refine Rn.seg (pc' := 2) (ls' := [(0, .ref 97), (1, .int x1)]) (st' := [.int x1, .ref 97]) (σ' := σ) hM 2 rfl ?_
  obtain ⟨Qc, hq, h⟩ := h
  refine Rn.cI hM rfl rfl (by decide) hq (fun w2 σ1 hw => ?_)
  replace h := h w2 σ1 hw
  refine Rn.brN (c := w2 = 0) (a := 10) (b := 8) (ls' := [(0, .ref 97), (1, .int x1)]) (st' := []) (σ' := σ1) hM 1 rfl (fun c => ?_) (fun c => ?_)
  · replace h := h.2 c
    refine Rn.seg (pc' := 11) (ls' := [(0, .ref 97), (1, .int x1)]) (st' := [.ref 97]) (σ' := σ1) hM 1 rfl ?_
    obtain ⟨Qc, hq, h⟩ := h
    refine Rn.cI hM rfl rfl (by decide) hq (fun w4 σ3 hw => ?_)
    replace h := h w4 σ3 hw
    refine Rn.brN (c := w4 = 0) (a := 20) (b := 17) (ls' := [(0, .ref 97), (1, .int x1)]) (st' := []) (σ' := σ3) hM 1 rfl (fun c => ?_) (fun c => ?_)
    · replace h := h.2 c
      refine Rn.seg (pc' := 22) (ls' := [(0, .ref 97), (1, .int x1)]) (st' := [.int x1, .ref 97]) (σ' := σ3) hM 2 rfl ?_
      obtain ⟨Qc, hq, h⟩ := h
      refine Rn.cV hM rfl rfl (by decide) hq (fun σ5 hw => ?_)
      replace h := h σ5 hw
      refine Rn.seg (pc' := 30) (ls' := [(0, .ref 97), (1, .int x1)]) (st' := [.int (σ5.1 97 78), .ref 97]) (σ' := σ5) hM 3 rfl ?_
      obtain ⟨Qc, hq, h⟩ := h
      refine Rn.cI hM rfl rfl (by decide) hq (fun w7 σ6 hw => ?_)
      replace h := h w7 σ6 hw
      refine Rn.seg (pc' := 33) (ls' := [(0, .ref 97), (1, .int x1)]) (st' := [.int w7]) (σ' := σ6) hM 0 rfl ?_
      exact Rn.ret hM rfl rfl h
    · replace h := h.1 c
      refine Rn.seg (pc' := 19) (ls' := [(0, .ref 97), (1, .int x1)]) (st' := [.int (-2 : Int32)]) (σ' := σ3) hM 1 rfl ?_
      exact Rn.ret hM rfl rfl h
  · replace h := h.1 c
    refine Rn.seg (pc' := 9) (ls' := [(0, .ref 97), (1, .int x1)]) (st' := [.int (-1 : Int32)]) (σ' := σ1) hM 1 rfl ?_
    exact Rn.ret hM rfl rfl h
set_option maxRecDepth 100000 in
theorem w_295_0 {d : Nat} {Q : Option Value → Sg → Prop} (σ : Sg) (x1 x2 x3 : Int32) (h : (∃ Qc : Int32 → Sg → Prop, OkI PRG d 291 [.ref 97, .int x2] σ Qc ∧ ∀ w2 σ1, Qc w2 σ1 → ((w2 = 0 → Q (some (.int (-1 : Int32))) σ1) ∧ (¬ w2 = 0 → (∃ Qc : Int32 → Sg → Prop, OkI PRG d 217 [.ref 97, .int x1] σ1 Qc ∧ ∀ w4 σ3, Qc w4 σ3 → ((w4 = 0 → Q (some (.int (-1 : Int32))) σ3) ∧ (¬ w4 = 0 → (∃ Qc : Int32 → Sg → Prop, OkI PRG d 233 [.ref 97] σ3 Qc ∧ ∀ w6 σ5, Qc w6 σ5 → ((((w6 >>> (x1 &&& 31)) &&& (1 : Int32)) = 0 → Q (some (.int (-1 : Int32))) σ5) ∧ (¬ ((w6 >>> (x1 &&& 31)) &&& (1 : Int32)) = 0 → (∃ Qc : Int32 → Sg → Prop, OkI PRG d 195 [.int x3, .int (0 : Int32), .int (4 : Int32)] σ5 Qc ∧ ∀ w8 σ7, Qc w8 σ7 → ((w8 = 0 → Q (some (.int (-1 : Int32))) σ7) ∧ (¬ w8 = 0 → (∃ Qc : Int32 → Sg → Prop, OkI PRG d 290 [.ref 97] σ7 Qc ∧ ∀ w10 σ9, Qc w10 σ9 → ((w10 = 0 → Q (some (.int (-2 : Int32))) σ9) ∧ (¬ w10 = 0 → (∃ Qc : Sg → Prop, OkV PRG d 289 [.ref 97, .int x2] σ9 Qc ∧ ∀ σ11, Qc σ11 → (inR (((5 : Int32) * x1) + x3) 80 = true ∧ Q (some (.int (σ11.1 146 (((5 : Int32) * x1) + x3).toNatClampNeg))) σ11)))))))))))))))))) : Rn PRG (d + 1) 295 0 [(0, .ref 97), (1, .int x1), (2, .int x2), (3, .int x3)] [] σ Q := by
  have hM : PRG[295]? = some M_295 := rfl
  refine Rn.seg (pc' := 2) (ls' := [(0, .ref 97), (1, .int x1), (2, .int x2), (3, .int x3)]) (st' := [.int x2, .ref 97]) (σ' := σ) hM 2 rfl ?_
  obtain ⟨Qc, hq, h⟩ := h
  refine Rn.cI hM rfl rfl (by decide) hq (fun w2 σ1 hw => ?_)
  replace h := h w2 σ1 hw
  refine Rn.br (c := w2 = 0) (a := 36) (b := 8) (ls' := [(0, .ref 97), (1, .int x1), (2, .int x2), (3, .int x3)]) (st' := []) (σ' := σ1) hM 1 rfl (fun c => ?_) (fun c => ?_)
  · replace h := h.1 c
    refine Rn.seg (pc' := 37) (ls' := [(0, .ref 97), (1, .int x1), (2, .int x2), (3, .int x3)]) (st' := [.int (-1 : Int32)]) (σ' := σ1) hM 1 rfl ?_
    exact Rn.ret hM rfl rfl h
  · replace h := h.2 c
    refine Rn.seg (pc' := 10) (ls' := [(0, .ref 97), (1, .int x1), (2, .int x2), (3, .int x3)]) (st' := [.int x1, .ref 97]) (σ' := σ1) hM 2 rfl ?_
    obtain ⟨Qc, hq, h⟩ := h
    refine Rn.cI hM rfl rfl (by decide) hq (fun w4 σ3 hw => ?_)
    replace h := h w4 σ3 hw
    refine Rn.br (c := w4 = 0) (a := 36) (b := 16) (ls' := [(0, .ref 97), (1, .int x1), (2, .int x2), (3, .int x3)]) (st' := []) (σ' := σ3) hM 1 rfl (fun c => ?_) (fun c => ?_)
    · replace h := h.1 c
      refine Rn.seg (pc' := 37) (ls' := [(0, .ref 97), (1, .int x1), (2, .int x2), (3, .int x3)]) (st' := [.int (-1 : Int32)]) (σ' := σ3) hM 1 rfl ?_
      exact Rn.ret hM rfl rfl h
    · replace h := h.2 c
      refine Rn.seg (pc' := 17) (ls' := [(0, .ref 97), (1, .int x1), (2, .int x2), (3, .int x3)]) (st' := [.ref 97]) (σ' := σ3) hM 1 rfl ?_
      obtain ⟨Qc, hq, h⟩ := h
      refine Rn.cI hM rfl rfl (by decide) hq (fun w6 σ5 hw => ?_)
      replace h := h w6 σ5 hw
      refine Rn.br (c := ((w6 >>> (x1 &&& 31)) &&& (1 : Int32)) = 0) (a := 36) (b := 27) (ls' := [(0, .ref 97), (1, .int x1), (2, .int x2), (3, .int x3)]) (st' := []) (σ' := σ5) hM 5 rfl (fun c => ?_) (fun c => ?_)
      · replace h := h.1 c
        refine Rn.seg (pc' := 37) (ls' := [(0, .ref 97), (1, .int x1), (2, .int x2), (3, .int x3)]) (st' := [.int (-1 : Int32)]) (σ' := σ5) hM 1 rfl ?_
        exact Rn.ret hM rfl rfl h
      · replace h := h.2 c
        refine Rn.seg (pc' := 30) (ls' := [(0, .ref 97), (1, .int x1), (2, .int x2), (3, .int x3)]) (st' := [.int (4 : Int32), .int (0 : Int32), .int x3]) (σ' := σ5) hM 3 rfl ?_
        obtain ⟨Qc, hq, h⟩ := h
        refine Rn.cI hM rfl rfl (by decide) hq (fun w8 σ7 hw => ?_)
        replace h := h w8 σ7 hw
        refine Rn.brN (c := w8 = 0) (a := 38) (b := 36) (ls' := [(0, .ref 97), (1, .int x1), (2, .int x2), (3, .int x3)]) (st' := []) (σ' := σ7) hM 1 rfl (fun c => ?_) (fun c => ?_)
        · replace h := h.2 c
          refine Rn.seg (pc' := 39) (ls' := [(0, .ref 97), (1, .int x1), (2, .int x2), (3, .int x3)]) (st' := [.ref 97]) (σ' := σ7) hM 1 rfl ?_
          obtain ⟨Qc, hq, h⟩ := h
          refine Rn.cI hM rfl rfl (by decide) hq (fun w10 σ9 hw => ?_)
          replace h := h w10 σ9 hw
          refine Rn.brN (c := w10 = 0) (a := 48) (b := 45) (ls' := [(0, .ref 97), (1, .int x1), (2, .int x2), (3, .int x3)]) (st' := []) (σ' := σ9) hM 1 rfl (fun c => ?_) (fun c => ?_)
          · replace h := h.2 c
            refine Rn.seg (pc' := 50) (ls' := [(0, .ref 97), (1, .int x1), (2, .int x2), (3, .int x3)]) (st' := [.int x2, .ref 97]) (σ' := σ9) hM 2 rfl ?_
            obtain ⟨Qc, hq, h⟩ := h
            refine Rn.cV hM rfl rfl (by decide) hq (fun σ11 hw => ?_)
            replace h := h σ11 hw
            refine Rn.seg (pc' := 62) (ls' := [(0, .ref 97), (1, .int x1), (2, .int x2), (3, .int x3)]) (st' := [.int (((5 : Int32) * x1) + x3), .ref 146]) (σ' := σ11) hM 7 rfl ?_
            refine Rn.iald hM rfl rfl h.1 ?_
            refine Rn.seg (pc' := 63) (ls' := [(0, .ref 97), (1, .int x1), (2, .int x2), (3, .int x3)]) (st' := [.int (σ11.1 146 (((5 : Int32) * x1) + x3).toNatClampNeg)]) (σ' := σ11) hM 0 rfl ?_
            exact Rn.ret hM rfl rfl h.2
          · replace h := h.1 c
            refine Rn.seg (pc' := 47) (ls' := [(0, .ref 97), (1, .int x1), (2, .int x2), (3, .int x3)]) (st' := [.int (-2 : Int32)]) (σ' := σ9) hM 1 rfl ?_
            exact Rn.ret hM rfl rfl h
        · replace h := h.1 c
          refine Rn.seg (pc' := 37) (ls' := [(0, .ref 97), (1, .int x1), (2, .int x2), (3, .int x3)]) (st' := [.int (-1 : Int32)]) (σ' := σ7) hM 1 rfl ?_
          exact Rn.ret hM rfl rfl h
set_option maxRecDepth 100000 in
theorem w_296_0 {d : Nat} {Q : Option Value → Sg → Prop} (σ : Sg) (x1 x2 : Int32) (h : (∃ Qc : Int32 → Sg → Prop, OkI PRG d 291 [.ref 97, .int x1] σ Qc ∧ ∀ w2 σ1, Qc w2 σ1 → ((w2 = 0 → Q (some (.int (-1 : Int32))) σ1) ∧ (¬ w2 = 0 → (∃ Qc : Int32 → Sg → Prop, OkI PRG d 195 [.int x2, .int (0 : Int32), .int (1 : Int32)] σ1 Qc ∧ ∀ w4 σ3, Qc w4 σ3 → ((w4 = 0 → Q (some (.int (-1 : Int32))) σ3) ∧ (¬ w4 = 0 → (∃ Qc : Int32 → Sg → Prop, OkI PRG d 290 [.ref 97] σ3 Qc ∧ ∀ w6 σ5, Qc w6 σ5 → ((w6 = 0 → Q (some (.int (-2 : Int32))) σ5) ∧ (¬ w6 = 0 → (∃ Qc : Sg → Prop, OkV PRG d 289 [.ref 97, .int x1] σ5 Qc ∧ ∀ σ7, Qc σ7 → Rn PRG (d + 1) 296 39 [(0, .ref 97), (2, .int x2), (3, .int (-1 : Int32)), (4, .int (0 : Int32))] [] σ7 Q))))))))))) : Rn PRG (d + 1) 296 0 [(0, .ref 97), (1, .int x1), (2, .int x2)] [] σ Q := by
  have hM : PRG[296]? = some M_296 := rfl
  refine Rn.seg (pc' := 2) (ls' := [(0, .ref 97), (1, .int x1), (2, .int x2)]) (st' := [.int x1, .ref 97]) (σ' := σ) hM 2 rfl ?_
  obtain ⟨Qc, hq, h⟩ := h
  refine Rn.cI hM rfl rfl (by decide) hq (fun w2 σ1 hw => ?_)
  replace h := h w2 σ1 hw
  refine Rn.br (c := w2 = 0) (a := 17) (b := 8) (ls' := [(0, .ref 97), (1, .int x1), (2, .int x2)]) (st' := []) (σ' := σ1) hM 1 rfl (fun c => ?_) (fun c => ?_)
  · replace h := h.1 c
    refine Rn.seg (pc' := 18) (ls' := [(0, .ref 97), (1, .int x1), (2, .int x2)]) (st' := [.int (-1 : Int32)]) (σ' := σ1) hM 1 rfl ?_
    exact Rn.ret hM rfl rfl h
  · replace h := h.2 c
    refine Rn.seg (pc' := 11) (ls' := [(0, .ref 97), (1, .int x1), (2, .int x2)]) (st' := [.int (1 : Int32), .int (0 : Int32), .int x2]) (σ' := σ1) hM 3 rfl ?_
    obtain ⟨Qc, hq, h⟩ := h
    refine Rn.cI hM rfl rfl (by decide) hq (fun w4 σ3 hw => ?_)
    replace h := h w4 σ3 hw
    refine Rn.brN (c := w4 = 0) (a := 19) (b := 17) (ls' := [(0, .ref 97), (1, .int x1), (2, .int x2)]) (st' := []) (σ' := σ3) hM 1 rfl (fun c => ?_) (fun c => ?_)
    · replace h := h.2 c
      refine Rn.seg (pc' := 20) (ls' := [(0, .ref 97), (1, .int x1), (2, .int x2)]) (st' := [.ref 97]) (σ' := σ3) hM 1 rfl ?_
      obtain ⟨Qc, hq, h⟩ := h
      refine Rn.cI hM rfl rfl (by decide) hq (fun w6 σ5 hw => ?_)
      replace h := h w6 σ5 hw
      refine Rn.brN (c := w6 = 0) (a := 29) (b := 26) (ls' := [(0, .ref 97), (1, .int x1), (2, .int x2)]) (st' := []) (σ' := σ5) hM 1 rfl (fun c => ?_) (fun c => ?_)
      · replace h := h.2 c
        refine Rn.seg (pc' := 31) (ls' := [(0, .ref 97), (1, .int x1), (2, .int x2)]) (st' := [.int x1, .ref 97]) (σ' := σ5) hM 2 rfl ?_
        obtain ⟨Qc, hq, h⟩ := h
        refine Rn.cV hM rfl rfl (by decide) hq (fun σ7 hw => ?_)
        replace h := h σ7 hw
        refine Rn.seg (pc' := 39) (ls' := [(4, .int (0 : Int32)), (3, .int (-1 : Int32)), (0, .ref 97), (1, .int x1), (2, .int x2)]) (st' := []) (σ' := σ7) hM 4 rfl ?_
        exact Rn.sub h (subL_cons rfl (subL_cons rfl (subL_cons rfl (subL_cons rfl subL_nil)))) (show ndL _ from (by decide : List.Nodup ([0, 2, 3, 4] : List Nat)))
      · replace h := h.1 c
        refine Rn.seg (pc' := 28) (ls' := [(0, .ref 97), (1, .int x1), (2, .int x2)]) (st' := [.int (-2 : Int32)]) (σ' := σ5) hM 1 rfl ?_
        exact Rn.ret hM rfl rfl h
    · replace h := h.1 c
      refine Rn.seg (pc' := 18) (ls' := [(0, .ref 97), (1, .int x1), (2, .int x2)]) (st' := [.int (-1 : Int32)]) (σ' := σ3) hM 1 rfl ?_
      exact Rn.ret hM rfl rfl h
set_option maxRecDepth 100000 in
theorem w_296_39 {d : Nat} {Q : Option Value → Sg → Prop} (σ : Sg) (x2 x3 x4 : Int32) (h : (∃ Qc : Int32 → Sg → Prop, OkI PRG d 210 [.ref 97] σ Qc ∧ ∀ w2 σ1, Qc w2 σ1 → ((w2 ≤ x4 → ((x2 = 0 → Q (some (.int x3)) σ1) ∧ (¬ x2 = 0 → (((σ1.1 97 79) = 0 → Q (some (.int (0 : Int32))) σ1) ∧ (¬ (σ1.1 97 79) = 0 → (inR x3 16 = true ∧ Q (some (.int (σ1.1 145 x3.toNatClampNeg))) σ1)))))) ∧ (¬ w2 ≤ x4 → (((((σ1.1 97 78) >>> (x4 &&& 31)) &&& (1 : Int32)) = 0 → Rn PRG (d + 1) 296 39 [(0, .ref 97), (2, .int x2), (3, .int x3), (4, .int (x4 + (1 : Int32)))] [] σ1 Q) ∧ (¬ (((σ1.1 97 78) >>> (x4 &&& 31)) &&& (1 : Int32)) = 0 → ((x3 = (-1 : Int32) → Rn PRG (d + 1) 296 39 [(0, .ref 97), (2, .int x2), (3, .int x4), (4, .int (x4 + (1 : Int32)))] [] σ1 Q) ∧ (¬ x3 = (-1 : Int32) → (inR x4 16 = true ∧ (inR x3 16 = true ∧ (((σ1.1 145 x3.toNatClampNeg) < (σ1.1 145 x4.toNatClampNeg) → Rn PRG (d + 1) 296 39 [(0, .ref 97), (2, .int x2), (3, .int x4), (4, .int (x4 + (1 : Int32)))] [] σ1 Q) ∧ (¬ (σ1.1 145 x3.toNatClampNeg) < (σ1.1 145 x4.toNatClampNeg) → (inR x4 16 = true ∧ (inR x3 16 = true ∧ (((σ1.1 145 x4.toNatClampNeg) = (σ1.1 145 x3.toNatClampNeg) → (inR x4 16 = true ∧ (inR x3 16 = true ∧ (((lg_cmp (σ1.2 144 x4.toNatClampNeg) (σ1.2 144 x3.toNatClampNeg)) ≤ 0 → Rn PRG (d + 1) 296 39 [(0, .ref 97), (2, .int x2), (3, .int x3), (4, .int (x4 + (1 : Int32)))] [] σ1 Q) ∧ (¬ (lg_cmp (σ1.2 144 x4.toNatClampNeg) (σ1.2 144 x3.toNatClampNeg)) ≤ 0 → Rn PRG (d + 1) 296 39 [(0, .ref 97), (2, .int x2), (3, .int x4), (4, .int (x4 + (1 : Int32)))] [] σ1 Q))))) ∧ (¬ (σ1.1 145 x4.toNatClampNeg) = (σ1.1 145 x3.toNatClampNeg) → Rn PRG (d + 1) 296 39 [(0, .ref 97), (2, .int x2), (3, .int x3), (4, .int (x4 + (1 : Int32)))] [] σ1 Q)))))))))))))))) : Rn PRG (d + 1) 296 39 [(0, .ref 97), (2, .int x2), (3, .int x3), (4, .int x4)] [] σ Q := by
  have hM : PRG[296]? = some M_296 := rfl
  refine Rn.seg (pc' := 42) (ls' := [(0, .ref 97), (2, .int x2), (3, .int x3), (4, .int x4)]) (st' := [.ref 97, .int x4]) (σ' := σ) hM 2 rfl ?_
  obtain ⟨Qc, hq, h⟩ := h
  refine Rn.cI hM rfl rfl (by decide) hq (fun w2 σ1 hw => ?_)
  replace h := h w2 σ1 hw
  refine Rn.br (c := w2 ≤ x4) (a := 126) (b := 48) (ls' := [(0, .ref 97), (2, .int x2), (3, .int x3), (4, .int x4)]) (st' := []) (σ' := σ1) hM 1 rfl (fun c => ?_) (fun c => ?_)
  · replace h := h.1 c
    refine Rn.brN (c := x2 = 0) (a := 134) (b := 130) (ls' := [(0, .ref 97), (2, .int x2), (3, .int x3), (4, .int x4)]) (st' := []) (σ' := σ1) hM 2 rfl (fun c => ?_) (fun c => ?_)
    · replace h := h.2 c
      refine Rn.brN (c := (σ1.1 97 79) = 0) (a := 145) (b := 141) (ls' := [(0, .ref 97), (2, .int x2), (3, .int x3), (4, .int x4)]) (st' := []) (σ' := σ1) hM 3 rfl (fun c => ?_) (fun c => ?_)
      · replace h := h.2 c
        refine Rn.seg (pc' := 150) (ls' := [(0, .ref 97), (2, .int x2), (3, .int x3), (4, .int x4)]) (st' := [.int x3, .ref 145]) (σ' := σ1) hM 3 rfl ?_
        refine Rn.iald hM rfl rfl h.1 ?_
        refine Rn.seg (pc' := 151) (ls' := [(0, .ref 97), (2, .int x2), (3, .int x3), (4, .int x4)]) (st' := [.int (σ1.1 145 x3.toNatClampNeg)]) (σ' := σ1) hM 0 rfl ?_
        exact Rn.ret hM rfl rfl h.2
      · replace h := h.1 c
        refine Rn.seg (pc' := 151) (ls' := [(0, .ref 97), (2, .int x2), (3, .int x3), (4, .int x4)]) (st' := [.int (0 : Int32)]) (σ' := σ1) hM 2 rfl ?_
        exact Rn.ret hM rfl rfl h
    · replace h := h.1 c
      refine Rn.seg (pc' := 151) (ls' := [(0, .ref 97), (2, .int x2), (3, .int x3), (4, .int x4)]) (st' := [.int x3]) (σ' := σ1) hM 2 rfl ?_
      exact Rn.ret hM rfl rfl h
  · replace h := h.2 c
    refine Rn.brN (c := (((σ1.1 97 78) >>> (x4 &&& 31)) &&& (1 : Int32)) = 0) (a := 63) (b := 60) (ls' := [(0, .ref 97), (2, .int x2), (3, .int x3), (4, .int x4)]) (st' := []) (σ' := σ1) hM 7 rfl (fun c => ?_) (fun c => ?_)
    · replace h := h.2 c
      refine Rn.br (c := x3 = (-1 : Int32)) (a := 117) (b := 68) (ls' := [(0, .ref 97), (2, .int x2), (3, .int x3), (4, .int x4)]) (st' := []) (σ' := σ1) hM 3 rfl (fun c => ?_) (fun c => ?_)
      · replace h := h.1 c
        refine Rn.seg (pc' := 39) (ls' := [(4, .int (x4 + (1 : Int32))), (3, .int x4), (0, .ref 97), (2, .int x2)]) (st' := []) (σ' := σ1) hM 4 rfl ?_
        exact Rn.sub h (subL_cons rfl (subL_cons rfl (subL_cons rfl (subL_cons rfl subL_nil)))) (show ndL _ from (by decide : List.Nodup ([0, 2, 3, 4] : List Nat)))
      · replace h := h.2 c
        refine Rn.seg (pc' := 74) (ls' := [(0, .ref 97), (2, .int x2), (3, .int x3), (4, .int x4)]) (st' := [.int x4, .ref 145]) (σ' := σ1) hM 3 rfl ?_
        refine Rn.iald hM rfl rfl h.1 ?_
        refine Rn.seg (pc' := 80) (ls' := [(0, .ref 97), (2, .int x2), (3, .int x3), (4, .int x4)]) (st' := [.int x3, .ref 145, .int (σ1.1 145 x4.toNatClampNeg)]) (σ' := σ1) hM 3 rfl ?_
        refine Rn.iald hM rfl rfl h.2.1 ?_
        refine Rn.br (c := (σ1.1 145 x3.toNatClampNeg) < (σ1.1 145 x4.toNatClampNeg)) (a := 117) (b := 84) (ls' := [(0, .ref 97), (2, .int x2), (3, .int x3), (4, .int x4)]) (st' := []) (σ' := σ1) hM 1 rfl (fun c => ?_) (fun c => ?_)
        · replace h := h.2.2.1 c
          refine Rn.seg (pc' := 39) (ls' := [(4, .int (x4 + (1 : Int32))), (3, .int x4), (0, .ref 97), (2, .int x2)]) (st' := []) (σ' := σ1) hM 4 rfl ?_
          exact Rn.sub h (subL_cons rfl (subL_cons rfl (subL_cons rfl (subL_cons rfl subL_nil)))) (show ndL _ from (by decide : List.Nodup ([0, 2, 3, 4] : List Nat)))
        · replace h := h.2.2.2 c
          refine Rn.seg (pc' := 90) (ls' := [(0, .ref 97), (2, .int x2), (3, .int x3), (4, .int x4)]) (st' := [.int x4, .ref 145]) (σ' := σ1) hM 3 rfl ?_
          refine Rn.iald hM rfl rfl h.1 ?_
          refine Rn.seg (pc' := 96) (ls' := [(0, .ref 97), (2, .int x2), (3, .int x3), (4, .int x4)]) (st' := [.int x3, .ref 145, .int (σ1.1 145 x4.toNatClampNeg)]) (σ' := σ1) hM 3 rfl ?_
          refine Rn.iald hM rfl rfl h.2.1 ?_
          refine Rn.brN (c := (σ1.1 145 x4.toNatClampNeg) = (σ1.1 145 x3.toNatClampNeg)) (a := 120) (b := 100) (ls' := [(0, .ref 97), (2, .int x2), (3, .int x3), (4, .int x4)]) (st' := []) (σ' := σ1) hM 1 rfl (fun c => ?_) (fun c => ?_)
          · replace h := h.2.2.2 c
            refine Rn.seg (pc' := 39) (ls' := [(4, .int (x4 + (1 : Int32))), (0, .ref 97), (2, .int x2), (3, .int x3)]) (st' := []) (σ' := σ1) hM 2 rfl ?_
            exact Rn.sub h (subL_cons rfl (subL_cons rfl (subL_cons rfl (subL_cons rfl subL_nil)))) (show ndL _ from (by decide : List.Nodup ([0, 2, 3, 4] : List Nat)))
          · replace h := h.2.2.1 c
            refine Rn.seg (pc' := 106) (ls' := [(0, .ref 97), (2, .int x2), (3, .int x3), (4, .int x4)]) (st' := [.int x4, .ref 144]) (σ' := σ1) hM 3 rfl ?_
            refine Rn.lald hM rfl rfl h.1 ?_
            refine Rn.seg (pc' := 112) (ls' := [(0, .ref 97), (2, .int x2), (3, .int x3), (4, .int x4)]) (st' := [.int x3, .ref 144, .long (σ1.2 144 x4.toNatClampNeg)]) (σ' := σ1) hM 3 rfl ?_
            refine Rn.lald hM rfl rfl h.2.1 ?_
            refine Rn.br (c := (lg_cmp (σ1.2 144 x4.toNatClampNeg) (σ1.2 144 x3.toNatClampNeg)) ≤ 0) (a := 120) (b := 117) (ls' := [(0, .ref 97), (2, .int x2), (3, .int x3), (4, .int x4)]) (st' := []) (σ' := σ1) hM 2 rfl (fun c => ?_) (fun c => ?_)
            · replace h := h.2.2.1 c
              refine Rn.seg (pc' := 39) (ls' := [(4, .int (x4 + (1 : Int32))), (0, .ref 97), (2, .int x2), (3, .int x3)]) (st' := []) (σ' := σ1) hM 2 rfl ?_
              exact Rn.sub h (subL_cons rfl (subL_cons rfl (subL_cons rfl (subL_cons rfl subL_nil)))) (show ndL _ from (by decide : List.Nodup ([0, 2, 3, 4] : List Nat)))
            · replace h := h.2.2.2 c
              refine Rn.seg (pc' := 39) (ls' := [(4, .int (x4 + (1 : Int32))), (3, .int x4), (0, .ref 97), (2, .int x2)]) (st' := []) (σ' := σ1) hM 4 rfl ?_
              exact Rn.sub h (subL_cons rfl (subL_cons rfl (subL_cons rfl (subL_cons rfl subL_nil)))) (show ndL _ from (by decide : List.Nodup ([0, 2, 3, 4] : List Nat)))
    · replace h := h.1 c
      refine Rn.seg (pc' := 39) (ls' := [(4, .int (x4 + (1 : Int32))), (0, .ref 97), (2, .int x2), (3, .int x3)]) (st' := []) (σ' := σ1) hM 3 rfl ?_
      exact Rn.sub h (subL_cons rfl (subL_cons rfl (subL_cons rfl (subL_cons rfl subL_nil)))) (show ndL _ from (by decide : List.Nodup ([0, 2, 3, 4] : List Nat)))
/-! the answers by means -/
/-- a state between calls and whose turn it is -/
def TW (N n : Nat) (w0 : Int32) (σ : Sg) : Prop := GI N σ ∧ (σ.1 97 48).toInt = (n : Int) ∧ n ≤ 16 ∧ tnP N σ w0 ∧ ∀ d, OkI PRG (d + 1 + 1 + 1) 230 [.ref 97] σ (fun w σ' => σ' = σ ∧ w = w0)
theorem TW.of {N : Nat} {σ : Sg} (h : GI N σ) : ∃ n w0, TW N n w0 σ := by
  obtain ⟨n, hn, hn16⟩ := played_rg h.1
  obtain ⟨w0, hw0, hT⟩ := turn_fix h.1 h.2.2.1
  exact ⟨n, w0, h, hn, hn16, hw0, hT⟩
theorem areCustoms_OK {d : Nat} {x1 : Int32} {σ : Sg} (ht : typed TYP σ) (hI : I2 σ) : OkI PRG (d + 1) 218 [.ref 97, .int x1] σ (fun _ σ' => σ' = σ) := by
  have h := Ok.pure (S := [218, 195]) (av := [.ref 97, .int x1]) (by decide +kernel) (by decide) (c_218.atI ht hI.1 (avsC avM (avsC avF avsN)) rfl rfl rfl)
  refine Ok.deep (Ok.mono h (fun v σ' hq => ?_)) (show 1 ≤ d + 1 by omega)
  obtain ⟨e, w, hw, -⟩ := hq
  exact ⟨w, hw, e⟩
theorem canMean_OK {d N n : Nat} {w0 x1 : Int32} {σ : Sg} (h : TW N n w0 σ) : OkI PRG (d + 1 + 1 + 1 + 1) 291 [.ref 97, .int x1] σ (fun w σ' => σ' = σ ∧ (¬ w = 0 → 0 ≤ w0.toInt)) := by
  refine ⟨M_291, rfl, Nat.le_of_ble_eq_true rfl, w_291_0 σ x1 ⟨_, h.2.2.2.2 d, fun w2 σ1 hq => ?_⟩⟩
  obtain ⟨e1, e2⟩ := hq
  rw [e1, e2]
  refine ⟨fun _ => ⟨_, rfl, rfl, fun h => absurd rfl h⟩, fun c => ⟨_, areCustoms_OK h.1.1 h.1.2.1, fun w4 σ3 hq => ?_⟩⟩
  rw [hq]
  rw [z_lt] at c
  exact ⟨fun _ => ⟨_, rfl, rfl, fun h => absurd rfl h⟩, fun _ => ⟨_, rfl, rfl, fun _ => by omega⟩⟩
theorem TW.p3 {N n : Nat} {w0 : Int32} {σ : Sg} (h : TW N n w0 σ) (h0 : 0 ≤ w0.toInt) : wn w0 ≤ 3 ∧ w0.toInt = ((wn w0 : Nat) : Int) := by
  have := (tn_play h.2.2.2.1 h0 h.2.1).2.2.1
  unfold wn
  omega
theorem isLate_OK {d N n : Nat} {w0 : Int32} {σ : Sg} (h : TW N n w0 σ) (h0 : 0 ≤ w0.toInt) : OkI PRG (d + 1 + 1 + 1 + 1) 290 [.ref 97] σ (fun _ σ' => σ' = σ) := by
  obtain ⟨p3, px⟩ := h.p3 h0
  refine ⟨M_290, rfl, Nat.le_of_ble_eq_true rfl, w_290_0 σ ⟨_, h.2.2.2.2 d, fun w2 σ1 hq => ?_⟩⟩
  obtain ⟨e1, e2⟩ := hq
  rw [e1, e2]
  refine ⟨_, handNow_OK h.1.1 px p3 h.2.1, fun w4 σ3 hq => ?_⟩
  rw [hq.1]
  refine ⟨_, bits_ok, fun w6 σ5 hq => ?_⟩
  rw [hq.1]
  exact ⟨fun _ => ⟨_, rfl, rfl⟩, fun _ => ⟨_, rfl, rfl⟩⟩
/-- the best of a set: none, if it has none, else one of it -/
def bsP (k : Nat) (x w : Int32) : Prop := (w.toInt = -1 ∧ ∀ c, c < k → bt x c = false) ∨ ∃ c : Nat, c < k ∧ w.toInt = (c : Int) ∧ bt x c = true
theorem bsP.skip {k : Nat} {x w : Int32} (h : bsP k x w) (hb : bt x k = false ∨ ¬ w.toInt = -1) : bsP (k + 1) x w := by
  rcases h with ⟨h1, h2⟩ | ⟨c, h1, h2, h3⟩
  · refine Or.inl ⟨h1, fun c hc => ?_⟩
    by_cases e : c = k
    · subst e
      rcases hb with hb | hb
      · exact hb
      · exact absurd h1 hb
    · exact h2 c (by omega)
  · exact Or.inr ⟨c, by omega, h2, h3⟩
theorem bsP.take {k : Nat} {x w : Int32} (h1 : w.toInt = (k : Int)) (h2 : bt x k = true) : bsP (k + 1) x w := Or.inr ⟨k, by omega, h1, h2⟩
theorem bs_nn {k : Nat} {x w : Int32} (h : bsP k x w) (hk : k ≤ 16) (hne : ¬ w = (-1 : Int32)) : inR w 16 = true ∧ ¬ w.toInt = -1 := by
  have m1 : (-1 : Int32).toInt = -1 := by decide
  rcases h with ⟨h1, -⟩ | ⟨c, h1, h2, -⟩
  · exact absurd (Int32.toInt_inj.mp (by rw [h1, m1])) hne
  · exact ⟨inR_ok (by omega) (by omega), by omega⟩
theorem best_go {d N : Nat} {x1 : Int32} {σ : Sg} (ht : typed TYP σ) (hP : pack N σ) : ∀ (m k : Nat) (x2 x3 : Int32), k + m = N → x3.toInt = (k : Int) → bsP k x1 x2 → Rn PRG (d + 1) 293 4 [(0, .ref 97), (1, .int x1), (2, .int x2), (3, .int x3)] [] σ (fun v σ' => ∃ w : Int32, v = some (.int w) ∧ σ' = σ ∧ bsP N x1 w) := by
  have hN := hP.le
  intro m
  induction m with
  | zero =>
    intro k x2 x3 hk h3 hb
    refine w_293_4 σ x1 x2 x3 ⟨_, cards_OK ht hP, fun w2 σ1 hq => ?_⟩
    obtain ⟨e1, hw⟩ := hq
    rw [e1]
    have : k = N := by omega
    subst this
    exact ⟨fun _ => ⟨_, rfl, rfl, hb⟩, fun c => absurd (by rw [le_i hw h3]; omega) c⟩
  | succ m ih =>
    intro k x2 x3 hk h3 hb
    refine w_293_4 σ x1 x2 x3 ⟨_, cards_OK ht hP, fun w2 σ1 hq => ?_⟩
    obtain ⟨e1, hw⟩ := hq
    rw [e1]
    refine ⟨fun c => ?_, fun _ => ?_⟩
    · rw [le_i hw h3] at c; omega
    have hx3 : (x3 + (1 : Int32)).toInt = ((k + 1 : Nat) : Int) := by
      rw [add_lit (k := 1) h3 (by decide) (by unfold FL; omega) (by unfold FH; omega)]; push_cast; rfl
    rw [bit_1 h3 (by clear hx3; omega)]
    refine ⟨fun hbt => ⟨fun _ => ih (k + 1) _ _ (by omega) hx3 (bsP.take h3 hbt), fun hne => ?_⟩, fun hbt => ih (k + 1) _ _ (by omega) hx3 (hb.skip (Or.inl (by simpa using hbt)))⟩
    obtain ⟨n1, n2⟩ := bs_nn hb (by clear hx3; omega) hne
    exact ⟨inR_ok (by clear hx3; omega) (by clear hx3; omega), n1, fun _ => ih (k + 1) _ _ (by omega) hx3 (hb.skip (Or.inr n2)), fun _ => ih (k + 1) _ _ (by omega) hx3 (bsP.take h3 hbt)⟩
theorem bestOf_OK {d N : Nat} {x1 : Int32} {σ : Sg} (ht : typed TYP σ) (hP : pack N σ) : OkI PRG (d + 1) 293 [.ref 97, .int x1] σ (fun w σ' => σ' = σ ∧ bsP N x1 w) :=
  ⟨M_293, rfl, Nat.le_of_ble_eq_true rfl, w_293_0 σ x1 (best_go ht hP N 0 _ _ (by omega) rfl (Or.inl ⟨rfl, fun c hc => absurd hc (by omega)⟩))⟩
/-- whoever is to play may lay some card -/
theorem TW.some {N n : Nat} {w0 w : Int32} {σ : Sg} (h : TW N n w0 σ) (h0 : 0 ≤ w0.toInt) (hm : myP σ w0 w) : ∃ c, c < N ∧ bt w c = true := by
  obtain ⟨hgi, hn, hn16, htn, -⟩ := h
  obtain ⟨t1, t2, t3, t4⟩ := tn_play htn h0 hn
  have hle := hgi.le t1 hn
  have hN := hgi.2.2.1.le
  have hN4 : N % 4 = 0 := by have := hgi.2.2.1.1; omega
  have hwn : wn (σ.1 97 48) = n := by unfold wn; omega
  have hPL := hgi.2.2.2.2.1.2 t1
  rw [hwn] at hPL
  have p3 : wn w0 ≤ 3 := by unfold wn; omega
  have hcount := hPL.count p3
  have hl : ¬ lvl (wn (σ.1 127 (n - n % 4))) (wn w0) < n % 4 := by
    by_cases h4 : n % 4 = 0
    · omega
    · have h1 := (hPL.order n (Nat.le_refl _)).1 (n % 4 - 1) (by omega)
      rw [show n - n % 4 + (n % 4 - 1) = n - 1 by omega] at h1
      have h2 := t4 h4
      rw [h1] at h2
      have hL := tyA hgi.1 (q := 127) (κ := 83) (k := n - n % 4) (a := 0) (b := 15) (lo := 0) (hi := 3) rfl rfl (by omega) (by omega)
      have hL3 : wn (σ.1 127 (n - n % 4)) ≤ 3 := by unfold wn; omega
      generalize wn (σ.1 127 (n - n % 4)) = L at h2 hL3 ⊢
      unfold lvl wn
      omega
  rw [if_neg hl] at hcount
  have hpos : 1 ≤ (List.range N).countP (hb (σ.1 125) (σ.1 126) (σ.1 127) n (wn w0)) := by omega
  obtain ⟨c, hc, hcb⟩ := List.countP_pos_iff.mp (Nat.lt_of_lt_of_le Nat.zero_lt_one hpos)
  have hcN : c < N := List.mem_range.mp hc
  obtain ⟨b1, b2⟩ := hb_iff.mp hcb
  rcases hm with ⟨hm, -⟩ | ⟨-, hand, z, ⟨y, hy, rfl⟩, hw⟩
  · omega
  rw [hwn] at hy
  rcases hw with rfl | ⟨hne, rfl⟩
  · refine ⟨c, hcN, ?_⟩
    rw [bt_and, b1, bt_not _ (by omega)]
    cases hyc : bt y c with
    | false => rfl
    | true =>
      obtain ⟨k, k1, k2, k3⟩ := (hy.1 c (by omega)).mp hyc
      exact absurd ⟨k, k1, by rw [k2]; unfold wn; omega, k3⟩ b2
  · obtain ⟨i, hi, hbi⟩ : ∃ i, i < 32 ∧ bt (((σ.1 125 (wn w0)) &&& (y ^^^ (-1 : Int32))) &&& z) i = true := by
      apply Classical.byContradiction
      intro hno
      apply hne
      apply bt_ext
      intro i hi
      rw [bt_0]
      cases hx : bt (((σ.1 125 (wn w0)) &&& (y ^^^ (-1 : Int32))) &&& z) i with
      | false => rfl
      | true => exact absurd ⟨i, hi, hx⟩ hno
    refine ⟨i, ?_, hbi⟩
    apply Nat.lt_of_not_le
    intro hge
    rw [bt_and, bt_and, hPL.2.2.1 (wn w0) p3 i hge] at hbi
    simp at hbi
theorem mean_OK {N : Nat} {x1 x2 : Int32} {σ : Sg} (h : GI N σ) : OkJ PRG 11 292 [.ref 97, .int x1, .int x2] σ (fun _ σ' => GI N σ') := by
  obtain ⟨n, w0, hF⟩ := TW.of h
  have hN := h.2.2.1.le
  refine ⟨M_292, rfl, Nat.le_of_ble_eq_true rfl, w_292_0 σ x1 x2 ⟨_, canMean_OK (d := 6) hF, fun w2 σ1 hq => ?_⟩⟩
  obtain ⟨e1, c0⟩ := hq
  rw [e1]
  refine ⟨fun _ => ⟨_, rfl, h⟩, fun hne => ⟨_, isCardN_OK (d := 9) h.1 h.2.2.1, fun w4 σ3 hq => ?_⟩⟩
  have h0 := c0 hne
  obtain ⟨e3, c3⟩ := hq
  rw [e3]
  refine ⟨fun _ => ⟨_, rfl, h⟩, fun hne3 => ⟨_, mayNow_OK (d := 6) h.1 h.2.2.1 hF.2.2.2.1 hF.2.2.2.2, fun w6 σ5 hq => ?_⟩⟩
  rw [hq.1]
  refine ⟨fun _ => ⟨_, rfl, h⟩, fun _ => ⟨_, isLate_OK (d := 6) hF h0, fun w8 σ7 hq => ?_⟩⟩
  rw [hq]
  refine ⟨fun _ => ⟨_, rfl, h⟩, fun _ => ⟨_, fillMeans_OK h hF.2.1 hF.2.2.2.1 hF.2.2.2.2 h0, fun σ9 hq => ⟨inR_ok (c3 hne3).1 (by have := (c3 hne3).2; omega), _, rfl, hq.2.1⟩⟩⟩
theorem choice_OK {N : Nat} {x1 : Int32} {σ : Sg} (h : GI N σ) : OkI PRG 11 294 [.ref 97, .int x1] σ (fun _ σ' => GI N σ') := by
  obtain ⟨n, w0, hF⟩ := TW.of h
  refine ⟨M_294, rfl, Nat.le_of_ble_eq_true rfl, w_294_0 σ x1 ⟨_, canMean_OK (d := 6) hF, fun w2 σ1 hq => ?_⟩⟩
  obtain ⟨e1, c0⟩ := hq
  rw [e1]
  refine ⟨fun _ => ⟨_, rfl, h⟩, fun hne => ⟨_, isLate_OK (d := 6) hF (c0 hne), fun w4 σ3 hq => ?_⟩⟩
  rw [hq]
  refine ⟨fun _ => ⟨_, rfl, h⟩, fun _ => ⟨_, fillMeans_OK h hF.2.1 hF.2.2.2.1 hF.2.2.2.2 (c0 hne), fun σ5 hq => ?_⟩⟩
  have hg := hq.2.1
  refine ⟨_, bestOf_OK (d := 9) hg.1 hg.2.2.1, fun w7 σ6 hq => ?_⟩
  rw [hq.1]
  exact ⟨_, rfl, hg⟩
theorem spread_OK {N : Nat} {x1 x2 x3 : Int32} {σ : Sg} (h : GI N σ) : OkI PRG 11 295 [.ref 97, .int x1, .int x2, .int x3] σ (fun _ σ' => GI N σ') := by
  obtain ⟨n, w0, hF⟩ := TW.of h
  have hN := h.2.2.1.le
  refine ⟨M_295, rfl, Nat.le_of_ble_eq_true rfl, w_295_0 σ x1 x2 x3 ⟨_, canMean_OK (d := 6) hF, fun w2 σ1 hq => ?_⟩⟩
  obtain ⟨e1, c0⟩ := hq
  rw [e1]
  refine ⟨fun _ => ⟨_, rfl, h⟩, fun hne => ⟨_, isCardN_OK (d := 9) h.1 h.2.2.1, fun w4 σ3 hq => ?_⟩⟩
  obtain ⟨e3, c3⟩ := hq
  rw [e3]
  refine ⟨fun _ => ⟨_, rfl, h⟩, fun hne3 => ⟨_, mayNow_OK (d := 6) h.1 h.2.2.1 hF.2.2.2.1 hF.2.2.2.2, fun w6 σ5 hq => ?_⟩⟩
  rw [hq.1]
  refine ⟨fun _ => ⟨_, rfl, h⟩, fun _ => ⟨_, in_OK, fun w8 σ7 hq => ?_⟩⟩
  obtain ⟨e7, c7⟩ := hq
  rw [e7]
  refine ⟨fun _ => ⟨_, rfl, h⟩, fun hne7 => ⟨_, isLate_OK (d := 6) hF (c0 hne), fun w10 σ9 hq => ?_⟩⟩
  rw [hq]
  refine ⟨fun _ => ⟨_, rfl, h⟩, fun _ => ⟨_, fillMeans_OK h hF.2.1 hF.2.2.2.1 hF.2.2.2.2 (c0 hne), fun σ11 hq => ⟨?_, _, rfl, hq.2.1⟩⟩⟩
  have c3 := c3 hne3
  rcases c7 with ⟨-, a, b⟩ | ⟨hz, -⟩
  · have z0 : (0 : Int32).toInt = 0 := by decide
    have z4 : (4 : Int32).toInt = 4 := by decide
    rw [z0] at a
    rw [z4] at b
    have e := sp_ix (x := x1) (y := x3) (c := x1.toInt.toNat) (k := x3.toInt.toNat) (by omega) (by omega) (by omega) (by omega)
    exact inR_ok (by rw [e]; clear e; omega) (by rw [e]; clear e; omega)
  · exact absurd hz hne7
theorem safe_go {d N : Nat} {x2 : Int32} {σ : Sg} (ht : typed TYP σ) (hP : pack N σ) (hs : ∃ c, c < N ∧ bt (σ.1 97 78) c = true) : ∀ (m k : Nat) (x3 x4 : Int32), k + m = N → x4.toInt = (k : Int) → bsP k (σ.1 97 78) x3 → Rn PRG (d + 1) 296 39 [(0, .ref 97), (2, .int x2), (3, .int x3), (4, .int x4)] [] σ (fun v σ' => ∃ w : Int32, v = some (.int w) ∧ σ' = σ) := by
  have hN := hP.le
  intro m
  induction m with
  | zero =>
    intro k x3 x4 hk h4 hb
    refine w_296_39 σ x2 x3 x4 ⟨_, cards_OK ht hP, fun w2 σ1 hq => ?_⟩
    obtain ⟨e1, hw⟩ := hq
    rw [e1]
    have : k = N := by omega
    subst this
    refine ⟨fun _ => ⟨fun _ => ⟨_, rfl, rfl⟩, fun _ => ⟨fun _ => ⟨_, rfl, rfl⟩, fun _ => ⟨?_, _, rfl, rfl⟩⟩⟩, fun c => absurd (by rw [le_i hw h4]; omega) c⟩
    rcases hb with ⟨-, hb⟩ | ⟨c, c1, c2, -⟩
    · obtain ⟨c, c1, c2⟩ := hs
      rw [hb c c1] at c2
      cases c2
    · exact inR_ok (by omega) (by omega)
  | succ m ih =>
    intro k x3 x4 hk h4 hb
    refine w_296_39 σ x2 x3 x4 ⟨_, cards_OK ht hP, fun w2 σ1 hq => ?_⟩
    obtain ⟨e1, hw⟩ := hq
    rw [e1]
    refine ⟨fun c => ?_, fun _ => ?_⟩
    · rw [le_i hw h4] at c; omega
    have hx4 : (x4 + (1 : Int32)).toInt = ((k + 1 : Nat) : Int) := by
      rw [add_lit (k := 1) h4 (by decide) (by unfold FL; omega) (by unfold FH; omega)]; push_cast; rfl
    rw [bit_ne0 h4 (by clear hx4; omega)]
    refine ⟨fun hbt => ih (k + 1) _ _ (by omega) hx4 (hb.skip (Or.inl hbt)), fun hbt => ?_⟩
    have hbt : bt (σ.1 97 78) k = true := by
      cases hx : bt (σ.1 97 78) k with
      | true => rfl
      | false => exact absurd hx hbt
    have hin : inR x4 16 = true := inR_ok (by clear hx4; omega) (by clear hx4; omega)
    have take := ih (k + 1) x4 _ (by omega) hx4 (bsP.take h4 hbt)
    refine ⟨fun _ => take, fun hne => ?_⟩
    obtain ⟨n1, n2⟩ := bs_nn hb (by clear hx4; omega) hne
    have skip := ih (k + 1) x3 _ (by omega) hx4 (hb.skip (Or.inr n2))
    exact ⟨hin, n1, fun _ => take, fun _ => ⟨hin, n1, fun _ => ⟨hin, n1, fun _ => skip, fun _ => take⟩, fun _ => skip⟩⟩
theorem safe_OK {N : Nat} {x1 x2 : Int32} {σ : Sg} (h : GI N σ) : OkI PRG 11 296 [.ref 97, .int x1, .int x2] σ (fun _ σ' => GI N σ') := by
  obtain ⟨n, w0, hF⟩ := TW.of h
  refine ⟨M_296, rfl, Nat.le_of_ble_eq_true rfl, w_296_0 σ x1 x2 ⟨_, canMean_OK (d := 6) hF, fun w2 σ1 hq => ?_⟩⟩
  obtain ⟨e1, c0⟩ := hq
  rw [e1]
  refine ⟨fun _ => ⟨_, rfl, h⟩, fun hne => ⟨_, in_OK, fun w4 σ3 hq => ?_⟩⟩
  rw [hq.1]
  refine ⟨fun _ => ⟨_, rfl, h⟩, fun _ => ⟨_, isLate_OK (d := 6) hF (c0 hne), fun w6 σ5 hq => ?_⟩⟩
  rw [hq]
  refine ⟨fun _ => ⟨_, rfl, h⟩, fun _ => ⟨_, fillMeans_OK h hF.2.1 hF.2.2.2.1 hF.2.2.2.2 (c0 hne), fun σ7 hq => ?_⟩⟩
  have hg := hq.2.1
  refine Rn.mono (safe_go hg.1 hg.2.2.1 (hF.some (c0 hne) hq.2.2) N 0 _ _ (by omega) rfl (Or.inl ⟨rfl, fun c hc => absurd hc (by omega)⟩)) (fun v σ' hz => ?_)
  obtain ⟨w, e, e2⟩ := hz
  rw [e2]
  exact ⟨w, e, hg⟩
