/-! knows: what must hold -/
set_option maxRecDepth 100000 in
theorem w_271_0 {d : Nat} {Q : Option Value → Sg → Prop} (σ : Sg) (x1 x2 x3 x4 : Int32) (h : (∃ Qc : Int32 → Sg → Prop, OkI PRG d 263 [.ref 97, .int x1, .int x4] σ Qc ∧ ∀ w2 σ1, Qc w2 σ1 → ((w2 = 0 → Q (some (.int (-1 : Int32))) σ1) ∧ (¬ w2 = 0 → (∃ Qc : Int32 → Sg → Prop, OkI PRG d 216 [.int x2] σ1 Qc ∧ ∀ w4 σ3, Qc w4 σ3 → ((w4 = 0 → Q (some (.int (-1 : Int32))) σ3) ∧ (¬ w4 = 0 → ((x1 = x2 → Q (some (.int (-1 : Int32))) σ3) ∧ (¬ x1 = x2 → (∃ Qc : Int32 → Sg → Prop, OkI PRG d 217 [.ref 97, .int x3] σ3 Qc ∧ ∀ w6 σ5, Qc w6 σ5 → ((w6 = 0 → Q (some (.int (-1 : Int32))) σ5) ∧ (¬ w6 = 0 → (∃ Qc : Int32 → Sg → Prop, OkI PRG d 270 [.ref 97] σ5 Qc ∧ ∀ w8 σ7, Qc w8 σ7 → ((w8 = 0 → (inR x1 4 = true ∧ (inR x1 4 = true ∧ (∃ Qc : Sg → Prop, OkV PRG d 257 [.ref 97, .int x1, .int (σ7.1 97 48), .int x4] (s1 σ7 129 x1.toNatClampNeg (σ7.1 125 x1.toNatClampNeg)) Qc ∧ ∀ σ9, Qc σ9 → Rn PRG (d + 1) 271 65 [(0, .ref 97), (2, .int x2), (3, .int x3), (4, .int x4)] [] σ9 Q)))) ∧ (¬ w8 = 0 → Q (some (.int (-2 : Int32))) σ7))))))))))))))) : Rn PRG (d + 1) 271 0 [(0, .ref 97), (1, .int x1), (2, .int x2), (3, .int x3), (4, .int x4)] [] σ Q := by
  have hM : PRG[271]? = some M_271 := rfl
  refine Rn.seg (pc' := 4) (ls' := [(0, .ref 97), (1, .int x1), (2, .int x2), (3, .int x3), (4, .int x4)]) (st' := [.int x4, .int x1, .ref 97]) (σ' := σ) hM 3 rfl ?_
  obtain ⟨Qc, hq, h⟩ := h
  refine Rn.cI hM rfl rfl (by decide) hq (fun w2 σ1 hw => ?_)
  replace h := h w2 σ1 hw
  refine Rn.br (c := w2 = 0) (a := 30) (b := 10) (ls' := [(0, .ref 97), (1, .int x1), (2, .int x2), (3, .int x3), (4, .int x4)]) (st' := []) (σ' := σ1) hM 1 rfl (fun c => ?_) (fun c => ?_)
  · replace h := h.1 c
    refine Rn.seg (pc' := 31) (ls' := [(0, .ref 97), (1, .int x1), (2, .int x2), (3, .int x3), (4, .int x4)]) (st' := [.int (-1 : Int32)]) (σ' := σ1) hM 1 rfl ?_
    exact Rn.ret hM rfl rfl h
  · replace h := h.2 c
    refine Rn.seg (pc' := 11) (ls' := [(0, .ref 97), (1, .int x1), (2, .int x2), (3, .int x3), (4, .int x4)]) (st' := [.int x2]) (σ' := σ1) hM 1 rfl ?_
    obtain ⟨Qc, hq, h⟩ := h
    refine Rn.cI hM rfl rfl (by decide) hq (fun w4 σ3 hw => ?_)
    replace h := h w4 σ3 hw
    refine Rn.br (c := w4 = 0) (a := 30) (b := 17) (ls' := [(0, .ref 97), (1, .int x1), (2, .int x2), (3, .int x3), (4, .int x4)]) (st' := []) (σ' := σ3) hM 1 rfl (fun c => ?_) (fun c => ?_)
    · replace h := h.1 c
      refine Rn.seg (pc' := 31) (ls' := [(0, .ref 97), (1, .int x1), (2, .int x2), (3, .int x3), (4, .int x4)]) (st' := [.int (-1 : Int32)]) (σ' := σ3) hM 1 rfl ?_
      exact Rn.ret hM rfl rfl h
    · replace h := h.2 c
      refine Rn.br (c := x1 = x2) (a := 30) (b := 22) (ls' := [(0, .ref 97), (1, .int x1), (2, .int x2), (3, .int x3), (4, .int x4)]) (st' := []) (σ' := σ3) hM 3 rfl (fun c => ?_) (fun c => ?_)
      · replace h := h.1 c
        refine Rn.seg (pc' := 31) (ls' := [(0, .ref 97), (1, .int x1), (2, .int x2), (3, .int x3), (4, .int x4)]) (st' := [.int (-1 : Int32)]) (σ' := σ3) hM 1 rfl ?_
        exact Rn.ret hM rfl rfl h
      · replace h := h.2 c
        refine Rn.seg (pc' := 24) (ls' := [(0, .ref 97), (1, .int x1), (2, .int x2), (3, .int x3), (4, .int x4)]) (st' := [.int x3, .ref 97]) (σ' := σ3) hM 2 rfl ?_
        obtain ⟨Qc, hq, h⟩ := h
        refine Rn.cI hM rfl rfl (by decide) hq (fun w6 σ5 hw => ?_)
        replace h := h w6 σ5 hw
        refine Rn.brN (c := w6 = 0) (a := 32) (b := 30) (ls' := [(0, .ref 97), (1, .int x1), (2, .int x2), (3, .int x3), (4, .int x4)]) (st' := []) (σ' := σ5) hM 1 rfl (fun c => ?_) (fun c => ?_)
        · replace h := h.2 c
          refine Rn.seg (pc' := 33) (ls' := [(0, .ref 97), (1, .int x1), (2, .int x2), (3, .int x3), (4, .int x4)]) (st' := [.ref 97]) (σ' := σ5) hM 1 rfl ?_
          obtain ⟨Qc, hq, h⟩ := h
          refine Rn.cI hM rfl rfl (by decide) hq (fun w8 σ7 hw => ?_)
          replace h := h w8 σ7 hw
          refine Rn.br (c := w8 = 0) (a := 42) (b := 39) (ls' := [(0, .ref 97), (1, .int x1), (2, .int x2), (3, .int x3), (4, .int x4)]) (st' := []) (σ' := σ7) hM 1 rfl (fun c => ?_) (fun c => ?_)
          · replace h := h.1 c
            refine Rn.seg (pc' := 52) (ls' := [(0, .ref 97), (1, .int x1), (2, .int x2), (3, .int x3), (4, .int x4)]) (st' := [.int x1, .ref 125, .int x1, .ref 129]) (σ' := σ7) hM 6 rfl ?_
            refine Rn.iald hM rfl rfl h.1 ?_
            refine Rn.seg (pc' := 53) (ls' := [(0, .ref 97), (1, .int x1), (2, .int x2), (3, .int x3), (4, .int x4)]) (st' := [.int (σ7.1 125 x1.toNatClampNeg), .int x1, .ref 129]) (σ' := σ7) hM 0 rfl ?_
            refine Rn.iast hM rfl rfl h.2.1 ?_
            refine Rn.seg (pc' := 62) (ls' := [(0, .ref 97), (1, .int x1), (2, .int x2), (3, .int x3), (4, .int x4)]) (st' := [.int x4, .int (σ7.1 97 48), .int x1, .ref 97]) (σ' := (s1 σ7 129 x1.toNatClampNeg (σ7.1 125 x1.toNatClampNeg))) hM 5 rfl ?_
            obtain ⟨Qc, hq, h⟩ := h.2.2
            refine Rn.cV hM rfl rfl (by decide) hq (fun σ9 hw => ?_)
            replace h := h σ9 hw
            refine Rn.seg (pc' := 65) (ls' := [(0, .ref 97), (1, .int x1), (2, .int x2), (3, .int x3), (4, .int x4)]) (st' := []) (σ' := σ9) hM 0 rfl ?_
            exact Rn.sub h (subL_cons rfl (subL_cons rfl (subL_cons rfl (subL_cons rfl subL_nil)))) (show ndL _ from (by decide : List.Nodup ([0, 2, 3, 4] : List Nat)))
          · replace h := h.2 c
            refine Rn.seg (pc' := 41) (ls' := [(0, .ref 97), (1, .int x1), (2, .int x2), (3, .int x3), (4, .int x4)]) (st' := [.int (-2 : Int32)]) (σ' := σ7) hM 1 rfl ?_
            exact Rn.ret hM rfl rfl h
        · replace h := h.1 c
          refine Rn.seg (pc' := 31) (ls' := [(0, .ref 97), (1, .int x1), (2, .int x2), (3, .int x3), (4, .int x4)]) (st' := [.int (-1 : Int32)]) (σ' := σ5) hM 1 rfl ?_
          exact Rn.ret hM rfl rfl h
set_option maxRecDepth 100000 in
theorem w_271_65 {d : Nat} {Q : Option Value → Sg → Prop} (σ : Sg) (x2 x3 x4 : Int32) (h : (∃ Qc : Int32 → Sg → Prop, OkI PRG d 262 [.ref 97] σ Qc ∧ ∀ w2 σ1, Qc w2 σ1 → ((w2 = 0 → Rn PRG (d + 1) 271 96 [(0, .ref 97), (2, .int x2), (3, .int x3), (4, .int x4), (5, .int (0 : Int32)), (6, .int (0 : Int32))] [] σ1 Q) ∧ (¬ w2 = 0 → (inR x2 4 = true ∧ (inR (σ1.1 129 x2.toNatClampNeg) 65536 = true ∧ (inR (σ1.1 129 x2.toNatClampNeg) 65536 = true ∧ Rn PRG (d + 1) 271 65 [(0, .ref 97), (2, .int x2), (3, .int x3), (4, .int x4)] [] (s1 σ1 135 (σ1.1 129 x2.toNatClampNeg).toNatClampNeg ((σ1.1 135 (σ1.1 129 x2.toNatClampNeg).toNatClampNeg) + (1 : Int32))) Q))))))) : Rn PRG (d + 1) 271 65 [(0, .ref 97), (2, .int x2), (3, .int x3), (4, .int x4)] [] σ Q := by
  have hM : PRG[271]? = some M_271 := rfl
  refine Rn.seg (pc' := 66) (ls' := [(0, .ref 97), (2, .int x2), (3, .int x3), (4, .int x4)]) (st' := [.ref 97]) (σ' := σ) hM 1 rfl ?_
  obtain ⟨Qc, hq, h⟩ := h
  refine Rn.cI hM rfl rfl (by decide) hq (fun w2 σ1 hw => ?_)
  replace h := h w2 σ1 hw
  refine Rn.br (c := w2 = 0) (a := 90) (b := 72) (ls' := [(0, .ref 97), (2, .int x2), (3, .int x3), (4, .int x4)]) (st' := []) (σ' := σ1) hM 1 rfl (fun c => ?_) (fun c => ?_)
  · replace h := h.1 c
    refine Rn.seg (pc' := 96) (ls' := [(6, .int (0 : Int32)), (5, .int (0 : Int32)), (0, .ref 97), (2, .int x2), (3, .int x3), (4, .int x4)]) (st' := []) (σ' := σ1) hM 4 rfl ?_
    exact Rn.sub h (subL_cons rfl (subL_cons rfl (subL_cons rfl (subL_cons rfl (subL_cons rfl (subL_cons rfl subL_nil)))))) (show ndL _ from (by decide : List.Nodup ([0, 2, 3, 4, 5, 6] : List Nat)))
  · replace h := h.2 c
    refine Rn.seg (pc' := 81) (ls' := [(0, .ref 97), (2, .int x2), (3, .int x3), (4, .int x4)]) (st' := [.int x2, .ref 129, .ref 135]) (σ' := σ1) hM 5 rfl ?_
    refine Rn.iald hM rfl rfl h.1 ?_
    refine Rn.seg (pc' := 83) (ls' := [(0, .ref 97), (2, .int x2), (3, .int x3), (4, .int x4)]) (st' := [.int (σ1.1 129 x2.toNatClampNeg), .ref 135, .int (σ1.1 129 x2.toNatClampNeg), .ref 135]) (σ' := σ1) hM 1 rfl ?_
    refine Rn.iald hM rfl rfl h.2.1 ?_
    refine Rn.seg (pc' := 86) (ls' := [(0, .ref 97), (2, .int x2), (3, .int x3), (4, .int x4)]) (st' := [.int ((σ1.1 135 (σ1.1 129 x2.toNatClampNeg).toNatClampNeg) + (1 : Int32)), .int (σ1.1 129 x2.toNatClampNeg), .ref 135]) (σ' := σ1) hM 2 rfl ?_
    refine Rn.iast hM rfl rfl h.2.2.1 ?_
    refine Rn.seg (pc' := 65) (ls' := [(0, .ref 97), (2, .int x2), (3, .int x3), (4, .int x4)]) (st' := []) (σ' := (s1 σ1 135 (σ1.1 129 x2.toNatClampNeg).toNatClampNeg ((σ1.1 135 (σ1.1 129 x2.toNatClampNeg).toNatClampNeg) + (1 : Int32)))) hM 1 rfl ?_
    exact Rn.sub h.2.2.2 (subL_cons rfl (subL_cons rfl (subL_cons rfl (subL_cons rfl subL_nil)))) (show ndL _ from (by decide : List.Nodup ([0, 2, 3, 4] : List Nat)))
set_option maxRecDepth 100000 in
theorem w_271_96 {d : Nat} {Q : Option Value → Sg → Prop} (σ : Sg) (x2 x3 x4 x5 x6 : Int32) (h : (∃ Qc : Int32 → Sg → Prop, OkI PRG d 210 [.ref 97] σ Qc ∧ ∀ w2 σ1, Qc w2 σ1 → ((((1 : Int32) <<< (w2 &&& 31)) ≤ x6 → Q (some (.int x5)) σ1) ∧ (¬ ((1 : Int32) <<< (w2 &&& 31)) ≤ x6 → (inR x6 65536 = true ∧ (((σ1.1 135 x6.toNatClampNeg) = 0 → Rn PRG (d + 1) 271 96 [(0, .ref 97), (2, .int x2), (3, .int x3), (4, .int x4), (5, .int x5), (6, .int (x6 + (1 : Int32)))] [] σ1 Q) ∧ (¬ (σ1.1 135 x6.toNatClampNeg) = 0 → (inR x2 4 = true ∧ ((((x6 >>> (x3 &&& 31)) &&& (1 : Int32)) = (1 : Int32) → (inR x6 65536 = true ∧ (inR x6 65536 = true ∧ Rn PRG (d + 1) 271 96 [(0, .ref 97), (2, .int x2), (3, .int x3), (4, .int x4), (5, .int (x5 + (σ1.1 135 x6.toNatClampNeg))), (6, .int (x6 + (1 : Int32)))] [] (s1 (s1 σ1 129 x2.toNatClampNeg x6) 135 x6.toNatClampNeg (0 : Int32)) Q))) ∧ (¬ ((x6 >>> (x3 &&& 31)) &&& (1 : Int32)) = (1 : Int32) → (∃ Qc : Int32 → Sg → Prop, OkI PRG d 268 [.ref 97, .int x2, .int (σ1.1 97 48), .int x4] (s1 σ1 129 x2.toNatClampNeg x6) Qc ∧ ∀ w4 σ3, Qc w4 σ3 → ((((w4 >>> (x3 &&& 31)) &&& (1 : Int32)) = (1 : Int32) → (inR x6 65536 = true ∧ (inR x6 65536 = true ∧ Rn PRG (d + 1) 271 96 [(0, .ref 97), (2, .int x2), (3, .int x3), (4, .int x4), (5, .int (x5 + (σ3.1 135 x6.toNatClampNeg))), (6, .int (x6 + (1 : Int32)))] [] (s1 σ3 135 x6.toNatClampNeg (0 : Int32)) Q))) ∧ (¬ ((w4 >>> (x3 &&& 31)) &&& (1 : Int32)) = (1 : Int32) → (inR x6 65536 = true ∧ Rn PRG (d + 1) 271 96 [(0, .ref 97), (2, .int x2), (3, .int x3), (4, .int x4), (5, .int x5), (6, .int (x6 + (1 : Int32)))] [] (s1 σ3 135 x6.toNatClampNeg (0 : Int32)) Q)))))))))))))) : Rn PRG (d + 1) 271 96 [(0, .ref 97), (2, .int x2), (3, .int x3), (4, .int x4), (5, .int x5), (6, .int x6)] [] σ Q := by
  have hM : PRG[271]? = some M_271 := rfl
  refine Rn.seg (pc' := 100) (ls' := [(0, .ref 97), (2, .int x2), (3, .int x3), (4, .int x4), (5, .int x5), (6, .int x6)]) (st' := [.ref 97, .int (1 : Int32), .int x6]) (σ' := σ) hM 3 rfl ?_
  obtain ⟨Qc, hq, h⟩ := h
  refine Rn.cI hM rfl rfl (by decide) hq (fun w2 σ1 hw => ?_)
  replace h := h w2 σ1 hw
  refine Rn.br (c := ((1 : Int32) <<< (w2 &&& 31)) ≤ x6) (a := 195) (b := 107) (ls' := [(0, .ref 97), (2, .int x2), (3, .int x3), (4, .int x4), (5, .int x5), (6, .int x6)]) (st' := []) (σ' := σ1) hM 2 rfl (fun c => ?_) (fun c => ?_)
  · replace h := h.1 c
    refine Rn.seg (pc' := 197) (ls' := [(0, .ref 97), (2, .int x2), (3, .int x3), (4, .int x4), (5, .int x5), (6, .int x6)]) (st' := [.int x5]) (σ' := σ1) hM 1 rfl ?_
    exact Rn.ret hM rfl rfl h
  · replace h := h.2 c
    refine Rn.seg (pc' := 113) (ls' := [(0, .ref 97), (2, .int x2), (3, .int x3), (4, .int x4), (5, .int x5), (6, .int x6)]) (st' := [.int x6, .ref 135]) (σ' := σ1) hM 3 rfl ?_
    refine Rn.iald hM rfl rfl h.1 ?_
    refine Rn.brN (c := (σ1.1 135 x6.toNatClampNeg) = 0) (a := 120) (b := 117) (ls' := [(0, .ref 97), (2, .int x2), (3, .int x3), (4, .int x4), (5, .int x5), (6, .int x6)]) (st' := []) (σ' := σ1) hM 1 rfl (fun c => ?_) (fun c => ?_)
    · replace h := h.2.2 c
      refine Rn.seg (pc' := 127) (ls' := [(0, .ref 97), (2, .int x2), (3, .int x3), (4, .int x4), (5, .int x5), (6, .int x6)]) (st' := [.int x6, .int x2, .ref 129]) (σ' := σ1) hM 4 rfl ?_
      refine Rn.iast hM rfl rfl h.1 ?_
      refine Rn.br (c := ((x6 >>> (x3 &&& 31)) &&& (1 : Int32)) = (1 : Int32)) (a := 157) (b := 138) (ls' := [(0, .ref 97), (2, .int x2), (3, .int x3), (4, .int x4), (5, .int x5), (6, .int x6)]) (st' := []) (σ' := (s1 σ1 129 x2.toNatClampNeg x6)) hM 7 rfl (fun c => ?_) (fun c => ?_)
      · replace h := h.2.1 c
        refine Rn.seg (pc' := 177) (ls' := [(7, .int (1 : Int32)), (0, .ref 97), (2, .int x2), (3, .int x3), (4, .int x4), (5, .int x5), (6, .int x6)]) (st' := [.int x6, .ref 135, .int x5]) (σ' := (s1 σ1 129 x2.toNatClampNeg x6)) hM 9 rfl ?_
        refine Rn.iald hM rfl rfl h.1 ?_
        refine Rn.seg (pc' := 188) (ls' := [(5, .int (x5 + (σ1.1 135 x6.toNatClampNeg))), (7, .int (1 : Int32)), (0, .ref 97), (2, .int x2), (3, .int x3), (4, .int x4), (6, .int x6)]) (st' := [.int (0 : Int32), .int x6, .ref 135]) (σ' := (s1 σ1 129 x2.toNatClampNeg x6)) hM 6 rfl ?_
        refine Rn.iast hM rfl rfl h.2.1 ?_
        refine Rn.seg (pc' := 96) (ls' := [(6, .int (x6 + (1 : Int32))), (5, .int (x5 + (σ1.1 135 x6.toNatClampNeg))), (7, .int (1 : Int32)), (0, .ref 97), (2, .int x2), (3, .int x3), (4, .int x4)]) (st' := []) (σ' := (s1 (s1 σ1 129 x2.toNatClampNeg x6) 135 x6.toNatClampNeg (0 : Int32))) hM 2 rfl ?_
        exact Rn.sub h.2.2 (subL_cons rfl (subL_cons rfl (subL_cons rfl (subL_cons rfl (subL_cons rfl (subL_cons rfl subL_nil)))))) (show ndL _ from (by decide : List.Nodup ([0, 2, 3, 4, 5, 6] : List Nat)))
      · replace h := h.2.2 c
        refine Rn.seg (pc' := 146) (ls' := [(0, .ref 97), (2, .int x2), (3, .int x3), (4, .int x4), (5, .int x5), (6, .int x6)]) (st' := [.int x4, .int (σ1.1 97 48), .int x2, .ref 97]) (σ' := (s1 σ1 129 x2.toNatClampNeg x6)) hM 5 rfl ?_
        obtain ⟨Qc, hq, h⟩ := h
        refine Rn.cI hM rfl rfl (by decide) hq (fun w4 σ3 hw => ?_)
        replace h := h w4 σ3 hw
        refine Rn.brN (c := ((w4 >>> (x3 &&& 31)) &&& (1 : Int32)) = (1 : Int32)) (a := 161) (b := 157) (ls' := [(0, .ref 97), (2, .int x2), (3, .int x3), (4, .int x4), (5, .int x5), (6, .int x6)]) (st' := []) (σ' := σ3) hM 6 rfl (fun c => ?_) (fun c => ?_)
        · replace h := h.2 c
          refine Rn.seg (pc' := 188) (ls' := [(7, .int (0 : Int32)), (0, .ref 97), (2, .int x2), (3, .int x3), (4, .int x4), (5, .int x5), (6, .int x6)]) (st' := [.int (0 : Int32), .int x6, .ref 135]) (σ' := σ3) hM 8 rfl ?_
          refine Rn.iast hM rfl rfl h.1 ?_
          refine Rn.seg (pc' := 96) (ls' := [(6, .int (x6 + (1 : Int32))), (7, .int (0 : Int32)), (0, .ref 97), (2, .int x2), (3, .int x3), (4, .int x4), (5, .int x5)]) (st' := []) (σ' := (s1 σ3 135 x6.toNatClampNeg (0 : Int32))) hM 2 rfl ?_
          exact Rn.sub h.2 (subL_cons rfl (subL_cons rfl (subL_cons rfl (subL_cons rfl (subL_cons rfl (subL_cons rfl subL_nil)))))) (show ndL _ from (by decide : List.Nodup ([0, 2, 3, 4, 5, 6] : List Nat)))
        · replace h := h.1 c
          refine Rn.seg (pc' := 177) (ls' := [(7, .int (1 : Int32)), (0, .ref 97), (2, .int x2), (3, .int x3), (4, .int x4), (5, .int x5), (6, .int x6)]) (st' := [.int x6, .ref 135, .int x5]) (σ' := σ3) hM 9 rfl ?_
          refine Rn.iald hM rfl rfl h.1 ?_
          refine Rn.seg (pc' := 188) (ls' := [(5, .int (x5 + (σ3.1 135 x6.toNatClampNeg))), (7, .int (1 : Int32)), (0, .ref 97), (2, .int x2), (3, .int x3), (4, .int x4), (6, .int x6)]) (st' := [.int (0 : Int32), .int x6, .ref 135]) (σ' := σ3) hM 6 rfl ?_
          refine Rn.iast hM rfl rfl h.2.1 ?_
          refine Rn.seg (pc' := 96) (ls' := [(6, .int (x6 + (1 : Int32))), (5, .int (x5 + (σ3.1 135 x6.toNatClampNeg))), (7, .int (1 : Int32)), (0, .ref 97), (2, .int x2), (3, .int x3), (4, .int x4)]) (st' := []) (σ' := (s1 σ3 135 x6.toNatClampNeg (0 : Int32))) hM 2 rfl ?_
          exact Rn.sub h.2.2 (subL_cons rfl (subL_cons rfl (subL_cons rfl (subL_cons rfl (subL_cons rfl (subL_cons rfl subL_nil)))))) (show ndL _ from (by decide : List.Nodup ([0, 2, 3, 4, 5, 6] : List Nat)))
    · replace h := h.2.1 c
      refine Rn.seg (pc' := 96) (ls' := [(6, .int (x6 + (1 : Int32))), (0, .ref 97), (2, .int x2), (3, .int x3), (4, .int x4), (5, .int x5)]) (st' := []) (σ' := σ1) hM 3 rfl ?_
      exact Rn.sub h (subL_cons rfl (subL_cons rfl (subL_cons rfl (subL_cons rfl (subL_cons rfl (subL_cons rfl subL_nil)))))) (show ndL _ from (by decide : List.Nodup ([0, 2, 3, 4, 5, 6] : List Nat)))
set_option maxRecDepth 100000 in
theorem w_270_0 {d : Nat} {Q : Option Value → Sg → Prop} (σ : Sg) (h : Rn PRG (d + 1) 270 2 [(0, .ref 97), (1, .int (0 : Int32))] [] σ Q) : Rn PRG (d + 1) 270 0 [(0, .ref 97)] [] σ Q := by
  have hM : PRG[270]? = some M_270 := rfl
  refine Rn.seg (pc' := 2) (ls' := [(1, .int (0 : Int32)), (0, .ref 97)]) (st' := []) (σ' := σ) hM 2 rfl ?_
  exact Rn.sub h (subL_cons rfl (subL_cons rfl subL_nil)) (show ndL _ from (by decide : List.Nodup ([0, 1] : List Nat)))
set_option maxRecDepth 100000 in
theorem w_270_2 {d : Nat} {Q : Option Value → Sg → Prop} (σ : Sg) (x1 : Int32) (h : (((4 : Int32) ≤ x1 → Q (some (.int (0 : Int32))) σ) ∧ (¬ (4 : Int32) ≤ x1 → (∃ Qc : Int32 → Sg → Prop, OkI PRG d 226 [.ref 97, .int x1] σ Qc ∧ ∀ w2 σ1, Qc w2 σ1 → (∃ Qc : Int32 → Sg → Prop, OkI PRG d 209 [.int w2] σ1 Qc ∧ ∀ w4 σ3, Qc w4 σ3 → ((w4 ≤ (3 : Int32) → Rn PRG (d + 1) 270 2 [(0, .ref 97), (1, .int (x1 + (1 : Int32)))] [] σ3 Q) ∧ (¬ w4 ≤ (3 : Int32) → Q (some (.int (1 : Int32))) σ3))))))) : Rn PRG (d + 1) 270 2 [(0, .ref 97), (1, .int x1)] [] σ Q := by
  have hM : PRG[270]? = some M_270 := rfl
  refine Rn.br (c := (4 : Int32) ≤ x1) (a := 27) (b := 7) (ls' := [(0, .ref 97), (1, .int x1)]) (st' := []) (σ' := σ) hM 3 rfl (fun c => ?_) (fun c => ?_)
  · replace h := h.1 c
    refine Rn.seg (pc' := 28) (ls' := [(0, .ref 97), (1, .int x1)]) (st' := [.int (0 : Int32)]) (σ' := σ) hM 1 rfl ?_
    exact Rn.ret hM rfl rfl h
  · replace h := h.2 c
    refine Rn.seg (pc' := 9) (ls' := [(0, .ref 97), (1, .int x1)]) (st' := [.int x1, .ref 97]) (σ' := σ) hM 2 rfl ?_
    obtain ⟨Qc, hq, h⟩ := h
    refine Rn.cI hM rfl rfl (by decide) hq (fun w2 σ1 hw => ?_)
    replace h := h w2 σ1 hw
    refine Rn.seg (pc' := 12) (ls' := [(0, .ref 97), (1, .int x1)]) (st' := [.int w2]) (σ' := σ1) hM 0 rfl ?_
    obtain ⟨Qc, hq, h⟩ := h
    refine Rn.cI hM rfl rfl (by decide) hq (fun w4 σ3 hw => ?_)
    replace h := h w4 σ3 hw
    refine Rn.br (c := w4 ≤ (3 : Int32)) (a := 21) (b := 19) (ls' := [(0, .ref 97), (1, .int x1)]) (st' := []) (σ' := σ3) hM 2 rfl (fun c => ?_) (fun c => ?_)
    · replace h := h.1 c
      refine Rn.seg (pc' := 2) (ls' := [(1, .int (x1 + (1 : Int32))), (0, .ref 97)]) (st' := []) (σ' := σ3) hM 2 rfl ?_
      exact Rn.sub h (subL_cons rfl (subL_cons rfl subL_nil)) (show ndL _ from (by decide : List.Nodup ([0, 1] : List Nat)))
    · replace h := h.2 c
      refine Rn.seg (pc' := 20) (ls' := [(0, .ref 97), (1, .int x1)]) (st' := [.int (1 : Int32)]) (σ' := σ3) hM 1 rfl ?_
      exact Rn.ret hM rfl rfl h
set_option maxRecDepth 100000 in
theorem w_226_0 {d : Nat} {Q : Option Value → Sg → Prop} (σ : Sg) (x1 : Int32) (h : (inR x1 4 = true ∧ (∃ Qc : Int32 → Sg → Prop, OkI PRG d 225 [.ref 97, .int x1, .int (σ.1 97 48)] σ Qc ∧ ∀ w2 σ1, Qc w2 σ1 → Q (some (.int ((σ.1 125 x1.toNatClampNeg) &&& (w2 ^^^ (-1 : Int32))))) σ1))) : Rn PRG (d + 1) 226 0 [(0, .ref 97), (1, .int x1)] [] σ Q := by
  have hM : PRG[226]? = some M_226 := rfl
  refine Rn.seg (pc' := 5) (ls' := [(0, .ref 97), (1, .int x1)]) (st' := [.int x1, .ref 125]) (σ' := σ) hM 3 rfl ?_
  refine Rn.iald hM rfl rfl h.1 ?_
  refine Rn.seg (pc' := 12) (ls' := [(0, .ref 97), (1, .int x1)]) (st' := [.int (σ.1 97 48), .int x1, .ref 97, .int (σ.1 125 x1.toNatClampNeg)]) (σ' := σ) hM 4 rfl ?_
  obtain ⟨Qc, hq, h⟩ := h.2
  refine Rn.cI hM rfl rfl (by decide) hq (fun w2 σ1 hw => ?_)
  replace h := h w2 σ1 hw
  refine Rn.seg (pc' := 18) (ls' := [(0, .ref 97), (1, .int x1)]) (st' := [.int ((σ.1 125 x1.toNatClampNeg) &&& (w2 ^^^ (-1 : Int32)))]) (σ' := σ1) hM 3 rfl ?_
  exact Rn.ret hM rfl rfl h
/-! knows -/
theorem handNow_OK {d n : Nat} {x1 : Int32} {σ : Sg} {p : Nat} (ht : typed TYP σ) (h1 : x1.toInt = (p : Int)) (hp : p ≤ 3) (hn : (σ.1 97 48).toInt = (n : Int)) : OkI PRG (d + 1) 226 [.ref 97, .int x1] σ (fun w σ' => σ' = σ ∧ ∃ y, pbP σ x1 n y ∧ w = (σ.1 125 p) &&& (y ^^^ (-1 : Int32))) := by
  have h16 := tyF ht (q := 97) (κ := 12) (k := 48) (lo := 0) (hi := 16) rfl rfl
  refine ⟨M_226, rfl, Nat.le_of_ble_eq_true rfl, w_226_0 σ x1 ⟨inR_ok (by omega) (by omega), ?_⟩⟩
  rw [cn_of h1]
  refine ⟨_, playedBy_OK ht hn (by omega), fun w2 σ1 hq => ?_⟩
  obtain ⟨rfl, hw⟩ := hq
  exact ⟨_, rfl, rfl, w2, hw, rfl⟩
theorem more_go {d n : Nat} {σ : Sg} (ht : typed TYP σ) (hn : (σ.1 97 48).toInt = (n : Int)) : ∀ (m k : Nat) (x1 : Int32), k + m = 4 → x1.toInt = (k : Int) → Rn PRG (d + 1 + 1) 270 2 [(0, .ref 97), (1, .int x1)] [] σ (fun v σ' => ∃ w : Int32, v = some (.int w) ∧ σ' = σ) := by
  have four : (4 : Int32).toInt = 4 := by decide
  intro m
  induction m with
  | zero =>
    intro k x1 hk h1
    exact w_270_2 σ x1 ⟨fun _ => ⟨_, rfl, rfl⟩, fun c => absurd (by rw [le_i four h1]; omega) c⟩
  | succ m ih =>
    intro k x1 hk h1
    have hx1 : (x1 + (1 : Int32)).toInt = ((k + 1 : Nat) : Int) := by
      rw [add_lit (k := 1) h1 (by decide) (by unfold FL; omega) (by unfold FH; omega)]; push_cast; rfl
    refine w_270_2 σ x1 ⟨fun _ => ⟨_, rfl, rfl⟩, fun _ => ⟨_, handNow_OK ht h1 (by clear hx1; omega) hn, fun w2 σ1 hq => ?_⟩⟩
    obtain ⟨rfl, -⟩ := hq
    refine ⟨_, bits_ok, fun w4 σ3 hq => ?_⟩
    obtain ⟨rfl, -⟩ := hq
    exact ⟨fun _ => ih (k + 1) _ (by omega) hx1, fun _ => ⟨_, rfl, rfl⟩⟩
theorem hasMore_OK {d : Nat} {σ : Sg} (ht : typed TYP σ) : OkI PRG (d + 1 + 1) 270 [.ref 97] σ (fun _ σ' => σ' = σ) := by
  obtain ⟨n, hn, -⟩ := played_rg ht
  refine ⟨M_270, rfl, Nat.le_of_ble_eq_true rfl, w_270_0 σ ((more_go ht hn 4 0 0 rfl rfl).mono (fun v σ' h => ?_))⟩
  obtain ⟨w, rfl, h⟩ := h
  exact ⟨w, rfl, h⟩
def mdKnow : List (Nat × Nat × Nat) := [(12, 44, 44), (12, 53, 55), (12, 59, 61), (79, 0, 13), (80, 0, 399), (85, 0, 3), (86, 0, 2), (87, 0, 2), (88, 0, 2), (89, 0, 15), (90, 0, 3), (91, 0, 65535)]
theorem LSt.ways {σ : Sg} {k : Nat} {y : Int32} (h : LSt σ) (hk : k ≤ 65535) : LSt (s1 σ 135 k y) ∧ dlm (s1 σ 135 k y) = dlm σ := by
  have g : Gl [(91, 0, 65535)] σ (s1 σ 135 k y) := wrG (κ := 91) (a := 0) (b := 65535) (vl := FL) (vh := FH) rfl rfl (Gl.refl h.1) rfl (Nat.zero_le _) hk (w_lo _) (w_hi _)
  have e97 : ∀ j, (s1 σ 135 k y).1 97 j = σ.1 97 j := fun j => s1_off (by omega)
  have e130 : ∀ j, (s1 σ 135 k y).1 130 j = σ.1 130 j := fun j => s1_off (by omega)
  have e132 : ∀ j, (s1 σ 135 k y).1 132 j = σ.1 132 j := fun j => s1_off (by omega)
  refine ⟨⟨g.1, h.2.1.keep g rfl, ?_, ?_⟩, ?_⟩
  · unfold apart3; rw [e130, e130, e130]; exact h.2.2.1
  · unfold DSt two lft; rw [e97, e97, e97, e132, e132]; exact h.2.2.2
  · unfold dlm; rw [e97, e97]
theorem know_96 {N n o : Nat} {x2 x3 x4 : Int32} {σ0 : Sg} (hP : pack N σ0) (h2 : x2.toInt = (o : Int)) (ho : o ≤ 3) (hn : (σ0.1 97 48).toInt = (n : Int)) (hn16 : n ≤ 16) (hC : ∀ k, k < n → 0 ≤ (σ0.1 126 k).toInt) : ∀ (m k : Nat) (x5 x6 : Int32) (σ : Sg), k + m = 65536 → x6.toInt = (k : Int) → I2 σ → Gl mdKnow σ0 σ → Rn PRG (7 + 1) 271 96 [(0, .ref 97), (2, .int x2), (3, .int x3), (4, .int x4), (5, .int x5), (6, .int x6)] [] σ (fun v σ' => ∃ w : Int32, v = some (.int w) ∧ Gl mdKnow σ0 σ' ∧ I2 σ') := by
  have hall : ∀ {w2 : Int32}, w2.toInt = (N : Int) → ((1 : Int32) <<< (w2 &&& 31)).toInt ≤ 65536 := by
    intro w2 hw
    rw [shl_ex hw (by have := hP.le; omega) (by decide) ?_]
    · have h16 : (2 : Nat) ^ N ≤ 2 ^ 16 := Nat.pow_le_pow_right (by omega) hP.le.2
      have one : (1 : Int32).toInt = 1 := by decide
      rw [one, Int.one_mul]
      have : ((2 ^ N : Nat) : Int) ≤ ((2 ^ 16 : Nat) : Int) := by exact_mod_cast h16
      have e : ((2 ^ N : Nat) : Int) = (2 : Int) ^ N := by push_cast; rfl
      omega
    · have h16 : (2 : Nat) ^ N ≤ 2 ^ 16 := Nat.pow_le_pow_right (by omega) hP.le.2
      have one : (1 : Int32).toInt = 1 := by decide
      rw [one, Int.one_mul]
      have : ((2 ^ N : Nat) : Int) ≤ ((2 ^ 16 : Nat) : Int) := by exact_mod_cast h16
      have e : ((2 ^ N : Nat) : Int) = (2 : Int) ^ N := by push_cast; rfl
      unfold FH
      omega
  have hPk : ∀ {σ : Sg}, Gl mdKnow σ0 σ → pack N σ := fun hG => pack_of (hG.get (q := 97) (κ := 12) rfl rfl) (hG.get (q := 106) (κ := 62) rfl rfl) (hG.get (q := 107) (κ := 63) rfl rfl) hP
  intro m
  induction m with
  | zero =>
    intro k x5 x6 σ hk h6 hI hG
    refine w_271_96 σ x2 x3 x4 x5 x6 ⟨_, cards_OK hG.1 (hPk hG), fun w2 σ1 hq => ?_⟩
    obtain ⟨rfl, hw⟩ := hq
    refine ⟨fun _ => ⟨_, rfl, hG, hI⟩, fun c => absurd ?_ c⟩
    have := hall hw
    rw [Int32.le_iff_toInt_le, h6]
    omega
  | succ m ih =>
    intro k x5 x6 σ hk h6 hI hG
    refine w_271_96 σ x2 x3 x4 x5 x6 ⟨_, cards_OK hG.1 (hPk hG), fun w2 σ1 hq => ?_⟩
    obtain ⟨rfl, hw⟩ := hq
    refine ⟨fun _ => ⟨_, rfl, hG, hI⟩, fun c => ?_⟩
    clear c
    have hx6 : (x6 + (1 : Int32)).toInt = ((k + 1 : Nat) : Int) := by
      rw [add_lit (k := 1) h6 (by decide) (by unfold FL; omega) (by unfold FH; omega)]; push_cast; rfl
    have hin6 : inR x6 65536 = true := inR_ok (by clear hx6; omega) (by clear hx6; omega)
    have hin2 : inR x2 4 = true := inR_ok (by omega) (by clear hx6; omega)
    have hk65 : k ≤ 65535 := by omega
    have next : ∀ (y : Int32) (σ' : Sg), I2 σ' → Gl mdKnow σ0 σ' → Rn PRG (7 + 1) 271 96 [(0, .ref 97), (2, .int x2), (3, .int x3), (4, .int x4), (5, .int y), (6, .int (x6 + (1 : Int32)))] [] (s1 σ' 135 k 0) (fun v σ' => ∃ w : Int32, v = some (.int w) ∧ Gl mdKnow σ0 σ' ∧ I2 σ') := by
      intro y σ' a1 a2
      have g : Gl [(91, 0, 65535)] σ' (s1 σ' 135 k 0) := wrG (κ := 91) (a := 0) (b := 65535) (vl := FL) (vh := FH) rfl rfl (Gl.refl a2.1) rfl (Nat.zero_le _) hk65 (w_lo _) (w_hi _)
      exact ih (k + 1) _ _ _ (by omega) hx6 (a1.keep g rfl) (a2.trans g rfl)
    rw [cn_of h6, cn_of h2]
    have g1 : Gl mdKnow σ0 (s1 σ1 129 o x6) := wrG (κ := 85) (a := 0) (b := 3) (vl := 0) (vh := 65535) rfl rfl hG rfl (Nat.zero_le _) ho (by rw [h6]; clear hx6; omega) (by rw [h6]; clear hx6; omega)
    have g2 : Gl [(85, 0, 3)] σ1 (s1 σ1 129 o x6) := wrG (κ := 85) (a := 0) (b := 3) (vl := 0) (vh := 65535) rfl rfl (Gl.refl hG.1) rfl (Nat.zero_le _) ho (by rw [h6]; clear hx6; omega) (by rw [h6]; clear hx6; omega)
    have i1 := hI.keep g2 rfl
    have e48 : σ1.1 97 48 = σ0.1 97 48 := hG.get (q := 97) (κ := 12) rfl rfl
    have e126 : ∀ k, (s1 σ1 129 o x6).1 126 k = σ0.1 126 k := fun k => g1.get (q := 126) (κ := 82) rfl rfl
    refine ⟨hin6, fun _ => ih (k + 1) _ _ σ1 (by omega) hx6 hI hG, fun _ => ⟨hin2, fun _ => ⟨hin6, hin6, next _ _ i1 g1⟩, fun _ => ⟨_, sureOf_OK g1.1 i1 (hPk g1) h2 ho (i := n) (by rw [e48]; exact hn) hn16 (fun k hk => by rw [e126]; exact hC k hk), fun w4 σ3 hq => ?_⟩⟩⟩
    have g3 : Gl mdKnow σ0 σ3 := g1.trans hq.1 rfl
    exact ⟨fun _ => ⟨hin6, hin6, next _ _ hq.2 g3⟩, fun _ => ⟨hin6, next _ _ hq.2 g3⟩⟩
theorem know_65 {o : Nat} {x2 x3 x4 : Int32} {σ0 : Sg} {Q : Option Value → Sg → Prop} (h2 : x2.toInt = (o : Int)) (ho : o ≤ 3) (K : ∀ σ', I2 σ' → Gl mdKnow σ0 σ' → Rn PRG (7 + 1) 271 96 [(0, .ref 97), (2, .int x2), (3, .int x3), (4, .int x4), (5, .int (0 : Int32)), (6, .int (0 : Int32))] [] σ' Q) : ∀ (m : Nat) (σ : Sg), LSt σ → Gl mdKnow σ0 σ → dlm σ ≤ m → Rn PRG (7 + 1) 271 65 [(0, .ref 97), (2, .int x2), (3, .int x3), (4, .int x4)] [] σ Q := by
  intro m
  induction m with
  | zero =>
    intro σ hL hG hm
    refine w_271_65 σ x2 x3 x4 ⟨_, OkI.deep (nextDeal_OK hL.1 hL.2.1 hL.2.2.1 hL.2.2.2) (by omega), fun w2 σ1 hq => ⟨fun _ => K σ1 hq.2 (hG.trans hq.1.1 rfl), fun hn => ?_⟩⟩
    have := (nd_LSt hL hq hn).2.2
    omega
  | succ m ih =>
    intro σ hL hG hm
    refine w_271_65 σ x2 x3 x4 ⟨_, OkI.deep (nextDeal_OK hL.1 hL.2.1 hL.2.2.1 hL.2.2.2) (by omega), fun w2 σ1 hq => ⟨fun _ => K σ1 hq.2 (hG.trans hq.1.1 rfl), fun hn => ?_⟩⟩
    obtain ⟨a1, a2, a3⟩ := nd_LSt hL hq hn
    have hin2 : inR x2 4 = true := inR_ok (by omega) (by omega)
    rw [cn_of h2]
    have htr := tyA a1.1 (q := 129) (κ := 85) (k := o) (a := 0) (b := 3) (lo := 0) (hi := 65535) rfl rfl (by omega) (by omega)
    have hin3 : inR (σ1.1 129 o) 65536 = true := inR_ok htr.1 (by omega)
    have hk : (σ1.1 129 o).toNatClampNeg ≤ 65535 := by
      show (σ1.1 129 o).toInt.toNat ≤ 65535
      omega
    obtain ⟨b1, b2⟩ := a1.ways (k := (σ1.1 129 o).toNatClampNeg) (y := (σ1.1 135 (σ1.1 129 o).toNatClampNeg) + (1 : Int32)) hk
    refine ⟨hin2, hin3, hin3, ih _ b1 ?_ (by rw [b2]; omega)⟩
    exact wrG (κ := 91) (a := 0) (b := 65535) (vl := FL) (vh := FH) rfl rfl (hG.trans a2 rfl) rfl (Nat.zero_le _) hk (w_lo _) (w_hi _)
theorem knows_OK {x1 x2 x3 x4 : Int32} {σ : Sg} (ht : typed TYP σ) (hI : I2 σ) (hC : CG σ) : OkI PRG 8 271 [.ref 97, .int x1, .int x2, .int x3, .int x4] σ (fun _ σ' => Gl mdKnow σ σ' ∧ I2 σ') := by
  obtain ⟨n, hn, hn16⟩ := played_rg ht
  refine ⟨M_271, rfl, Nat.le_of_ble_eq_true rfl, w_271_0 σ x1 x2 x3 x4 ⟨_, canAsk_OK (d := 4) ht hI, fun w2 σ1 hq => ?_⟩⟩
  obtain ⟨q1, q2, -, q3⟩ := hq
  refine ⟨fun _ => ⟨_, rfl, q1.mono rfl, q2⟩, fun hne => ?_⟩
  have hr := q3 hne
  refine ⟨_, isPlayer_OK (d := 6) q1.1 q2, fun w4 σ3 hq => ?_⟩
  obtain ⟨r1, r2, r3⟩ := hq
  have g3 : Gl [] σ σ3 := q1.trans r1 rfl
  refine ⟨fun _ => ⟨_, rfl, g3.mono rfl, r2⟩, fun hne2 => ⟨fun _ => ⟨_, rfl, g3.mono rfl, r2⟩, fun _ => ?_⟩⟩
  have hr2 := r3 hne2
  refine ⟨_, isCard_OK (d := 6) r1.1 r2, fun w6 σ5 hq => ?_⟩
  obtain ⟨s1', s2', s3'⟩ := hq
  have g5 : Gl [] σ σ5 := g3.trans s1' rfl
  refine ⟨fun _ => ⟨_, rfl, g5.mono rfl, s2'⟩, fun _ => ⟨_, hasMore_OK (d := 5) g5.1, fun w8 σ7 hq => ?_⟩⟩
  subst hq
  refine ⟨fun _ => ?_, fun _ => ⟨_, rfl, g5.mono rfl, s2'⟩⟩
  have hin : inR x1 4 = true := inR_ok hr.1 (by omega)
  have hx1 : x1.toInt = ((x1.toInt.toNat : Nat) : Int) := by omega
  have hx2 : x2.toInt = ((x2.toInt.toNat : Nat) : Int) := by omega
  have hp3 : x1.toInt.toNat ≤ 3 := by omega
  have ho3 : x2.toInt.toNat ≤ 3 := by omega
  obtain ⟨N, hP⟩ := s2'.1.2.2
  have e48 : σ7.1 97 48 = σ.1 97 48 := g5.get (q := 97) (κ := 12) rfl rfl
  have e126 : ∀ k, σ7.1 126 k = σ.1 126 k := fun k => g5.get (q := 126) (κ := 82) rfl rfl
  obtain ⟨g7, i7⟩ := tr_wr g5.1 s2' hp3
  refine ⟨hin, hin, ?_⟩
  rw [cn_of hx1]
  refine ⟨_, OkV.deep (beginDeals_OK g7.1 i7 (pack_of (s1_off (by omega)) (s1_off (by omega)) (s1_off (by omega)) hP) hx1 hp3 (i := n) (by rw [e48]; exact hn) hn16 (fun k hk => by rw [s1_off (by omega), e126]; exact hC k (by omega))) (by omega), fun σ9 hq => ?_⟩
  have g9 : Gl mdKnow σ σ9 := ((g5.mono rfl : Gl mdKnow σ σ7).trans g7 rfl).trans hq.1 rfl
  have hP0 : pack N σ := pack_of (g5.get (q := 97) (κ := 12) rfl rfl).symm (by have h := g5.get (q := 97) (κ := 12) (k := 18) rfl rfl; rw [h]; exact (g5.get (q := 106) (κ := 62) rfl rfl).symm) (by have h := g5.get (q := 97) (κ := 12) (k := 18) rfl rfl; rw [h]; exact (g5.get (q := 107) (κ := 63) rfl rfl).symm) hP
  exact know_65 hx2 ho3 (fun σ' a1 a2 => know_96 hP0 hx2 ho3 hn hn16 (fun k hk => hC k (by omega)) 65536 0 0 0 σ' rfl rfl a1 a2) _ σ9 (bd_LSt hp3 hq) g9 (Nat.le_refl _)
