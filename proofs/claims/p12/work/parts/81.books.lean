/-! books: what must hold -/
set_option maxRecDepth 100000 in
theorem w_313_0 {d : Nat} {Q : Option Value → Sg → Prop} (σ : Sg) (x1 : Int32) (h : (inR (σ.1 97 18) 2 = true ∧ (∃ Qc : Int32 → Sg → Prop, OkI PRG d 195 [.int x1, .int (0 : Int32), .int ((σ.1 109 (σ.1 97 18).toNatClampNeg) - (1 : Int32))] σ Qc ∧ ∀ w2 σ1, Qc w2 σ1 → ((w2 = 0 ∨ w2 = 1) ∧ Q (some (.int w2)) σ1)))) : Rn PRG (d + 1) 313 0 [(0, .ref 97), (1, .int x1)] [] σ Q := by
  have hM : PRG[313]? = some M_313 := rfl
  refine Rn.seg (pc' := 10) (ls' := [(0, .ref 97), (1, .int x1)]) (st' := [.int (σ.1 97 18), .ref 109, .int (0 : Int32), .int x1]) (σ' := σ) hM 6 rfl ?_
  refine Rn.iald hM rfl rfl h.1 ?_
  refine Rn.seg (pc' := 13) (ls' := [(0, .ref 97), (1, .int x1)]) (st' := [.int ((σ.1 109 (σ.1 97 18).toNatClampNeg) - (1 : Int32)), .int (0 : Int32), .int x1]) (σ' := σ) hM 2 rfl ?_
  obtain ⟨Qc, hq, h⟩ := h.2
  refine Rn.cI hM rfl rfl (by decide) hq (fun w2 σ1 hw => ?_)
  replace h := h w2 σ1 hw
  refine Rn.seg (pc' := 16) (ls' := [(0, .ref 97), (1, .int x1)]) (st' := [.int w2]) (σ' := σ1) hM 0 rfl ?_
  exact Rn.retZ hM rfl rfl h.1 h.2
set_option maxRecDepth 100000 in
theorem w_310_0 {d : Nat} {Q : Option Value → Sg → Prop} (σ : Sg) (h : (((σ.1 97 45) = 0 → Q (some (.int (-1 : Int32))) σ) ∧ (¬ (σ.1 97 45) = 0 → (∃ Qc : Int32 → Sg → Prop, OkI PRG d 210 [.ref 97] σ Qc ∧ ∀ w2 σ1, Qc w2 σ1 → (((σ.1 97 48) < w2 → Q (some (.int (-1 : Int32))) σ1) ∧ (¬ (σ.1 97 48) < w2 → (((σ1.1 97 86) = (8 : Int32) → Q (some (.int (-1 : Int32))) σ1) ∧ (¬ (σ1.1 97 86) = (8 : Int32) → Rn PRG (d + 1) 310 31 [(0, .ref 97), (1, .int (0 : Int32))] [] σ1 Q)))))))) : Rn PRG (d + 1) 310 0 [(0, .ref 97)] [] σ Q := by
  have hM : PRG[310]? = some M_310 := rfl
  refine Rn.br (c := (σ.1 97 45) = 0) (a := 27) (b := 7) (ls' := [(0, .ref 97)]) (st' := []) (σ' := σ) hM 3 rfl (fun c => ?_) (fun c => ?_)
  · replace h := h.1 c
    refine Rn.seg (pc' := 28) (ls' := [(0, .ref 97)]) (st' := [.int (-1 : Int32)]) (σ' := σ) hM 1 rfl ?_
    exact Rn.ret hM rfl rfl h
  · replace h := h.2 c
    refine Rn.seg (pc' := 12) (ls' := [(0, .ref 97)]) (st' := [.ref 97, .int (σ.1 97 48)]) (σ' := σ) hM 3 rfl ?_
    obtain ⟨Qc, hq, h⟩ := h
    refine Rn.cI hM rfl rfl (by decide) hq (fun w2 σ1 hw => ?_)
    replace h := h w2 σ1 hw
    refine Rn.br (c := (σ.1 97 48) < w2) (a := 27) (b := 18) (ls' := [(0, .ref 97)]) (st' := []) (σ' := σ1) hM 1 rfl (fun c => ?_) (fun c => ?_)
    · replace h := h.1 c
      refine Rn.seg (pc' := 28) (ls' := [(0, .ref 97)]) (st' := [.int (-1 : Int32)]) (σ' := σ1) hM 1 rfl ?_
      exact Rn.ret hM rfl rfl h
    · replace h := h.2 c
      refine Rn.brN (c := (σ1.1 97 86) = (8 : Int32)) (a := 29) (b := 27) (ls' := [(0, .ref 97)]) (st' := []) (σ' := σ1) hM 4 rfl (fun c => ?_) (fun c => ?_)
      · replace h := h.2 c
        refine Rn.seg (pc' := 31) (ls' := [(1, .int (0 : Int32)), (0, .ref 97)]) (st' := []) (σ' := σ1) hM 2 rfl ?_
        exact Rn.sub h (subL_cons rfl (subL_cons rfl subL_nil)) (show ndL _ from (by decide : List.Nodup ([0, 1] : List Nat)))
      · replace h := h.1 c
        refine Rn.seg (pc' := 28) (ls' := [(0, .ref 97)]) (st' := [.int (-1 : Int32)]) (σ' := σ1) hM 1 rfl ?_
        exact Rn.ret hM rfl rfl h
set_option maxRecDepth 100000 in
theorem w_310_31 {d : Nat} {Q : Option Value → Sg → Prop} (σ : Sg) (x1 : Int32) (h : (((6 : Int32) ≤ x1 → (inR (σ.1 97 18) 2 = true ∧ Rn PRG (d + 1) 310 89 [(0, .ref 97), (1, .int (((1 : Int32) <<< ((σ.1 109 (σ.1 97 18).toNatClampNeg) &&& 31)) - (1 : Int32))), (2, .int (0 : Int32))] [] σ Q)) ∧ (¬ (6 : Int32) ≤ x1 → (inR (((6 : Int32) * (σ.1 97 86)) + x1) 48 = true ∧ (inR (((6 : Int32) * (σ.1 97 86)) + x1) 48 = true ∧ Rn PRG (d + 1) 310 31 [(0, .ref 97), (1, .int (x1 + (1 : Int32)))] [] (s1 (s1 σ 150 (((6 : Int32) * (σ.1 97 86)) + x1).toNatClampNeg (0 : Int32)) 151 (((6 : Int32) * (σ.1 97 86)) + x1).toNatClampNeg (0 : Int32)) Q))))) : Rn PRG (d + 1) 310 31 [(0, .ref 97), (1, .int x1)] [] σ Q := by
  have hM : PRG[310]? = some M_310 := rfl
  refine Rn.br (c := (6 : Int32) ≤ x1) (a := 73) (b := 37) (ls' := [(0, .ref 97), (1, .int x1)]) (st' := []) (σ' := σ) hM 3 rfl (fun c => ?_) (fun c => ?_)
  · replace h := h.1 c
    refine Rn.seg (pc' := 82) (ls' := [(0, .ref 97), (1, .int x1)]) (st' := [.int (σ.1 97 18), .ref 109, .int (1 : Int32)]) (σ' := σ) hM 5 rfl ?_
    refine Rn.iald hM rfl rfl h.1 ?_
    refine Rn.seg (pc' := 89) (ls' := [(2, .int (0 : Int32)), (1, .int (((1 : Int32) <<< ((σ.1 109 (σ.1 97 18).toNatClampNeg) &&& 31)) - (1 : Int32))), (0, .ref 97)]) (st' := []) (σ' := σ) hM 6 rfl ?_
    exact Rn.sub h.2 (subL_cons rfl (subL_cons rfl (subL_cons rfl subL_nil))) (show ndL _ from (by decide : List.Nodup ([0, 1, 2] : List Nat)))
  · replace h := h.2 c
    refine Rn.seg (pc' := 51) (ls' := [(0, .ref 97), (1, .int x1)]) (st' := [.int (0 : Int32), .int (((6 : Int32) * (σ.1 97 86)) + x1), .ref 150]) (σ' := σ) hM 9 rfl ?_
    refine Rn.iast hM rfl rfl h.1 ?_
    refine Rn.seg (pc' := 66) (ls' := [(0, .ref 97), (1, .int x1)]) (st' := [.int (0 : Int32), .int (((6 : Int32) * (σ.1 97 86)) + x1), .ref 151]) (σ' := (s1 σ 150 (((6 : Int32) * (σ.1 97 86)) + x1).toNatClampNeg (0 : Int32))) hM 9 rfl ?_
    refine Rn.iast hM rfl rfl h.2.1 ?_
    refine Rn.seg (pc' := 31) (ls' := [(1, .int (x1 + (1 : Int32))), (0, .ref 97)]) (st' := []) (σ' := (s1 (s1 σ 150 (((6 : Int32) * (σ.1 97 86)) + x1).toNatClampNeg (0 : Int32)) 151 (((6 : Int32) * (σ.1 97 86)) + x1).toNatClampNeg (0 : Int32))) hM 2 rfl ?_
    exact Rn.sub h.2.2 (subL_cons rfl (subL_cons rfl subL_nil)) (show ndL _ from (by decide : List.Nodup ([0, 1] : List Nat)))
set_option maxRecDepth 100000 in
theorem w_310_89 {d : Nat} {Q : Option Value → Sg → Prop} (σ : Sg) (x1 x2 : Int32) (h : (((σ.1 97 48) ≤ x2 → Q (some (.int (((σ.1 97 86) + (1 : Int32)) - (1 : Int32)))) (s1 σ 97 86 ((σ.1 97 86) + (1 : Int32)))) ∧ (¬ (σ.1 97 48) ≤ x2 → (inR x2 16 = true ∧ (∃ Qc : Int32 → Sg → Prop, OkI PRG d 255 [.ref 97, .int x2, .int x1] σ Qc ∧ ∀ w2 σ1, Qc w2 σ1 → (inR x2 16 = true ∧ (inR (σ.1 127 x2.toNatClampNeg) 4 = true ∧ (∃ Qc : Int32 → Sg → Prop, OkI PRG d 225 [.ref 97, .int (σ.1 127 x2.toNatClampNeg), .int x2] σ1 Qc ∧ ∀ w4 σ3, Qc w4 σ3 → (∃ Qc : Int32 → Sg → Prop, OkI PRG d 254 [.ref 97, .int w2, .int (σ1.1 126 x2.toNatClampNeg), .int ((σ1.1 125 (σ.1 127 x2.toNatClampNeg).toNatClampNeg) &&& (w4 ^^^ (-1 : Int32)))] σ3 Qc ∧ ∀ w6 σ5, Qc w6 σ5 → Rn PRG (d + 1) 310 144 [(0, .ref 97), (1, .int x1), (2, .int x2), (4, .int w2), (5, .int w6), (6, .int (0 : Int32))] [] σ5 Q))))))))) : Rn PRG (d + 1) 310 89 [(0, .ref 97), (1, .int x1), (2, .int x2)] [] σ Q := by
  have hM : PRG[310]? = some M_310 := rfl
  refine Rn.br (c := (σ.1 97 48) ≤ x2) (a := 213) (b := 97) (ls' := [(0, .ref 97), (1, .int x1), (2, .int x2)]) (st' := []) (σ' := σ) hM 4 rfl (fun c => ?_) (fun c => ?_)
  · replace h := h.1 c
    refine Rn.seg (pc' := 229) (ls' := [(0, .ref 97), (1, .int x1), (2, .int x2)]) (st' := [.int (((σ.1 97 86) + (1 : Int32)) - (1 : Int32))]) (σ' := (s1 σ 97 86 ((σ.1 97 86) + (1 : Int32)))) hM 10 rfl ?_
    exact Rn.ret hM rfl rfl h
  · replace h := h.2 c
    refine Rn.seg (pc' := 102) (ls' := [(0, .ref 97), (1, .int x1), (2, .int x2)]) (st' := [.int x2, .ref 127]) (σ' := σ) hM 3 rfl ?_
    refine Rn.iald hM rfl rfl h.1 ?_
    refine Rn.seg (pc' := 107) (ls' := [(3, .int (σ.1 127 x2.toNatClampNeg)), (0, .ref 97), (1, .int x1), (2, .int x2)]) (st' := [.int x1, .int x2, .ref 97]) (σ' := σ) hM 4 rfl ?_
    obtain ⟨Qc, hq, h⟩ := h.2
    refine Rn.cI hM rfl rfl (by decide) hq (fun w2 σ1 hw => ?_)
    replace h := h w2 σ1 hw
    refine Rn.seg (pc' := 120) (ls' := [(4, .int w2), (3, .int (σ.1 127 x2.toNatClampNeg)), (0, .ref 97), (1, .int x1), (2, .int x2)]) (st' := [.int x2, .ref 126, .int w2, .ref 97]) (σ' := σ1) hM 6 rfl ?_
    refine Rn.iald hM rfl rfl h.1 ?_
    refine Rn.seg (pc' := 126) (ls' := [(4, .int w2), (3, .int (σ.1 127 x2.toNatClampNeg)), (0, .ref 97), (1, .int x1), (2, .int x2)]) (st' := [.int (σ.1 127 x2.toNatClampNeg), .ref 125, .int (σ1.1 126 x2.toNatClampNeg), .int w2, .ref 97]) (σ' := σ1) hM 3 rfl ?_
    refine Rn.iald hM rfl rfl h.2.1 ?_
    refine Rn.seg (pc' := 130) (ls' := [(4, .int w2), (3, .int (σ.1 127 x2.toNatClampNeg)), (0, .ref 97), (1, .int x1), (2, .int x2)]) (st' := [.int x2, .int (σ.1 127 x2.toNatClampNeg), .ref 97, .int (σ1.1 125 (σ.1 127 x2.toNatClampNeg).toNatClampNeg), .int (σ1.1 126 x2.toNatClampNeg), .int w2, .ref 97]) (σ' := σ1) hM 3 rfl ?_
    obtain ⟨Qc, hq, h⟩ := h.2.2
    refine Rn.cI hM rfl rfl (by decide) hq (fun w4 σ3 hw => ?_)
    replace h := h w4 σ3 hw
    refine Rn.seg (pc' := 136) (ls' := [(4, .int w2), (3, .int (σ.1 127 x2.toNatClampNeg)), (0, .ref 97), (1, .int x1), (2, .int x2)]) (st' := [.int ((σ1.1 125 (σ.1 127 x2.toNatClampNeg).toNatClampNeg) &&& (w4 ^^^ (-1 : Int32))), .int (σ1.1 126 x2.toNatClampNeg), .int w2, .ref 97]) (σ' := σ3) hM 3 rfl ?_
    obtain ⟨Qc, hq, h⟩ := h
    refine Rn.cI hM rfl rfl (by decide) hq (fun w6 σ5 hw => ?_)
    replace h := h w6 σ5 hw
    refine Rn.seg (pc' := 144) (ls' := [(6, .int (0 : Int32)), (5, .int w6), (4, .int w2), (3, .int (σ.1 127 x2.toNatClampNeg)), (0, .ref 97), (1, .int x1), (2, .int x2)]) (st' := []) (σ' := σ5) hM 3 rfl ?_
    exact Rn.sub h (subL_cons rfl (subL_cons rfl (subL_cons rfl (subL_cons rfl (subL_cons rfl (subL_cons rfl subL_nil)))))) (show ndL _ from (by decide : List.Nodup ([0, 1, 2, 4, 5, 6] : List Nat)))
set_option maxRecDepth 100000 in
theorem w_310_144 {d : Nat} {Q : Option Value → Sg → Prop} (σ : Sg) (x1 x2 x4 x5 x6 : Int32) (h : (((6 : Int32) ≤ x6 → Rn PRG (d + 1) 310 89 [(0, .ref 97), (1, .int x1), (2, .int (x2 + (1 : Int32)))] [] σ Q) ∧ (¬ (6 : Int32) ≤ x6 → (inR (((6 : Int32) * (σ.1 97 86)) + x6) 48 = true ∧ (inR (((6 : Int32) * (σ.1 97 86)) + x6) 48 = true ∧ (inR (((6 : Int32) * (σ.1 97 86)) + x6) 48 = true ∧ (inR (((6 : Int32) * (σ.1 97 86)) + x6) 48 = true ∧ Rn PRG (d + 1) 310 144 [(0, .ref 97), (1, .int x1), (2, .int x2), (4, .int x4), (5, .int x5), (6, .int (x6 + (1 : Int32)))] [] (s1 (s1 σ 150 (((6 : Int32) * (σ.1 97 86)) + x6).toNatClampNeg ((σ.1 150 (((6 : Int32) * (σ.1 97 86)) + x6).toNatClampNeg) + ((x4 >>> (x6 &&& 31)) &&& (1 : Int32)))) 151 (((6 : Int32) * (σ.1 97 86)) + x6).toNatClampNeg ((σ.1 151 (((6 : Int32) * (σ.1 97 86)) + x6).toNatClampNeg) + ((x5 >>> (x6 &&& 31)) &&& (1 : Int32)))) Q))))))) : Rn PRG (d + 1) 310 144 [(0, .ref 97), (1, .int x1), (2, .int x2), (4, .int x4), (5, .int x5), (6, .int x6)] [] σ Q := by
  have hM : PRG[310]? = some M_310 := rfl
  refine Rn.br (c := (6 : Int32) ≤ x6) (a := 207) (b := 151) (ls' := [(0, .ref 97), (1, .int x1), (2, .int x2), (4, .int x4), (5, .int x5), (6, .int x6)]) (st' := []) (σ' := σ) hM 3 rfl (fun c => ?_) (fun c => ?_)
  · replace h := h.1 c
    refine Rn.seg (pc' := 89) (ls' := [(2, .int (x2 + (1 : Int32))), (0, .ref 97), (1, .int x1), (4, .int x4), (5, .int x5), (6, .int x6)]) (st' := []) (σ' := σ) hM 2 rfl ?_
    exact Rn.sub h (subL_cons rfl (subL_cons rfl (subL_cons rfl subL_nil))) (show ndL _ from (by decide : List.Nodup ([0, 1, 2] : List Nat)))
  · replace h := h.2 c
    refine Rn.seg (pc' := 166) (ls' := [(0, .ref 97), (1, .int x1), (2, .int x2), (4, .int x4), (5, .int x5), (6, .int x6)]) (st' := [.int (((6 : Int32) * (σ.1 97 86)) + x6), .ref 150, .int (((6 : Int32) * (σ.1 97 86)) + x6), .ref 150]) (σ' := σ) hM 9 rfl ?_
    refine Rn.iald hM rfl rfl h.1 ?_
    refine Rn.seg (pc' := 175) (ls' := [(0, .ref 97), (1, .int x1), (2, .int x2), (4, .int x4), (5, .int x5), (6, .int x6)]) (st' := [.int ((σ.1 150 (((6 : Int32) * (σ.1 97 86)) + x6).toNatClampNeg) + ((x4 >>> (x6 &&& 31)) &&& (1 : Int32))), .int (((6 : Int32) * (σ.1 97 86)) + x6), .ref 150]) (σ' := σ) hM 6 rfl ?_
    refine Rn.iast hM rfl rfl h.2.1 ?_
    refine Rn.seg (pc' := 191) (ls' := [(0, .ref 97), (1, .int x1), (2, .int x2), (4, .int x4), (5, .int x5), (6, .int x6)]) (st' := [.int (((6 : Int32) * (σ.1 97 86)) + x6), .ref 151, .int (((6 : Int32) * (σ.1 97 86)) + x6), .ref 151]) (σ' := (s1 σ 150 (((6 : Int32) * (σ.1 97 86)) + x6).toNatClampNeg ((σ.1 150 (((6 : Int32) * (σ.1 97 86)) + x6).toNatClampNeg) + ((x4 >>> (x6 &&& 31)) &&& (1 : Int32))))) hM 9 rfl ?_
    refine Rn.iald hM rfl rfl h.2.2.1 ?_
    refine Rn.seg (pc' := 200) (ls' := [(0, .ref 97), (1, .int x1), (2, .int x2), (4, .int x4), (5, .int x5), (6, .int x6)]) (st' := [.int ((σ.1 151 (((6 : Int32) * (σ.1 97 86)) + x6).toNatClampNeg) + ((x5 >>> (x6 &&& 31)) &&& (1 : Int32))), .int (((6 : Int32) * (σ.1 97 86)) + x6), .ref 151]) (σ' := (s1 σ 150 (((6 : Int32) * (σ.1 97 86)) + x6).toNatClampNeg ((σ.1 150 (((6 : Int32) * (σ.1 97 86)) + x6).toNatClampNeg) + ((x4 >>> (x6 &&& 31)) &&& (1 : Int32))))) hM 6 rfl ?_
    refine Rn.iast hM rfl rfl h.2.2.2.1 ?_
    refine Rn.seg (pc' := 144) (ls' := [(6, .int (x6 + (1 : Int32))), (0, .ref 97), (1, .int x1), (2, .int x2), (4, .int x4), (5, .int x5)]) (st' := []) (σ' := (s1 (s1 σ 150 (((6 : Int32) * (σ.1 97 86)) + x6).toNatClampNeg ((σ.1 150 (((6 : Int32) * (σ.1 97 86)) + x6).toNatClampNeg) + ((x4 >>> (x6 &&& 31)) &&& (1 : Int32)))) 151 (((6 : Int32) * (σ.1 97 86)) + x6).toNatClampNeg ((σ.1 151 (((6 : Int32) * (σ.1 97 86)) + x6).toNatClampNeg) + ((x5 >>> (x6 &&& 31)) &&& (1 : Int32))))) hM 2 rfl ?_
    exact Rn.sub h.2.2.2.2 (subL_cons rfl (subL_cons rfl (subL_cons rfl (subL_cons rfl (subL_cons rfl (subL_cons rfl subL_nil)))))) (show ndL _ from (by decide : List.Nodup ([0, 1, 2, 4, 5, 6] : List Nat)))
set_option maxRecDepth 100000 in
theorem w_316_0 {d : Nat} {Q : Option Value → Sg → Prop} (σ : Sg) (x1 x2 x3 x4 x5 : Int32) (h : (∃ Qc : Sg → Prop, OkV PRG d 248 [.ref 97, .int x4, .int (-1 : Int32), .int (0 : Int32), .int (-1 : Int32)] σ Qc ∧ ∀ σ1, Qc σ1 → ((x1 = (3 : Int32) → Rn PRG (d + 1) 316 17 [(0, .ref 97), (6, .int (0 : Int32))] [] σ1 Q) ∧ (¬ x1 = (3 : Int32) → (∃ Qc : Int32 → Sg → Prop, OkI PRG d 251 [.ref 97, .int x2] σ1 Qc ∧ ∀ w3 σ2, Qc w3 σ2 → ((w3 = 0 → Q (some (.int (0 : Int32))) σ2) ∧ (¬ w3 = 0 → ((x1 = (2 : Int32) → (∃ Qc : Int32 → Sg → Prop, OkI PRG d 251 [.ref 97, .int x3] σ2 Qc ∧ ∀ w12 σ11, Qc w12 σ11 → ((w12 = 0 → Q (some (.int (0 : Int32))) σ11) ∧ (¬ w12 = 0 → ((x1 = 0 → Q (some (.int (1 : Int32))) σ11) ∧ (¬ x1 = 0 → (∃ Qc : Sg → Prop, OkV PRG d 249 [.ref 97, .int x4, .int x5] σ11 Qc ∧ ∀ σ13, Qc σ13 → ((x1 = (1 : Int32) → (∃ Qc : Int32 → Sg → Prop, OkI PRG d 252 [.ref 97, .int x2] σ13 Qc ∧ ∀ w19 σ18, Qc w19 σ18 → ((w19 = 0 ∨ w19 = 1) ∧ Q (some (.int w19)) σ18))) ∧ (¬ x1 = (1 : Int32) → (∃ Qc : Int32 → Sg → Prop, OkI PRG d 252 [.ref 97, .int x2] σ13 Qc ∧ ∀ w15 σ14, Qc w15 σ14 → (∃ Qc : Int32 → Sg → Prop, OkI PRG d 252 [.ref 97, .int x3] σ14 Qc ∧ ∀ w17 σ16, Qc w17 σ16 → ((w15 = w17 → Q (some (.int (0 : Int32))) σ16) ∧ (¬ w15 = w17 → Q (some (.int (1 : Int32))) σ16))))))))))))) ∧ (¬ x1 = (2 : Int32) → ((x1 = 0 → Q (some (.int (1 : Int32))) σ2) ∧ (¬ x1 = 0 → (∃ Qc : Sg → Prop, OkV PRG d 249 [.ref 97, .int x4, .int x5] σ2 Qc ∧ ∀ σ4, Qc σ4 → ((x1 = (1 : Int32) → (∃ Qc : Int32 → Sg → Prop, OkI PRG d 252 [.ref 97, .int x2] σ4 Qc ∧ ∀ w10 σ9, Qc w10 σ9 → ((w10 = 0 ∨ w10 = 1) ∧ Q (some (.int w10)) σ9))) ∧ (¬ x1 = (1 : Int32) → (∃ Qc : Int32 → Sg → Prop, OkI PRG d 252 [.ref 97, .int x2] σ4 Qc ∧ ∀ w6 σ5, Qc w6 σ5 → (∃ Qc : Int32 → Sg → Prop, OkI PRG d 252 [.ref 97, .int x3] σ5 Qc ∧ ∀ w8 σ7, Qc w8 σ7 → ((w6 = w8 → Q (some (.int (0 : Int32))) σ7) ∧ (¬ w6 = w8 → Q (some (.int (1 : Int32))) σ7)))))))))))))))))) : Rn PRG (d + 1) 316 0 [(0, .ref 97), (1, .int x1), (2, .int x2), (3, .int x3), (4, .int x4), (5, .int x5)] [] σ Q := by
  have hM : PRG[316]? = some M_316 := rfl
  refine Rn.seg (pc' := 6) (ls' := [(0, .ref 97), (1, .int x1), (2, .int x2), (3, .int x3), (4, .int x4), (5, .int x5)]) (st' := [.int (-1 : Int32), .int (0 : Int32), .int (-1 : Int32), .int x4, .ref 97]) (σ' := σ) hM 5 rfl ?_
  obtain ⟨Qc, hq, h⟩ := h
  refine Rn.cV hM rfl rfl (by decide) hq (fun σ1 hw => ?_)
  replace h := h σ1 hw
  refine Rn.brN (c := x1 = (3 : Int32)) (a := 59) (b := 14) (ls' := [(0, .ref 97), (1, .int x1), (2, .int x2), (3, .int x3), (4, .int x4), (5, .int x5)]) (st' := []) (σ' := σ1) hM 3 rfl (fun c => ?_) (fun c => ?_)
  · replace h := h.2 c
    refine Rn.seg (pc' := 61) (ls' := [(0, .ref 97), (1, .int x1), (2, .int x2), (3, .int x3), (4, .int x4), (5, .int x5)]) (st' := [.int x2, .ref 97]) (σ' := σ1) hM 2 rfl ?_
    obtain ⟨Qc, hq, h⟩ := h
    refine Rn.cI hM rfl rfl (by decide) hq (fun w3 σ2 hw => ?_)
    replace h := h w3 σ2 hw
    refine Rn.br (c := w3 = 0) (a := 80) (b := 67) (ls' := [(0, .ref 97), (1, .int x1), (2, .int x2), (3, .int x3), (4, .int x4), (5, .int x5)]) (st' := []) (σ' := σ2) hM 1 rfl (fun c => ?_) (fun c => ?_)
    · replace h := h.1 c
      refine Rn.seg (pc' := 81) (ls' := [(0, .ref 97), (1, .int x1), (2, .int x2), (3, .int x3), (4, .int x4), (5, .int x5)]) (st' := [.int (0 : Int32)]) (σ' := σ2) hM 1 rfl ?_
      exact Rn.ret hM rfl rfl h
    · replace h := h.2 c
      refine Rn.brN (c := x1 = (2 : Int32)) (a := 82) (b := 72) (ls' := [(0, .ref 97), (1, .int x1), (2, .int x2), (3, .int x3), (4, .int x4), (5, .int x5)]) (st' := []) (σ' := σ2) hM 3 rfl (fun c => ?_) (fun c => ?_)
      · replace h := h.2 c
        refine Rn.brN (c := x1 = 0) (a := 88) (b := 86) (ls' := [(0, .ref 97), (1, .int x1), (2, .int x2), (3, .int x3), (4, .int x4), (5, .int x5)]) (st' := []) (σ' := σ2) hM 2 rfl (fun c => ?_) (fun c => ?_)
        · replace h := h.2 c
          refine Rn.seg (pc' := 93) (ls' := [(0, .ref 97), (1, .int x1), (2, .int x2), (3, .int x3), (4, .int x4), (5, .int x5)]) (st' := [.int x5, .int x4, .ref 97]) (σ' := σ2) hM 3 rfl ?_
          obtain ⟨Qc, hq, h⟩ := h
          refine Rn.cV hM rfl rfl (by decide) hq (fun σ4 hw => ?_)
          replace h := h σ4 hw
          refine Rn.brN (c := x1 = (1 : Int32)) (a := 109) (b := 101) (ls' := [(0, .ref 97), (1, .int x1), (2, .int x2), (3, .int x3), (4, .int x4), (5, .int x5)]) (st' := []) (σ' := σ4) hM 3 rfl (fun c => ?_) (fun c => ?_)
          · replace h := h.2 c
            refine Rn.seg (pc' := 111) (ls' := [(0, .ref 97), (1, .int x1), (2, .int x2), (3, .int x3), (4, .int x4), (5, .int x5)]) (st' := [.int x2, .ref 97]) (σ' := σ4) hM 2 rfl ?_
            obtain ⟨Qc, hq, h⟩ := h
            refine Rn.cI hM rfl rfl (by decide) hq (fun w6 σ5 hw => ?_)
            replace h := h w6 σ5 hw
            refine Rn.seg (pc' := 116) (ls' := [(0, .ref 97), (1, .int x1), (2, .int x2), (3, .int x3), (4, .int x4), (5, .int x5)]) (st' := [.int x3, .ref 97, .int w6]) (σ' := σ5) hM 2 rfl ?_
            obtain ⟨Qc, hq, h⟩ := h
            refine Rn.cI hM rfl rfl (by decide) hq (fun w8 σ7 hw => ?_)
            replace h := h w8 σ7 hw
            refine Rn.br (c := w6 = w8) (a := 126) (b := 122) (ls' := [(0, .ref 97), (1, .int x1), (2, .int x2), (3, .int x3), (4, .int x4), (5, .int x5)]) (st' := []) (σ' := σ7) hM 1 rfl (fun c => ?_) (fun c => ?_)
            · replace h := h.1 c
              refine Rn.seg (pc' := 127) (ls' := [(0, .ref 97), (1, .int x1), (2, .int x2), (3, .int x3), (4, .int x4), (5, .int x5)]) (st' := [.int (0 : Int32)]) (σ' := σ7) hM 1 rfl ?_
              exact Rn.ret hM rfl rfl h
            · replace h := h.2 c
              refine Rn.seg (pc' := 127) (ls' := [(0, .ref 97), (1, .int x1), (2, .int x2), (3, .int x3), (4, .int x4), (5, .int x5)]) (st' := [.int (1 : Int32)]) (σ' := σ7) hM 2 rfl ?_
              exact Rn.ret hM rfl rfl h
          · replace h := h.1 c
            refine Rn.seg (pc' := 103) (ls' := [(0, .ref 97), (1, .int x1), (2, .int x2), (3, .int x3), (4, .int x4), (5, .int x5)]) (st' := [.int x2, .ref 97]) (σ' := σ4) hM 2 rfl ?_
            obtain ⟨Qc, hq, h⟩ := h
            refine Rn.cI hM rfl rfl (by decide) hq (fun w10 σ9 hw => ?_)
            replace h := h w10 σ9 hw
            refine Rn.seg (pc' := 127) (ls' := [(0, .ref 97), (1, .int x1), (2, .int x2), (3, .int x3), (4, .int x4), (5, .int x5)]) (st' := [.int w10]) (σ' := σ9) hM 1 rfl ?_
            exact Rn.retZ hM rfl rfl h.1 h.2
        · replace h := h.1 c
          refine Rn.seg (pc' := 87) (ls' := [(0, .ref 97), (1, .int x1), (2, .int x2), (3, .int x3), (4, .int x4), (5, .int x5)]) (st' := [.int (1 : Int32)]) (σ' := σ2) hM 1 rfl ?_
          exact Rn.ret hM rfl rfl h
      · replace h := h.1 c
        refine Rn.seg (pc' := 74) (ls' := [(0, .ref 97), (1, .int x1), (2, .int x2), (3, .int x3), (4, .int x4), (5, .int x5)]) (st' := [.int x3, .ref 97]) (σ' := σ2) hM 2 rfl ?_
        obtain ⟨Qc, hq, h⟩ := h
        refine Rn.cI hM rfl rfl (by decide) hq (fun w12 σ11 hw => ?_)
        replace h := h w12 σ11 hw
        refine Rn.brN (c := w12 = 0) (a := 82) (b := 80) (ls' := [(0, .ref 97), (1, .int x1), (2, .int x2), (3, .int x3), (4, .int x4), (5, .int x5)]) (st' := []) (σ' := σ11) hM 1 rfl (fun c => ?_) (fun c => ?_)
        · replace h := h.2 c
          refine Rn.brN (c := x1 = 0) (a := 88) (b := 86) (ls' := [(0, .ref 97), (1, .int x1), (2, .int x2), (3, .int x3), (4, .int x4), (5, .int x5)]) (st' := []) (σ' := σ11) hM 2 rfl (fun c => ?_) (fun c => ?_)
          · replace h := h.2 c
            refine Rn.seg (pc' := 93) (ls' := [(0, .ref 97), (1, .int x1), (2, .int x2), (3, .int x3), (4, .int x4), (5, .int x5)]) (st' := [.int x5, .int x4, .ref 97]) (σ' := σ11) hM 3 rfl ?_
            obtain ⟨Qc, hq, h⟩ := h
            refine Rn.cV hM rfl rfl (by decide) hq (fun σ13 hw => ?_)
            replace h := h σ13 hw
            refine Rn.brN (c := x1 = (1 : Int32)) (a := 109) (b := 101) (ls' := [(0, .ref 97), (1, .int x1), (2, .int x2), (3, .int x3), (4, .int x4), (5, .int x5)]) (st' := []) (σ' := σ13) hM 3 rfl (fun c => ?_) (fun c => ?_)
            · replace h := h.2 c
              refine Rn.seg (pc' := 111) (ls' := [(0, .ref 97), (1, .int x1), (2, .int x2), (3, .int x3), (4, .int x4), (5, .int x5)]) (st' := [.int x2, .ref 97]) (σ' := σ13) hM 2 rfl ?_
              obtain ⟨Qc, hq, h⟩ := h
              refine Rn.cI hM rfl rfl (by decide) hq (fun w15 σ14 hw => ?_)
              replace h := h w15 σ14 hw
              refine Rn.seg (pc' := 116) (ls' := [(0, .ref 97), (1, .int x1), (2, .int x2), (3, .int x3), (4, .int x4), (5, .int x5)]) (st' := [.int x3, .ref 97, .int w15]) (σ' := σ14) hM 2 rfl ?_
              obtain ⟨Qc, hq, h⟩ := h
              refine Rn.cI hM rfl rfl (by decide) hq (fun w17 σ16 hw => ?_)
              replace h := h w17 σ16 hw
              refine Rn.br (c := w15 = w17) (a := 126) (b := 122) (ls' := [(0, .ref 97), (1, .int x1), (2, .int x2), (3, .int x3), (4, .int x4), (5, .int x5)]) (st' := []) (σ' := σ16) hM 1 rfl (fun c => ?_) (fun c => ?_)
              · replace h := h.1 c
                refine Rn.seg (pc' := 127) (ls' := [(0, .ref 97), (1, .int x1), (2, .int x2), (3, .int x3), (4, .int x4), (5, .int x5)]) (st' := [.int (0 : Int32)]) (σ' := σ16) hM 1 rfl ?_
                exact Rn.ret hM rfl rfl h
              · replace h := h.2 c
                refine Rn.seg (pc' := 127) (ls' := [(0, .ref 97), (1, .int x1), (2, .int x2), (3, .int x3), (4, .int x4), (5, .int x5)]) (st' := [.int (1 : Int32)]) (σ' := σ16) hM 2 rfl ?_
                exact Rn.ret hM rfl rfl h
            · replace h := h.1 c
              refine Rn.seg (pc' := 103) (ls' := [(0, .ref 97), (1, .int x1), (2, .int x2), (3, .int x3), (4, .int x4), (5, .int x5)]) (st' := [.int x2, .ref 97]) (σ' := σ13) hM 2 rfl ?_
              obtain ⟨Qc, hq, h⟩ := h
              refine Rn.cI hM rfl rfl (by decide) hq (fun w19 σ18 hw => ?_)
              replace h := h w19 σ18 hw
              refine Rn.seg (pc' := 127) (ls' := [(0, .ref 97), (1, .int x1), (2, .int x2), (3, .int x3), (4, .int x4), (5, .int x5)]) (st' := [.int w19]) (σ' := σ18) hM 1 rfl ?_
              exact Rn.retZ hM rfl rfl h.1 h.2
          · replace h := h.1 c
            refine Rn.seg (pc' := 87) (ls' := [(0, .ref 97), (1, .int x1), (2, .int x2), (3, .int x3), (4, .int x4), (5, .int x5)]) (st' := [.int (1 : Int32)]) (σ' := σ11) hM 1 rfl ?_
            exact Rn.ret hM rfl rfl h
        · replace h := h.1 c
          refine Rn.seg (pc' := 81) (ls' := [(0, .ref 97), (1, .int x1), (2, .int x2), (3, .int x3), (4, .int x4), (5, .int x5)]) (st' := [.int (0 : Int32)]) (σ' := σ11) hM 1 rfl ?_
          exact Rn.ret hM rfl rfl h
  · replace h := h.1 c
    refine Rn.seg (pc' := 17) (ls' := [(6, .int (0 : Int32)), (0, .ref 97), (1, .int x1), (2, .int x2), (3, .int x3), (4, .int x4), (5, .int x5)]) (st' := []) (σ' := σ1) hM 2 rfl ?_
    exact Rn.sub h (subL_cons rfl (subL_cons rfl subL_nil)) (show ndL _ from (by decide : List.Nodup ([0, 6] : List Nat)))
set_option maxRecDepth 100000 in
theorem w_316_17 {d : Nat} {Q : Option Value → Sg → Prop} (σ : Sg) (x6 : Int32) (h : (inR (σ.1 97 18) 2 = true ∧ (((σ.1 109 (σ.1 97 18).toNatClampNeg) ≤ x6 → Q (some (.int (1 : Int32))) σ) ∧ (¬ (σ.1 109 (σ.1 97 18).toNatClampNeg) ≤ x6 → (∃ Qc : Int32 → Sg → Prop, OkI PRG d 315 [.ref 97, .int x6] σ Qc ∧ ∀ w2 σ1, Qc w2 σ1 → ((w2 = 0 → Rn PRG (d + 1) 316 17 [(0, .ref 97), (6, .int (x6 + (1 : Int32)))] [] σ1 Q) ∧ (¬ w2 = 0 → (∃ Qc : Int32 → Sg → Prop, OkI PRG d 251 [.ref 97, .int x6] σ1 Qc ∧ ∀ w4 σ3, Qc w4 σ3 → ((w4 = 0 → Rn PRG (d + 1) 316 17 [(0, .ref 97), (6, .int (x6 + (1 : Int32)))] [] σ3 Q) ∧ (¬ w4 = 0 → Q (some (.int (0 : Int32))) σ3)))))))))) : Rn PRG (d + 1) 316 17 [(0, .ref 97), (6, .int x6)] [] σ Q := by
  have hM : PRG[316]? = some M_316 := rfl
  refine Rn.seg (pc' := 27) (ls' := [(0, .ref 97), (6, .int x6)]) (st' := [.int (σ.1 97 18), .ref 109, .int x6]) (σ' := σ) hM 5 rfl ?_
  refine Rn.iald hM rfl rfl h.1 ?_
  refine Rn.br (c := (σ.1 109 (σ.1 97 18).toNatClampNeg) ≤ x6) (a := 57) (b := 31) (ls' := [(0, .ref 97), (6, .int x6)]) (st' := []) (σ' := σ) hM 1 rfl (fun c => ?_) (fun c => ?_)
  · replace h := h.2.1 c
    refine Rn.seg (pc' := 58) (ls' := [(0, .ref 97), (6, .int x6)]) (st' := [.int (1 : Int32)]) (σ' := σ) hM 1 rfl ?_
    exact Rn.ret hM rfl rfl h
  · replace h := h.2.2 c
    refine Rn.seg (pc' := 34) (ls' := [(0, .ref 97), (6, .int x6)]) (st' := [.int x6, .ref 97]) (σ' := σ) hM 2 rfl ?_
    obtain ⟨Qc, hq, h⟩ := h
    refine Rn.cI hM rfl rfl (by decide) hq (fun w2 σ1 hw => ?_)
    replace h := h w2 σ1 hw
    refine Rn.br (c := w2 = 0) (a := 51) (b := 40) (ls' := [(0, .ref 97), (6, .int x6)]) (st' := []) (σ' := σ1) hM 1 rfl (fun c => ?_) (fun c => ?_)
    · replace h := h.1 c
      refine Rn.seg (pc' := 17) (ls' := [(6, .int (x6 + (1 : Int32))), (0, .ref 97)]) (st' := []) (σ' := σ1) hM 2 rfl ?_
      exact Rn.sub h (subL_cons rfl (subL_cons rfl subL_nil)) (show ndL _ from (by decide : List.Nodup ([0, 6] : List Nat)))
    · replace h := h.2 c
      refine Rn.seg (pc' := 43) (ls' := [(0, .ref 97), (6, .int x6)]) (st' := [.int x6, .ref 97]) (σ' := σ1) hM 2 rfl ?_
      obtain ⟨Qc, hq, h⟩ := h
      refine Rn.cI hM rfl rfl (by decide) hq (fun w4 σ3 hw => ?_)
      replace h := h w4 σ3 hw
      refine Rn.br (c := w4 = 0) (a := 51) (b := 49) (ls' := [(0, .ref 97), (6, .int x6)]) (st' := []) (σ' := σ3) hM 1 rfl (fun c => ?_) (fun c => ?_)
      · replace h := h.1 c
        refine Rn.seg (pc' := 17) (ls' := [(6, .int (x6 + (1 : Int32))), (0, .ref 97)]) (st' := []) (σ' := σ3) hM 2 rfl ?_
        exact Rn.sub h (subL_cons rfl (subL_cons rfl subL_nil)) (show ndL _ from (by decide : List.Nodup ([0, 6] : List Nat)))
      · replace h := h.2 c
        refine Rn.seg (pc' := 50) (ls' := [(0, .ref 97), (6, .int x6)]) (st' := [.int (0 : Int32)]) (σ' := σ3) hM 1 rfl ?_
        exact Rn.ret hM rfl rfl h
set_option maxRecDepth 100000 in
theorem w_317_0 {d : Nat} {Q : Option Value → Sg → Prop} (σ : Sg) (x1 x2 x3 : Int32) (h : Rn PRG (d + 1) 317 6 [(0, .ref 97), (1, .int x1), (2, .int x2), (3, .int x3), (4, .int (0 : Int32)), (5, .int (0 : Int32))] [] σ Q) : Rn PRG (d + 1) 317 0 [(0, .ref 97), (1, .int x1), (2, .int x2), (3, .int x3)] [] σ Q := by
  have hM : PRG[317]? = some M_317 := rfl
  refine Rn.seg (pc' := 6) (ls' := [(5, .int (0 : Int32)), (4, .int (0 : Int32)), (0, .ref 97), (1, .int x1), (2, .int x2), (3, .int x3)]) (st' := []) (σ' := σ) hM 4 rfl ?_
  exact Rn.sub h (subL_cons rfl (subL_cons rfl (subL_cons rfl (subL_cons rfl (subL_cons rfl (subL_cons rfl subL_nil)))))) (show ndL _ from (by decide : List.Nodup ([0, 1, 2, 3, 4, 5] : List Nat)))
set_option maxRecDepth 100000 in
theorem w_317_6 {d : Nat} {Q : Option Value → Sg → Prop} (σ : Sg) (x1 x2 x3 x4 x5 : Int32) (h : (∃ Qc : Int32 → Sg → Prop, OkI PRG d 210 [.ref 97] σ Qc ∧ ∀ w2 σ1, Qc w2 σ1 → ((((1 : Int32) <<< (w2 &&& 31)) ≤ x5 → Q (some (.int x4)) σ1) ∧ (¬ ((1 : Int32) <<< (w2 &&& 31)) ≤ x5 → (∃ Qc : Int32 → Sg → Prop, OkI PRG d 209 [.int x5] σ1 Qc ∧ ∀ w4 σ3, Qc w4 σ3 → (∃ Qc : Int32 → Sg → Prop, OkI PRG d 211 [.ref 97] σ3 Qc ∧ ∀ w6 σ5, Qc w6 σ5 → ((w4 = w6 → Rn PRG (d + 1) 317 35 [(0, .ref 97), (1, .int x1), (2, .int x2), (3, .int x3), (4, .int x4), (5, .int x5), (6, .int (0 : Int32))] [] σ5 Q) ∧ (¬ w4 = w6 → Rn PRG (d + 1) 317 6 [(0, .ref 97), (1, .int x1), (2, .int x2), (3, .int x3), (4, .int x4), (5, .int (x5 + (1 : Int32)))] [] σ5 Q)))))))) : Rn PRG (d + 1) 317 6 [(0, .ref 97), (1, .int x1), (2, .int x2), (3, .int x3), (4, .int x4), (5, .int x5)] [] σ Q := by
  have hM : PRG[317]? = some M_317 := rfl
  refine Rn.seg (pc' := 10) (ls' := [(0, .ref 97), (1, .int x1), (2, .int x2), (3, .int x3), (4, .int x4), (5, .int x5)]) (st' := [.ref 97, .int (1 : Int32), .int x5]) (σ' := σ) hM 3 rfl ?_
  obtain ⟨Qc, hq, h⟩ := h
  refine Rn.cI hM rfl rfl (by decide) hq (fun w2 σ1 hw => ?_)
  replace h := h w2 σ1 hw
  refine Rn.br (c := ((1 : Int32) <<< (w2 &&& 31)) ≤ x5) (a := 84) (b := 17) (ls' := [(0, .ref 97), (1, .int x1), (2, .int x2), (3, .int x3), (4, .int x4), (5, .int x5)]) (st' := []) (σ' := σ1) hM 2 rfl (fun c => ?_) (fun c => ?_)
  · replace h := h.1 c
    refine Rn.seg (pc' := 86) (ls' := [(0, .ref 97), (1, .int x1), (2, .int x2), (3, .int x3), (4, .int x4), (5, .int x5)]) (st' := [.int x4]) (σ' := σ1) hM 1 rfl ?_
    exact Rn.ret hM rfl rfl h
  · replace h := h.2 c
    refine Rn.seg (pc' := 19) (ls' := [(0, .ref 97), (1, .int x1), (2, .int x2), (3, .int x3), (4, .int x4), (5, .int x5)]) (st' := [.int x5]) (σ' := σ1) hM 1 rfl ?_
    obtain ⟨Qc, hq, h⟩ := h
    refine Rn.cI hM rfl rfl (by decide) hq (fun w4 σ3 hw => ?_)
    replace h := h w4 σ3 hw
    refine Rn.seg (pc' := 23) (ls' := [(0, .ref 97), (1, .int x1), (2, .int x2), (3, .int x3), (4, .int x4), (5, .int x5)]) (st' := [.ref 97, .int w4]) (σ' := σ3) hM 1 rfl ?_
    obtain ⟨Qc, hq, h⟩ := h
    refine Rn.cI hM rfl rfl (by decide) hq (fun w6 σ5 hw => ?_)
    replace h := h w6 σ5 hw
    refine Rn.br (c := w4 = w6) (a := 32) (b := 29) (ls' := [(0, .ref 97), (1, .int x1), (2, .int x2), (3, .int x3), (4, .int x4), (5, .int x5)]) (st' := []) (σ' := σ5) hM 1 rfl (fun c => ?_) (fun c => ?_)
    · replace h := h.1 c
      refine Rn.seg (pc' := 35) (ls' := [(6, .int (0 : Int32)), (0, .ref 97), (1, .int x1), (2, .int x2), (3, .int x3), (4, .int x4), (5, .int x5)]) (st' := []) (σ' := σ5) hM 2 rfl ?_
      exact Rn.sub h (subL_cons rfl (subL_cons rfl (subL_cons rfl (subL_cons rfl (subL_cons rfl (subL_cons rfl (subL_cons rfl subL_nil))))))) (show ndL _ from (by decide : List.Nodup ([0, 1, 2, 3, 4, 5, 6] : List Nat)))
    · replace h := h.2 c
      refine Rn.seg (pc' := 6) (ls' := [(5, .int (x5 + (1 : Int32))), (0, .ref 97), (1, .int x1), (2, .int x2), (3, .int x3), (4, .int x4)]) (st' := []) (σ' := σ5) hM 3 rfl ?_
      exact Rn.sub h (subL_cons rfl (subL_cons rfl (subL_cons rfl (subL_cons rfl (subL_cons rfl (subL_cons rfl subL_nil)))))) (show ndL _ from (by decide : List.Nodup ([0, 1, 2, 3, 4, 5] : List Nat)))
set_option maxRecDepth 100000 in
theorem w_317_35 {d : Nat} {Q : Option Value → Sg → Prop} (σ : Sg) (x1 x2 x3 x4 x5 x6 : Int32) (h : (∃ Qc : Int32 → Sg → Prop, OkI PRG d 210 [.ref 97] σ Qc ∧ ∀ w2 σ1, Qc w2 σ1 → ((w2 ≤ x6 → Rn PRG (d + 1) 317 6 [(0, .ref 97), (1, .int x1), (2, .int x2), (3, .int x3), (4, .int x4), (5, .int (x5 + (1 : Int32)))] [] σ1 Q) ∧ (¬ w2 ≤ x6 → ((((x5 >>> (x6 &&& 31)) &&& (1 : Int32)) = (1 : Int32) → (∃ Qc : Int32 → Sg → Prop, OkI PRG d 316 [.ref 97, .int x1, .int x2, .int x3, .int x6, .int x5] σ1 Qc ∧ ∀ w4 σ3, Qc w4 σ3 → ((w4 = 0 → Rn PRG (d + 1) 317 35 [(0, .ref 97), (1, .int x1), (2, .int x2), (3, .int x3), (4, .int x4), (5, .int x5), (6, .int (x6 + (1 : Int32)))] [] σ3 Q) ∧ (¬ w4 = 0 → Rn PRG (d + 1) 317 35 [(0, .ref 97), (1, .int x1), (2, .int x2), (3, .int x3), (4, .int (x4 + (1 : Int32))), (5, .int x5), (6, .int (x6 + (1 : Int32)))] [] σ3 Q)))) ∧ (¬ ((x5 >>> (x6 &&& 31)) &&& (1 : Int32)) = (1 : Int32) → Rn PRG (d + 1) 317 35 [(0, .ref 97), (1, .int x1), (2, .int x2), (3, .int x3), (4, .int x4), (5, .int x5), (6, .int (x6 + (1 : Int32)))] [] σ1 Q)))))) : Rn PRG (d + 1) 317 35 [(0, .ref 97), (1, .int x1), (2, .int x2), (3, .int x3), (4, .int x4), (5, .int x5), (6, .int x6)] [] σ Q := by
  have hM : PRG[317]? = some M_317 := rfl
  refine Rn.seg (pc' := 38) (ls' := [(0, .ref 97), (1, .int x1), (2, .int x2), (3, .int x3), (4, .int x4), (5, .int x5), (6, .int x6)]) (st' := [.ref 97, .int x6]) (σ' := σ) hM 2 rfl ?_
  obtain ⟨Qc, hq, h⟩ := h
  refine Rn.cI hM rfl rfl (by decide) hq (fun w2 σ1 hw => ?_)
  replace h := h w2 σ1 hw
  refine Rn.br (c := w2 ≤ x6) (a := 78) (b := 44) (ls' := [(0, .ref 97), (1, .int x1), (2, .int x2), (3, .int x3), (4, .int x4), (5, .int x5), (6, .int x6)]) (st' := []) (σ' := σ1) hM 1 rfl (fun c => ?_) (fun c => ?_)
  · replace h := h.1 c
    refine Rn.seg (pc' := 6) (ls' := [(5, .int (x5 + (1 : Int32))), (0, .ref 97), (1, .int x1), (2, .int x2), (3, .int x3), (4, .int x4), (6, .int x6)]) (st' := []) (σ' := σ1) hM 2 rfl ?_
    exact Rn.sub h (subL_cons rfl (subL_cons rfl (subL_cons rfl (subL_cons rfl (subL_cons rfl (subL_cons rfl subL_nil)))))) (show ndL _ from (by decide : List.Nodup ([0, 1, 2, 3, 4, 5] : List Nat)))
  · replace h := h.2 c
    refine Rn.brN (c := ((x5 >>> (x6 &&& 31)) &&& (1 : Int32)) = (1 : Int32)) (a := 72) (b := 55) (ls' := [(0, .ref 97), (1, .int x1), (2, .int x2), (3, .int x3), (4, .int x4), (5, .int x5), (6, .int x6)]) (st' := []) (σ' := σ1) hM 7 rfl (fun c => ?_) (fun c => ?_)
    · replace h := h.2 c
      refine Rn.seg (pc' := 35) (ls' := [(6, .int (x6 + (1 : Int32))), (0, .ref 97), (1, .int x1), (2, .int x2), (3, .int x3), (4, .int x4), (5, .int x5)]) (st' := []) (σ' := σ1) hM 2 rfl ?_
      exact Rn.sub h (subL_cons rfl (subL_cons rfl (subL_cons rfl (subL_cons rfl (subL_cons rfl (subL_cons rfl (subL_cons rfl subL_nil))))))) (show ndL _ from (by decide : List.Nodup ([0, 1, 2, 3, 4, 5, 6] : List Nat)))
    · replace h := h.1 c
      refine Rn.seg (pc' := 63) (ls' := [(0, .ref 97), (1, .int x1), (2, .int x2), (3, .int x3), (4, .int x4), (5, .int x5), (6, .int x6)]) (st' := [.int x5, .int x6, .int x3, .int x2, .int x1, .ref 97]) (σ' := σ1) hM 6 rfl ?_
      obtain ⟨Qc, hq, h⟩ := h
      refine Rn.cI hM rfl rfl (by decide) hq (fun w4 σ3 hw => ?_)
      replace h := h w4 σ3 hw
      refine Rn.br (c := w4 = 0) (a := 72) (b := 69) (ls' := [(0, .ref 97), (1, .int x1), (2, .int x2), (3, .int x3), (4, .int x4), (5, .int x5), (6, .int x6)]) (st' := []) (σ' := σ3) hM 1 rfl (fun c => ?_) (fun c => ?_)
      · replace h := h.1 c
        refine Rn.seg (pc' := 35) (ls' := [(6, .int (x6 + (1 : Int32))), (0, .ref 97), (1, .int x1), (2, .int x2), (3, .int x3), (4, .int x4), (5, .int x5)]) (st' := []) (σ' := σ3) hM 2 rfl ?_
        exact Rn.sub h (subL_cons rfl (subL_cons rfl (subL_cons rfl (subL_cons rfl (subL_cons rfl (subL_cons rfl (subL_cons rfl subL_nil))))))) (show ndL _ from (by decide : List.Nodup ([0, 1, 2, 3, 4, 5, 6] : List Nat)))
      · replace h := h.2 c
        refine Rn.seg (pc' := 35) (ls' := [(6, .int (x6 + (1 : Int32))), (4, .int (x4 + (1 : Int32))), (0, .ref 97), (1, .int x1), (2, .int x2), (3, .int x3), (5, .int x5)]) (st' := []) (σ' := σ3) hM 3 rfl ?_
        exact Rn.sub h (subL_cons rfl (subL_cons rfl (subL_cons rfl (subL_cons rfl (subL_cons rfl (subL_cons rfl (subL_cons rfl subL_nil))))))) (show ndL _ from (by decide : List.Nodup ([0, 1, 2, 3, 4, 5, 6] : List Nat)))
set_option maxRecDepth 100000 in
theorem w_318_0 {d : Nat} {Q : Option Value → Sg → Prop} (σ : Sg) (x1 x2 : Int32) (h : (∃ Qc : Int32 → Sg → Prop, OkI PRG d 313 [.ref 97, .int x1] σ Qc ∧ ∀ w2 σ1, Qc w2 σ1 → ((w2 = 0 → Q (some (.int (-1 : Int32))) σ1) ∧ (¬ w2 = 0 → (∃ Qc : Int32 → Sg → Prop, OkI PRG d 195 [.int x2, .int (0 : Int32), .int (1 : Int32)] σ1 Qc ∧ ∀ w4 σ3, Qc w4 σ3 → ((w4 = 0 → Q (some (.int (-1 : Int32))) σ3) ∧ (¬ w4 = 0 → (∃ Qc : Int32 → Sg → Prop, OkI PRG d 315 [.ref 97, .int x1] σ3 Qc ∧ ∀ w6 σ5, Qc w6 σ5 → ((w6 = 0 → Q (some (.int (0 : Int32))) σ5) ∧ (¬ w6 = 0 → ((x2 = 0 → (∃ Qc : Int32 → Sg → Prop, OkI PRG d 317 [.ref 97, .int (0 : Int32), .int x1, .int x1] σ5 Qc ∧ ∀ w10 σ9, Qc w10 σ9 → Q (some (.int w10)) σ9)) ∧ (¬ x2 = 0 → (∃ Qc : Int32 → Sg → Prop, OkI PRG d 317 [.ref 97, .int (1 : Int32), .int x1, .int x1] σ5 Qc ∧ ∀ w8 σ7, Qc w8 σ7 → Q (some (.int w8)) σ7))))))))))))) : Rn PRG (d + 1) 318 0 [(0, .ref 97), (1, .int x1), (2, .int x2)] [] σ Q := by
  have hM : PRG[318]? = some M_318 := rfl
  refine Rn.seg (pc' := 2) (ls' := [(0, .ref 97), (1, .int x1), (2, .int x2)]) (st' := [.int x1, .ref 97]) (σ' := σ) hM 2 rfl ?_
  obtain ⟨Qc, hq, h⟩ := h
  refine Rn.cI hM rfl rfl (by decide) hq (fun w2 σ1 hw => ?_)
  replace h := h w2 σ1 hw
  refine Rn.br (c := w2 = 0) (a := 17) (b := 8) (ls' := [(0, .ref 97), (1, .int x1), (2, .int x2)]) (st' := []) (σ' := σ1) hM 1 rfl (fun c => ?_) (fun c => ?_)
  · replace h := h.1 c
    refine Rn.seg (pc' := 18) (ls' := [(0, .ref 97), (1, .int x1), (2, .int x2)]) (st' := [.int (-1 : Int32)]) (σ' := σ1) hM 1 rfl ?_
    exact Rn.ret hM rfl rfl h
  · replace h := h.2 c
    refine Rn.seg (pc' := 11) (ls' := [(0, .ref 97), (1, .int x1), (2, .int x2)]) (st' := [.int (1 : Int32), .int (0 : Int32), .int x2]) (σ' := σ1) hM 3 rfl ?_
    obtain ⟨Qc, hq, h⟩ := h
    refine Rn.cI hM rfl rfl (by decide) hq (fun w4 σ3 hw => ?_)
    replace h := h w4 σ3 hw
    refine Rn.brN (c := w4 = 0) (a := 19) (b := 17) (ls' := [(0, .ref 97), (1, .int x1), (2, .int x2)]) (st' := []) (σ' := σ3) hM 1 rfl (fun c => ?_) (fun c => ?_)
    · replace h := h.2 c
      refine Rn.seg (pc' := 21) (ls' := [(0, .ref 97), (1, .int x1), (2, .int x2)]) (st' := [.int x1, .ref 97]) (σ' := σ3) hM 2 rfl ?_
      obtain ⟨Qc, hq, h⟩ := h
      refine Rn.cI hM rfl rfl (by decide) hq (fun w6 σ5 hw => ?_)
      replace h := h w6 σ5 hw
      refine Rn.br (c := w6 = 0) (a := 45) (b := 27) (ls' := [(0, .ref 97), (1, .int x1), (2, .int x2)]) (st' := []) (σ' := σ5) hM 1 rfl (fun c => ?_) (fun c => ?_)
      · replace h := h.1 c
        refine Rn.seg (pc' := 46) (ls' := [(0, .ref 97), (1, .int x1), (2, .int x2)]) (st' := [.int (0 : Int32)]) (σ' := σ5) hM 1 rfl ?_
        exact Rn.ret hM rfl rfl h
      · replace h := h.2 c
        refine Rn.brN (c := x2 = 0) (a := 36) (b := 32) (ls' := [(0, .ref 97), (1, .int x1), (2, .int x2)]) (st' := [.ref 97]) (σ' := σ5) hM 3 rfl (fun c => ?_) (fun c => ?_)
        · replace h := h.2 c
          refine Rn.seg (pc' := 39) (ls' := [(0, .ref 97), (1, .int x1), (2, .int x2)]) (st' := [.int x1, .int x1, .int (1 : Int32), .ref 97]) (σ' := σ5) hM 3 rfl ?_
          obtain ⟨Qc, hq, h⟩ := h
          refine Rn.cI hM rfl rfl (by decide) hq (fun w8 σ7 hw => ?_)
          replace h := h w8 σ7 hw
          refine Rn.seg (pc' := 46) (ls' := [(0, .ref 97), (1, .int x1), (2, .int x2)]) (st' := [.int w8]) (σ' := σ7) hM 1 rfl ?_
          exact Rn.ret hM rfl rfl h
        · replace h := h.1 c
          refine Rn.seg (pc' := 39) (ls' := [(0, .ref 97), (1, .int x1), (2, .int x2)]) (st' := [.int x1, .int x1, .int (0 : Int32), .ref 97]) (σ' := σ5) hM 4 rfl ?_
          obtain ⟨Qc, hq, h⟩ := h
          refine Rn.cI hM rfl rfl (by decide) hq (fun w10 σ9 hw => ?_)
          replace h := h w10 σ9 hw
          refine Rn.seg (pc' := 46) (ls' := [(0, .ref 97), (1, .int x1), (2, .int x2)]) (st' := [.int w10]) (σ' := σ9) hM 1 rfl ?_
          exact Rn.ret hM rfl rfl h
    · replace h := h.1 c
      refine Rn.seg (pc' := 18) (ls' := [(0, .ref 97), (1, .int x1), (2, .int x2)]) (st' := [.int (-1 : Int32)]) (σ' := σ3) hM 1 rfl ?_
      exact Rn.ret hM rfl rfl h
set_option maxRecDepth 100000 in
theorem w_319_0 {d : Nat} {Q : Option Value → Sg → Prop} (σ : Sg) (x1 x2 : Int32) (h : (∃ Qc : Int32 → Sg → Prop, OkI PRG d 313 [.ref 97, .int x1] σ Qc ∧ ∀ w2 σ1, Qc w2 σ1 → ((w2 = 0 → Q (some (.int (-1 : Int32))) σ1) ∧ (¬ w2 = 0 → (∃ Qc : Int32 → Sg → Prop, OkI PRG d 313 [.ref 97, .int x2] σ1 Qc ∧ ∀ w4 σ3, Qc w4 σ3 → ((w4 = 0 → Q (some (.int (-1 : Int32))) σ3) ∧ (¬ w4 = 0 → ((x1 = x2 → Q (some (.int (-1 : Int32))) σ3) ∧ (¬ x1 = x2 → (∃ Qc : Int32 → Sg → Prop, OkI PRG d 315 [.ref 97, .int x1] σ3 Qc ∧ ∀ w6 σ5, Qc w6 σ5 → ((w6 = 0 → Q (some (.int (0 : Int32))) σ5) ∧ (¬ w6 = 0 → (∃ Qc : Int32 → Sg → Prop, OkI PRG d 315 [.ref 97, .int x2] σ5 Qc ∧ ∀ w8 σ7, Qc w8 σ7 → ((w8 = 0 → Q (some (.int (0 : Int32))) σ7) ∧ (¬ w8 = 0 → (∃ Qc : Int32 → Sg → Prop, OkI PRG d 317 [.ref 97, .int (2 : Int32), .int x1, .int x2] σ7 Qc ∧ ∀ w10 σ9, Qc w10 σ9 → Q (some (.int w10)) σ9)))))))))))))))) : Rn PRG (d + 1) 319 0 [(0, .ref 97), (1, .int x1), (2, .int x2)] [] σ Q := by
  have hM : PRG[319]? = some M_319 := rfl
  refine Rn.seg (pc' := 2) (ls' := [(0, .ref 97), (1, .int x1), (2, .int x2)]) (st' := [.int x1, .ref 97]) (σ' := σ) hM 2 rfl ?_
  obtain ⟨Qc, hq, h⟩ := h
  refine Rn.cI hM rfl rfl (by decide) hq (fun w2 σ1 hw => ?_)
  replace h := h w2 σ1 hw
  refine Rn.br (c := w2 = 0) (a := 21) (b := 8) (ls' := [(0, .ref 97), (1, .int x1), (2, .int x2)]) (st' := []) (σ' := σ1) hM 1 rfl (fun c => ?_) (fun c => ?_)
  · replace h := h.1 c
    refine Rn.seg (pc' := 22) (ls' := [(0, .ref 97), (1, .int x1), (2, .int x2)]) (st' := [.int (-1 : Int32)]) (σ' := σ1) hM 1 rfl ?_
    exact Rn.ret hM rfl rfl h
  · replace h := h.2 c
    refine Rn.seg (pc' := 10) (ls' := [(0, .ref 97), (1, .int x1), (2, .int x2)]) (st' := [.int x2, .ref 97]) (σ' := σ1) hM 2 rfl ?_
    obtain ⟨Qc, hq, h⟩ := h
    refine Rn.cI hM rfl rfl (by decide) hq (fun w4 σ3 hw => ?_)
    replace h := h w4 σ3 hw
    refine Rn.br (c := w4 = 0) (a := 21) (b := 16) (ls' := [(0, .ref 97), (1, .int x1), (2, .int x2)]) (st' := []) (σ' := σ3) hM 1 rfl (fun c => ?_) (fun c => ?_)
    · replace h := h.1 c
      refine Rn.seg (pc' := 22) (ls' := [(0, .ref 97), (1, .int x1), (2, .int x2)]) (st' := [.int (-1 : Int32)]) (σ' := σ3) hM 1 rfl ?_
      exact Rn.ret hM rfl rfl h
    · replace h := h.2 c
      refine Rn.brN (c := x1 = x2) (a := 23) (b := 21) (ls' := [(0, .ref 97), (1, .int x1), (2, .int x2)]) (st' := []) (σ' := σ3) hM 3 rfl (fun c => ?_) (fun c => ?_)
      · replace h := h.2 c
        refine Rn.seg (pc' := 25) (ls' := [(0, .ref 97), (1, .int x1), (2, .int x2)]) (st' := [.int x1, .ref 97]) (σ' := σ3) hM 2 rfl ?_
        obtain ⟨Qc, hq, h⟩ := h
        refine Rn.cI hM rfl rfl (by decide) hq (fun w6 σ5 hw => ?_)
        replace h := h w6 σ5 hw
        refine Rn.br (c := w6 = 0) (a := 49) (b := 31) (ls' := [(0, .ref 97), (1, .int x1), (2, .int x2)]) (st' := []) (σ' := σ5) hM 1 rfl (fun c => ?_) (fun c => ?_)
        · replace h := h.1 c
          refine Rn.seg (pc' := 50) (ls' := [(0, .ref 97), (1, .int x1), (2, .int x2)]) (st' := [.int (0 : Int32)]) (σ' := σ5) hM 1 rfl ?_
          exact Rn.ret hM rfl rfl h
        · replace h := h.2 c
          refine Rn.seg (pc' := 33) (ls' := [(0, .ref 97), (1, .int x1), (2, .int x2)]) (st' := [.int x2, .ref 97]) (σ' := σ5) hM 2 rfl ?_
          obtain ⟨Qc, hq, h⟩ := h
          refine Rn.cI hM rfl rfl (by decide) hq (fun w8 σ7 hw => ?_)
          replace h := h w8 σ7 hw
          refine Rn.br (c := w8 = 0) (a := 49) (b := 39) (ls' := [(0, .ref 97), (1, .int x1), (2, .int x2)]) (st' := []) (σ' := σ7) hM 1 rfl (fun c => ?_) (fun c => ?_)
          · replace h := h.1 c
            refine Rn.seg (pc' := 50) (ls' := [(0, .ref 97), (1, .int x1), (2, .int x2)]) (st' := [.int (0 : Int32)]) (σ' := σ7) hM 1 rfl ?_
            exact Rn.ret hM rfl rfl h
          · replace h := h.2 c
            refine Rn.seg (pc' := 43) (ls' := [(0, .ref 97), (1, .int x1), (2, .int x2)]) (st' := [.int x2, .int x1, .int (2 : Int32), .ref 97]) (σ' := σ7) hM 4 rfl ?_
            obtain ⟨Qc, hq, h⟩ := h
            refine Rn.cI hM rfl rfl (by decide) hq (fun w10 σ9 hw => ?_)
            replace h := h w10 σ9 hw
            refine Rn.seg (pc' := 50) (ls' := [(0, .ref 97), (1, .int x1), (2, .int x2)]) (st' := [.int w10]) (σ' := σ9) hM 1 rfl ?_
            exact Rn.ret hM rfl rfl h
      · replace h := h.1 c
        refine Rn.seg (pc' := 22) (ls' := [(0, .ref 97), (1, .int x1), (2, .int x2)]) (st' := [.int (-1 : Int32)]) (σ' := σ3) hM 1 rfl ?_
        exact Rn.ret hM rfl rfl h
set_option maxRecDepth 100000 in
theorem w_320_0 {d : Nat} {Q : Option Value → Sg → Prop} (σ : Sg) (h : (∃ Qc : Int32 → Sg → Prop, OkI PRG d 317 [.ref 97, .int (3 : Int32), .int (0 : Int32), .int (0 : Int32)] σ Qc ∧ ∀ w2 σ1, Qc w2 σ1 → Q (some (.int w2)) σ1)) : Rn PRG (d + 1) 320 0 [(0, .ref 97)] [] σ Q := by
  have hM : PRG[320]? = some M_320 := rfl
  refine Rn.seg (pc' := 4) (ls' := [(0, .ref 97)]) (st' := [.int (0 : Int32), .int (0 : Int32), .int (3 : Int32), .ref 97]) (σ' := σ) hM 4 rfl ?_
  obtain ⟨Qc, hq, h⟩ := h
  refine Rn.cI hM rfl rfl (by decide) hq (fun w2 σ1 hw => ?_)
  replace h := h w2 σ1 hw
  refine Rn.seg (pc' := 7) (ls' := [(0, .ref 97)]) (st' := [.int w2]) (σ' := σ1) hM 0 rfl ?_
  exact Rn.ret hM rfl rfl h
set_option maxRecDepth 100000 in
theorem w_323_0 {d : Nat} {Q : Option Value → Sg → Prop} (σ : Sg) (x1 : Int32) (h : ((x1.toInt < 0 ∨ 8 < x1.toInt → (∃ Qc : Int32 → Sg → Prop, OkI PRG d 313 [.ref 97, .int (x1 - (10 : Int32))] σ Qc ∧ ∀ w2 σ1, Qc w2 σ1 → ((w2 = 0 → Q (some (.int (-1 : Int32))) σ1) ∧ (¬ w2 = 0 → (inR ((((6 : Int32) * (σ1.1 97 18)) + x1) - (10 : Int32)) 12 = true ∧ (inR ((((6 : Int32) * (σ1.1 97 18)) + x1) - (10 : Int32)) 12 = true ∧ Q (some (.int (((10 : Int32) * (σ1.1 110 ((((6 : Int32) * (σ1.1 97 18)) + x1) - (10 : Int32)).toNatClampNeg)) + (σ1.1 111 ((((6 : Int32) * (σ1.1 97 18)) + x1) - (10 : Int32)).toNatClampNeg)))) σ1)))))) ∧ (x1.toInt = 0 → (inR (σ.1 97 18) 2 = true ∧ Q (some (.int (σ.1 106 (σ.1 97 18).toNatClampNeg))) σ)) ∧ (x1.toInt = 1 → (inR (σ.1 97 18) 2 = true ∧ Q (some (.int (σ.1 107 (σ.1 97 18).toNatClampNeg))) σ)) ∧ (x1.toInt = 2 → (∃ Qc : Int32 → Sg → Prop, OkI PRG d 211 [.ref 97] σ Qc ∧ ∀ w4 σ3, Qc w4 σ3 → Q (some (.int w4)) σ3)) ∧ (x1.toInt = 3 → (∃ Qc : Int32 → Sg → Prop, OkI PRG d 214 [.ref 97] σ Qc ∧ ∀ w6 σ5, Qc w6 σ5 → ((w6 = (-1 : Int32) → Q (some (.int (-2 : Int32))) σ5) ∧ (¬ w6 = (-1 : Int32) → (∃ Qc : Int32 → Sg → Prop, OkI PRG d 214 [.ref 97] σ5 Qc ∧ ∀ w8 σ7, Qc w8 σ7 → Q (some (.int w8)) σ7))))) ∧ (x1.toInt = 4 → (inR (σ.1 97 18) 2 = true ∧ Q (some (.int (σ.1 109 (σ.1 97 18).toNatClampNeg))) σ)) ∧ (x1.toInt = 5 → (((σ.1 97 45) = 0 → Q (some (.int (-2 : Int32))) σ) ∧ (¬ (σ.1 97 45) = 0 → Q (some (.int (σ.1 97 48))) σ))) ∧ (x1.toInt = 6 → Q (some (.int (σ.1 97 86))) σ) ∧ (x1.toInt = 7 → Q (some (.int (σ.1 97 2))) σ) ∧ (x1.toInt = 8 → (((σ.1 152 0) = 0 → (((σ.1 152 1) = 0 → Q (some (.int ((0 : Int32) + (0 : Int32)))) σ) ∧ (¬ (σ.1 152 1) = 0 → Q (some (.int ((0 : Int32) + (1 : Int32)))) σ))) ∧ (¬ (σ.1 152 0) = 0 → (((σ.1 152 1) = 0 → Q (some (.int ((1 : Int32) + (0 : Int32)))) σ) ∧ (¬ (σ.1 152 1) = 0 → Q (some (.int ((1 : Int32) + (1 : Int32)))) σ))))))) : Rn PRG (d + 1) 323 0 [(0, .ref 97), (1, .int x1)] [] σ Q := by
  have hM : PRG[323]? = some M_323 := rfl
  refine Rn.seg (pc' := 1) (ls' := [(0, .ref 97), (1, .int x1)]) (st' := [.int x1]) (σ' := σ) hM 1 rfl ?_
  rcases tsw_cases x1 0 8 (by decide) with c | ⟨j, hj, c⟩
  · replace h := h.1 c
    refine Rn.tswD (pc' := 162) hM rfl c (by decide) rfl ?_
    refine Rn.seg (pc' := 167) (ls' := [(0, .ref 97), (1, .int x1)]) (st' := [.int (x1 - (10 : Int32)), .ref 97]) (σ' := σ) hM 4 rfl ?_
    obtain ⟨Qc, hq, h⟩ := h
    refine Rn.cI hM rfl rfl (by decide) hq (fun w2 σ1 hw => ?_)
    replace h := h w2 σ1 hw
    refine Rn.br (c := w2 = 0) (a := 214) (b := 173) (ls' := [(0, .ref 97), (1, .int x1)]) (st' := []) (σ' := σ1) hM 1 rfl (fun c => ?_) (fun c => ?_)
    · replace h := h.1 c
      refine Rn.seg (pc' := 215) (ls' := [(0, .ref 97), (1, .int x1)]) (st' := [.int (-1 : Int32)]) (σ' := σ1) hM 1 rfl ?_
      exact Rn.ret hM rfl rfl h
    · replace h := h.2 c
      refine Rn.seg (pc' := 191) (ls' := [(0, .ref 97), (1, .int x1)]) (st' := [.int ((((6 : Int32) * (σ1.1 97 18)) + x1) - (10 : Int32)), .ref 110, .int (10 : Int32)]) (σ' := σ1) hM 11 rfl ?_
      refine Rn.iald hM rfl rfl h.1 ?_
      refine Rn.seg (pc' := 209) (ls' := [(0, .ref 97), (1, .int x1)]) (st' := [.int ((((6 : Int32) * (σ1.1 97 18)) + x1) - (10 : Int32)), .ref 111, .int ((10 : Int32) * (σ1.1 110 ((((6 : Int32) * (σ1.1 97 18)) + x1) - (10 : Int32)).toNatClampNeg))]) (σ' := σ1) hM 11 rfl ?_
      refine Rn.iald hM rfl rfl h.2.1 ?_
      refine Rn.seg (pc' := 215) (ls' := [(0, .ref 97), (1, .int x1)]) (st' := [.int (((10 : Int32) * (σ1.1 110 ((((6 : Int32) * (σ1.1 97 18)) + x1) - (10 : Int32)).toNatClampNeg)) + (σ1.1 111 ((((6 : Int32) * (σ1.1 97 18)) + x1) - (10 : Int32)).toNatClampNeg))]) (σ' := σ1) hM 2 rfl ?_
      exact Rn.ret hM rfl rfl h.2.2
  · match j, hj with
    | 0, _ =>
      have c : x1.toInt = 0 := by simpa using c
      replace h := h.2.1 c
      refine Rn.tswK (pc' := 52) (j := 0) hM rfl (by simpa using c) (by decide) (by decide) rfl rfl ?_
      refine Rn.seg (pc' := 60) (ls' := [(0, .ref 97), (1, .int x1)]) (st' := [.int (σ.1 97 18), .ref 106]) (σ' := σ) hM 4 rfl ?_
      refine Rn.iald hM rfl rfl h.1 ?_
      refine Rn.seg (pc' := 61) (ls' := [(0, .ref 97), (1, .int x1)]) (st' := [.int (σ.1 106 (σ.1 97 18).toNatClampNeg)]) (σ' := σ) hM 0 rfl ?_
      exact Rn.ret hM rfl rfl h.2
    | 1, _ =>
      have c : x1.toInt = 1 := by simpa using c
      replace h := h.2.2.1 c
      refine Rn.tswK (pc' := 62) (j := 1) hM rfl (by simpa using c) (by decide) (by decide) rfl rfl ?_
      refine Rn.seg (pc' := 70) (ls' := [(0, .ref 97), (1, .int x1)]) (st' := [.int (σ.1 97 18), .ref 107]) (σ' := σ) hM 4 rfl ?_
      refine Rn.iald hM rfl rfl h.1 ?_
      refine Rn.seg (pc' := 71) (ls' := [(0, .ref 97), (1, .int x1)]) (st' := [.int (σ.1 107 (σ.1 97 18).toNatClampNeg)]) (σ' := σ) hM 0 rfl ?_
      exact Rn.ret hM rfl rfl h.2
    | 2, _ =>
      have c : x1.toInt = 2 := by simpa using c
      replace h := h.2.2.2.1 c
      refine Rn.tswK (pc' := 72) (j := 2) hM rfl (by simpa using c) (by decide) (by decide) rfl rfl ?_
      refine Rn.seg (pc' := 73) (ls' := [(0, .ref 97), (1, .int x1)]) (st' := [.ref 97]) (σ' := σ) hM 1 rfl ?_
      obtain ⟨Qc, hq, h⟩ := h
      refine Rn.cI hM rfl rfl (by decide) hq (fun w4 σ3 hw => ?_)
      replace h := h w4 σ3 hw
      refine Rn.seg (pc' := 76) (ls' := [(0, .ref 97), (1, .int x1)]) (st' := [.int w4]) (σ' := σ3) hM 0 rfl ?_
      exact Rn.ret hM rfl rfl h
    | 3, _ =>
      have c : x1.toInt = 3 := by simpa using c
      replace h := h.2.2.2.2.1 c
      refine Rn.tswK (pc' := 77) (j := 3) hM rfl (by simpa using c) (by decide) (by decide) rfl rfl ?_
      refine Rn.seg (pc' := 78) (ls' := [(0, .ref 97), (1, .int x1)]) (st' := [.ref 97]) (σ' := σ) hM 1 rfl ?_
      obtain ⟨Qc, hq, h⟩ := h
      refine Rn.cI hM rfl rfl (by decide) hq (fun w6 σ5 hw => ?_)
      replace h := h w6 σ5 hw
      refine Rn.brN (c := w6 = (-1 : Int32)) (a := 90) (b := 85) (ls' := [(0, .ref 97), (1, .int x1)]) (st' := []) (σ' := σ5) hM 2 rfl (fun c => ?_) (fun c => ?_)
      · replace h := h.2 c
        refine Rn.seg (pc' := 91) (ls' := [(0, .ref 97), (1, .int x1)]) (st' := [.ref 97]) (σ' := σ5) hM 1 rfl ?_
        obtain ⟨Qc, hq, h⟩ := h
        refine Rn.cI hM rfl rfl (by decide) hq (fun w8 σ7 hw => ?_)
        replace h := h w8 σ7 hw
        refine Rn.seg (pc' := 94) (ls' := [(0, .ref 97), (1, .int x1)]) (st' := [.int w8]) (σ' := σ7) hM 0 rfl ?_
        exact Rn.ret hM rfl rfl h
      · replace h := h.1 c
        refine Rn.seg (pc' := 94) (ls' := [(0, .ref 97), (1, .int x1)]) (st' := [.int (-2 : Int32)]) (σ' := σ5) hM 2 rfl ?_
        exact Rn.ret hM rfl rfl h
    | 4, _ =>
      have c : x1.toInt = 4 := by simpa using c
      replace h := h.2.2.2.2.2.1 c
      refine Rn.tswK (pc' := 95) (j := 4) hM rfl (by simpa using c) (by decide) (by decide) rfl rfl ?_
      refine Rn.seg (pc' := 103) (ls' := [(0, .ref 97), (1, .int x1)]) (st' := [.int (σ.1 97 18), .ref 109]) (σ' := σ) hM 4 rfl ?_
      refine Rn.iald hM rfl rfl h.1 ?_
      refine Rn.seg (pc' := 104) (ls' := [(0, .ref 97), (1, .int x1)]) (st' := [.int (σ.1 109 (σ.1 97 18).toNatClampNeg)]) (σ' := σ) hM 0 rfl ?_
      exact Rn.ret hM rfl rfl h.2
    | 5, _ =>
      have c : x1.toInt = 5 := by simpa using c
      replace h := h.2.2.2.2.2.2.1 c
      refine Rn.tswK (pc' := 105) (j := 5) hM rfl (by simpa using c) (by decide) (by decide) rfl rfl ?_
      refine Rn.br (c := (σ.1 97 45) = 0) (a := 119) (b := 112) (ls' := [(0, .ref 97), (1, .int x1)]) (st' := []) (σ' := σ) hM 3 rfl (fun c => ?_) (fun c => ?_)
      · replace h := h.1 c
        refine Rn.seg (pc' := 121) (ls' := [(0, .ref 97), (1, .int x1)]) (st' := [.int (-2 : Int32)]) (σ' := σ) hM 1 rfl ?_
        exact Rn.ret hM rfl rfl h
      · replace h := h.2 c
        refine Rn.seg (pc' := 121) (ls' := [(0, .ref 97), (1, .int x1)]) (st' := [.int (σ.1 97 48)]) (σ' := σ) hM 3 rfl ?_
        exact Rn.ret hM rfl rfl h
    | 6, _ =>
      have c : x1.toInt = 6 := by simpa using c
      replace h := h.2.2.2.2.2.2.2.1 c
      refine Rn.tswK (pc' := 122) (j := 6) hM rfl (by simpa using c) (by decide) (by decide) rfl rfl ?_
      refine Rn.seg (pc' := 126) (ls' := [(0, .ref 97), (1, .int x1)]) (st' := [.int (σ.1 97 86)]) (σ' := σ) hM 2 rfl ?_
      exact Rn.ret hM rfl rfl h
    | 7, _ =>
      have c : x1.toInt = 7 := by simpa using c
      replace h := h.2.2.2.2.2.2.2.2.1 c
      refine Rn.tswK (pc' := 127) (j := 7) hM rfl (by simpa using c) (by decide) (by decide) rfl rfl ?_
      refine Rn.seg (pc' := 131) (ls' := [(0, .ref 97), (1, .int x1)]) (st' := [.int (σ.1 97 2)]) (σ' := σ) hM 2 rfl ?_
      exact Rn.ret hM rfl rfl h
    | 8, _ =>
      have c : x1.toInt = 8 := by simpa using c
      replace h := h.2.2.2.2.2.2.2.2.2 c
      refine Rn.tswK (pc' := 132) (j := 8) hM rfl (by simpa using c) (by decide) (by decide) rfl rfl ?_
      refine Rn.br (c := (σ.1 152 0) = 0) (a := 145) (b := 141) (ls' := [(0, .ref 97), (1, .int x1)]) (st' := []) (σ' := σ) hM 5 rfl (fun c => ?_) (fun c => ?_)
      · replace h := h.1 c
        refine Rn.br (c := (σ.1 152 1) = 0) (a := 159) (b := 155) (ls' := [(0, .ref 97), (1, .int x1)]) (st' := [.int (0 : Int32)]) (σ' := σ) hM 6 rfl (fun c => ?_) (fun c => ?_)
        · replace h := h.1 c
          refine Rn.seg (pc' := 161) (ls' := [(0, .ref 97), (1, .int x1)]) (st' := [.int ((0 : Int32) + (0 : Int32))]) (σ' := σ) hM 2 rfl ?_
          exact Rn.ret hM rfl rfl h
        · replace h := h.2 c
          refine Rn.seg (pc' := 161) (ls' := [(0, .ref 97), (1, .int x1)]) (st' := [.int ((0 : Int32) + (1 : Int32))]) (σ' := σ) hM 3 rfl ?_
          exact Rn.ret hM rfl rfl h
      · replace h := h.2 c
        refine Rn.br (c := (σ.1 152 1) = 0) (a := 159) (b := 155) (ls' := [(0, .ref 97), (1, .int x1)]) (st' := [.int (1 : Int32)]) (σ' := σ) hM 7 rfl (fun c => ?_) (fun c => ?_)
        · replace h := h.1 c
          refine Rn.seg (pc' := 161) (ls' := [(0, .ref 97), (1, .int x1)]) (st' := [.int ((1 : Int32) + (0 : Int32))]) (σ' := σ) hM 2 rfl ?_
          exact Rn.ret hM rfl rfl h
        · replace h := h.2 c
          refine Rn.seg (pc' := 161) (ls' := [(0, .ref 97), (1, .int x1)]) (st' := [.int ((1 : Int32) + (1 : Int32))]) (σ' := σ) hM 3 rfl ?_
          exact Rn.ret hM rfl rfl h
    | n + 9, hj => exact absurd hj (by omega)
/-! books, openings, counts -/
theorem bk_ix {x y : Int32} {b k : Nat} (hx : x.toInt = (b : Int)) (hy : y.toInt = (k : Int)) (hb : b ≤ 7) (hk : k ≤ 5) : (((6 : Int32) * x) + y).toInt = ((6 * b + k : Nat) : Int) := by
  have e1 : ((6 : Int32) * x).toInt = 6 * x.toInt := mul_lit (by decide) (by unfold FL; omega) (by unfold FH; omega)
  rw [add_ex (by rw [e1]; unfold FL; omega) (by rw [e1]; unfold FH; omega), e1]
  omega
/-- a game that is over, the place in the books -/
def BK (N n b : Nat) (σ : Sg) : Prop := GI N σ ∧ (σ.1 97 48).toInt = (n : Int) ∧ n ≤ 16 ∧ (σ.1 97 86).toInt = (b : Int) ∧ b ≤ 7
theorem BK.keep {N n b : Nat} {ms : List (Nat × Nat × Nat)} {σ σ' : Sg} (h : BK N n b σ) (hG : Gl ms σ σ') (hg : GI N σ') (ho : offD ms [(12, 48, 48), (12, 86, 86)] = true) : BK N n b σ' := by
  refine ⟨hg, ?_, h.2.2.1, ?_, h.2.2.2.2⟩
  · rw [hG.get (q := 97) (κ := 12) rfl (off_in ho rfl)]; exact h.2.1
  · rw [hG.get (q := 97) (κ := 12) rfl (off_in ho rfl)]; exact h.2.2.2.1
theorem BK.two {N n b k : Nat} {y z : Int32} {σ : Sg} (h : BK N n b σ) (hk : k ≤ 47) : BK N n b (s1 (s1 σ 150 k y) 151 k z) := by
  have g1 : Gl [(106, 0, 47), (107, 0, 47)] σ (s1 σ 150 k y) := wrG (κ := 106) (a := 0) (b := 47) (vl := FL) (vh := FH) rfl rfl (Gl.refl h.1.1) rfl (Nat.zero_le _) hk (w_lo _) (w_hi _)
  have g2 := wrG (x := z) (q := 151) (k := k) (κ := 107) (a := 0) (b := 47) (vl := FL) (vh := FH) rfl rfl g1 rfl (Nat.zero_le _) hk (w_lo _) (w_hi _)
  exact h.keep g2 (h.1.keep g2 rfl (h.1.2.1.keep g2 rfl) (h.1.2.2.2.1.keep g2 rfl)) rfl
theorem book_144 {N n b : Nat} {x1 x2 x4 x5 : Int32} {Q : Option Value → Sg → Prop} (K : ∀ σ' : Sg, BK N n b σ' → Rn PRG (5 + 1) 310 89 [(0, .ref 97), (1, .int x1), (2, .int (x2 + (1 : Int32)))] [] σ' Q) : ∀ (m k : Nat) (x6 : Int32) (σ : Sg), k + m = 6 → x6.toInt = (k : Int) → BK N n b σ → Rn PRG (5 + 1) 310 144 [(0, .ref 97), (1, .int x1), (2, .int x2), (4, .int x4), (5, .int x5), (6, .int x6)] [] σ Q := by
  have six : (6 : Int32).toInt = 6 := by decide
  intro m
  induction m with
  | zero =>
    intro k x6 σ hk h6 hB
    exact w_310_144 σ x1 x2 x4 x5 x6 ⟨fun _ => K σ hB, fun c => absurd (by rw [le_i six h6]; omega) c⟩
  | succ m ih =>
    intro k x6 σ hk h6 hB
    have hx6 : (x6 + (1 : Int32)).toInt = ((k + 1 : Nat) : Int) := by
      rw [add_lit (k := 1) h6 (by decide) (by unfold FL; omega) (by unfold FH; omega)]; push_cast; rfl
    have hb7 := hB.2.2.2.2
    have ei := bk_ix hB.2.2.2.1 h6 hb7 (by clear hx6; omega)
    have hin : inR (((6 : Int32) * (σ.1 97 86)) + x6) 48 = true := inR_ok (by rw [ei]; clear hx6 ei; omega) (by rw [ei]; clear hx6 ei; omega)
    refine w_310_144 σ x1 x2 x4 x5 x6 ⟨fun c => ?_, fun _ => ⟨hin, hin, hin, hin, ?_⟩⟩
    · rw [le_i six h6] at c; clear hx6 ei; omega
    rw [cn_of ei]
    clear ei
    exact ih (k + 1) _ _ (by omega) hx6 (hB.two (by clear hx6; omega))
theorem book_89 {N n b : Nat} {x1 : Int32} : ∀ (m k : Nat) (x2 : Int32) (σ : Sg), k + m = n → x2.toInt = (k : Int) → BK N n b σ → Rn PRG (5 + 1) 310 89 [(0, .ref 97), (1, .int x1), (2, .int x2)] [] σ (fun v σ' => ∃ w : Int32, v = some (.int w) ∧ GI N σ') := by
  have fin : ∀ σ : Sg, BK N n b σ → ∃ w : Int32, some (Value.int (((σ.1 97 86) + (1 : Int32)) - (1 : Int32))) = some (.int w) ∧ GI N (s1 σ 97 86 ((σ.1 97 86) + (1 : Int32))) := by
    intro σ hB
    have hb7 := hB.2.2.2.2
    have e1 : ((σ.1 97 86) + (1 : Int32)).toInt = (b : Int) + 1 := add_lit hB.2.2.2.1 (by decide) (by unfold FL; omega) (by unfold FH; omega)
    have g1 : Gl [(12, 86, 86)] σ (s1 σ 97 86 ((σ.1 97 86) + (1 : Int32))) := wrG (κ := 12) (a := 86) (b := 86) (vl := 0) (vh := 8) rfl rfl (Gl.refl hB.1.1) rfl (Nat.le_refl _) (Nat.le_refl _) (by omega) (by omega)
    exact ⟨_, rfl, hB.1.keep g1 rfl (hB.1.2.1.keep g1 rfl) (hB.1.2.2.2.1.keep g1 rfl)⟩
  intro m
  induction m with
  | zero =>
    intro k x2 σ hk h2 hB
    exact w_310_89 σ x1 x2 ⟨fun _ => fin σ hB, fun c => absurd (by rw [le_i hB.2.1 h2]; omega) c⟩
  | succ m ih =>
    intro k x2 σ hk h2 hB
    have hn16 := hB.2.2.1
    have hx2 : (x2 + (1 : Int32)).toInt = ((k + 1 : Nat) : Int) := by
      rw [add_lit (k := 1) h2 (by decide) (by unfold FL; omega) (by unfold FH; omega)]; push_cast; rfl
    have hr : inR x2 16 = true := inR_ok (by clear hx2; omega) (by clear hx2; omega)
    refine w_310_89 σ x1 x2 ⟨fun _ => fin σ hB, fun _ => ⟨hr, _, appliesAt_OK hB.1.1 hB.1.2.1 h2 (by clear hx2; omega), fun w2 σ1 hq => ⟨hr, ?_⟩⟩⟩
    have h1 := hB.1.fit hq
    have hB1 := hB.keep hq.1 h1 rfl
    rw [cn_of h2]
    have e127 : σ1.1 127 k = σ.1 127 k := hq.1.get (q := 127) (κ := 83) rfl rfl
    refine ⟨who_in hB.1.1 (by clear hx2; omega), _, playedBy_OK h1.1 h2 (by clear hx2; omega), fun w4 σ3 hq3 => ?_⟩
    rw [hq3.1]
    have hc := tyA h1.1 (q := 126) (κ := 82) (k := k) (a := 0) (b := 15) (lo := -1) (hi := 15) rfl rfl (by omega) (by clear hx2; omega)
    refine ⟨_, lieOf_OK (d := 1) h1.1 h1.2.1 hc, fun w6 σ5 hq5 => ?_⟩
    exact book_144 (fun σ' hB' => ih (k + 1) _ σ' (by omega) hx2 hB') 6 0 0 σ5 rfl rfl (hB1.keep hq5.1 (h1.fit hq5) rfl)
theorem book_31 {N n b : Nat} : ∀ (m k : Nat) (x1 : Int32) (σ : Sg), k + m = 6 → x1.toInt = (k : Int) → BK N n b σ → Rn PRG (5 + 1) 310 31 [(0, .ref 97), (1, .int x1)] [] σ (fun v σ' => ∃ w : Int32, v = some (.int w) ∧ GI N σ') := by
  have six : (6 : Int32).toInt = 6 := by decide
  intro m
  induction m with
  | zero =>
    intro k x1 σ hk h1 hB
    exact w_310_31 σ x1 ⟨fun _ => ⟨live_in hB.1.1, book_89 n 0 0 σ (by omega) rfl hB⟩, fun c => absurd (by rw [le_i six h1]; omega) c⟩
  | succ m ih =>
    intro k x1 σ hk h1 hB
    have hx1 : (x1 + (1 : Int32)).toInt = ((k + 1 : Nat) : Int) := by
      rw [add_lit (k := 1) h1 (by decide) (by unfold FL; omega) (by unfold FH; omega)]; push_cast; rfl
    have hb7 := hB.2.2.2.2
    have ei := bk_ix hB.2.2.2.1 h1 hb7 (by clear hx1; omega)
    have hin : inR (((6 : Int32) * (σ.1 97 86)) + x1) 48 = true := inR_ok (by rw [ei]; clear hx1 ei; omega) (by rw [ei]; clear hx1 ei; omega)
    refine w_310_31 σ x1 ⟨fun c => ?_, fun _ => ⟨hin, hin, ?_⟩⟩
    · rw [le_i six h1] at c; clear hx1 ei; omega
    rw [cn_of ei]
    clear ei
    exact ih (k + 1) _ _ (by omega) hx1 (hB.two (by clear hx1; omega))
theorem book_OK {N : Nat} {σ : Sg} (h : GI N σ) : OkI PRG 6 310 [.ref 97] σ (fun _ σ' => GI N σ') := by
  obtain ⟨n, hn, hn16⟩ := played_rg h.1
  have h86 := tyF h.1 (q := 97) (κ := 12) (k := 86) (lo := 0) (hi := 8) rfl rfl
  refine ⟨M_310, rfl, Nat.le_of_ble_eq_true rfl, w_310_0 σ ⟨fun _ => ⟨_, rfl, h⟩, fun _ => ⟨_, cards_OK h.1 h.2.2.1, fun w2 σ1 hq => ?_⟩⟩⟩
  rw [hq.1]
  refine ⟨fun _ => ⟨_, rfl, h⟩, fun _ => ⟨fun _ => ⟨_, rfl, h⟩, fun c => book_31 6 0 0 σ rfl rfl (n := n) (b := (σ.1 97 86).toInt.toNat) ⟨h, hn, hn16, by omega, ?_⟩⟩⟩
  have h8 : ¬ (σ.1 97 86).toInt = 8 := fun e => c (Int32.toInt_inj.mp (by rw [e]; decide))
  omega
/-- a number of a custom that there is -/
def CU (σ : Sg) (x : Int32) : Prop := ∃ k : Nat, x.toInt = (k : Int) ∧ (k : Int) < (σ.1 109 (wn (σ.1 97 18))).toInt
theorem CU.keep {σ σ' : Sg} {x : Int32} (h : CU σ x) (hG : Gl mdFit σ σ') : CU σ' x := by
  obtain ⟨k, h1, h2⟩ := h
  refine ⟨k, h1, ?_⟩
  have e18 : σ'.1 97 18 = σ.1 97 18 := hG.get (q := 97) (κ := 12) rfl rfl
  have e109 : σ'.1 109 (wn (σ.1 97 18)) = σ.1 109 (wn (σ.1 97 18)) := hG.get (q := 109) (κ := 65) rfl rfl
  rw [e18, e109]
  exact h2
theorem isCustom_OK {d : Nat} {x1 : Int32} {σ : Sg} (ht : typed TYP σ) : OkI PRG (d + 1) 313 [.ref 97, .int x1] σ (fun w σ' => σ' = σ ∧ (¬ w = 0 → CU σ x1)) := by
  have hl := live_wn ht
  have hc := tyA ht (q := 109) (κ := 65) (k := wn (σ.1 97 18)) (a := 0) (b := 1) (lo := 0) (hi := 6) rfl rfl (by omega) (by omega)
  have one : (1 : Int32).toInt = 1 := by decide
  have z0 : (0 : Int32).toInt = 0 := by decide
  refine ⟨M_313, rfl, Nat.le_of_ble_eq_true rfl, w_313_0 σ x1 ⟨live_in ht, _, in_OK, fun w2 σ1 hq => ?_⟩⟩
  obtain ⟨e1, hw⟩ := hq
  rw [e1]
  have e : ((σ.1 109 (σ.1 97 18).toNatClampNeg) - (1 : Int32)).toInt = (σ.1 109 (wn (σ.1 97 18))).toInt - 1 := by
    show ((σ.1 109 (wn (σ.1 97 18))) - (1 : Int32)).toInt = _
    rw [sub_ex (by rw [one]; unfold FL; omega) (by rw [one]; unfold FH; omega), one]
  rcases hw with ⟨rfl, a, b⟩ | ⟨rfl, -⟩
  · rw [z0] at a
    rw [e] at b
    exact ⟨Or.inr rfl, _, rfl, rfl, fun _ => ⟨x1.toInt.toNat, by clear e; omega, by clear e; omega⟩⟩
  · exact ⟨Or.inl rfl, _, rfl, rfl, fun h => absurd rfl h⟩
theorem CU.five {σ : Sg} {x : Int32} (ht : typed TYP σ) (h : CU σ x) : 0 ≤ x.toInt ∧ x.toInt ≤ 5 := by
  have hl := live_wn ht
  have hc := tyA ht (q := 109) (κ := 65) (k := wn (σ.1 97 18)) (a := 0) (b := 1) (lo := 0) (hi := 6) rfl rfl (by omega) (by omega)
  obtain ⟨k, h1, h2⟩ := h
  omega
theorem when_OK {x1 : Int32} {σ : Sg} (ht : typed TYP σ) (hI : I2 σ) (h : CU σ x1) : OkI PRG 3 251 [.ref 97, .int x1] σ (fun w σ' => (w = 0 ∨ w = 1) ∧ Gl mdFit σ σ' ∧ I2 σ') := by
  obtain ⟨k, h1, h2⟩ := h
  exact OkI.mono (isWhen_OK (d := 0) ht h1 h2 hI.2.2.2.2) (fun w σ' hq => ⟨hq.1, hq.2.mono rfl, hI.keep hq.2 rfl⟩)
theorem told_OK2 {x1 : Int32} {σ : Sg} (ht : typed TYP σ) (hI : I2 σ) (h : CU σ x1) : OkI PRG 3 252 [.ref 97, .int x1] σ (fun w σ' => (w = 0 ∨ w = 1) ∧ Gl mdFit σ σ' ∧ I2 σ') := by
  obtain ⟨k, h1, h2⟩ := h
  exact OkI.mono (isTold_OK (d := 0) ht h1 h2 hI.2.2.2.2) (fun w σ' hq => ⟨hq.1, hq.2.mono rfl, hI.keep hq.2 rfl⟩)
theorem sees_OK {x1 x2 x3 x4 : Int32} {σ : Sg} (ht : typed TYP σ) (hI : I2 σ) (h : -1 ≤ x1.toInt ∧ x1.toInt ≤ 15) : OkV PRG 3 248 [.ref 97, .int x1, .int x2, .int x3, .int x4] σ (fun σ' => Gl mdFit σ σ' ∧ I2 σ') :=
  OkV.deep (OkV.mono ((c_248.lift2 rfl).atV ht hI (avsC avM (avsC (avI h.1 h.2) (avsC avF (avsC avF (avsC avF avsN))))) rfl rfl rfl) (fun σ' h => ⟨h.1.mono rfl, h.2⟩)) (show 1 ≤ 3 by omega)
theorem seesHand_OK {x1 x2 : Int32} {σ : Sg} (ht : typed TYP σ) (hI : I2 σ) (h : -1 ≤ x1.toInt ∧ x1.toInt ≤ 15) : OkV PRG 3 249 [.ref 97, .int x1, .int x2] σ (fun σ' => Gl mdFit σ σ' ∧ I2 σ') :=
  OkV.deep (OkV.mono ((c_249.lift2 rfl).atV ht hI (avsC avM (avsC (avI h.1 h.2) (avsC avF avsN))) rfl rfl rfl) (fun σ' h => ⟨h.1.mono rfl, h.2⟩)) (show 2 ≤ 3 by omega)
theorem opens_OK {x1 : Int32} {σ : Sg} (ht : typed TYP σ) (hI : I2 σ) (h : CU σ x1) : OkI PRG 3 315 [.ref 97, .int x1] σ (fun _ σ' => Gl mdFit σ σ' ∧ I2 σ') :=
  OkI.deep (OkI.mono ((c_315.lift2 rfl).atI ht hI (avsC avM (avsC (avI (h.five ht).1 (h.five ht).2) avsN)) rfl rfl rfl) (fun _ σ' h => ⟨h.1.mono rfl, h.2.1⟩)) (show 0 ≤ 3 by omega)
theorem counts_17 {σ0 : Sg} : ∀ (m k : Nat) (x6 : Int32) (σ : Sg), k + m = 7 → x6.toInt = (k : Int) → I2 σ → Gl mdFit σ0 σ → Rn PRG (3 + 1) 316 17 [(0, .ref 97), (6, .int x6)] [] σ (fun v σ' => ∃ w : Int32, v = some (.int w) ∧ Gl mdFit σ0 σ' ∧ I2 σ') := by
  intro m
  induction m with
  | zero =>
    intro k x6 σ hk h6 hI hG
    obtain ⟨c1, c2, c3, c4⟩ := hI.cust hG.1
    refine w_316_17 σ x6 ⟨c1, fun _ => ⟨_, rfl, hG, hI⟩, fun c => absurd ?_ c⟩
    rw [c2, Int32.le_iff_toInt_le, h6]; omega
  | succ m ih =>
    intro k x6 σ hk h6 hI hG
    obtain ⟨c1, c2, c3, c4⟩ := hI.cust hG.1
    refine w_316_17 σ x6 ⟨c1, fun _ => ⟨_, rfl, hG, hI⟩, fun c => ?_⟩
    rw [c2, Int32.le_iff_toInt_le, h6] at c
    have hx6 : (x6 + (1 : Int32)).toInt = ((k + 1 : Nat) : Int) := by
      rw [add_lit (k := 1) h6 (by decide) (by unfold FL; omega) (by unfold FH; omega)]; push_cast; rfl
    have hC : CU σ x6 := ⟨k, h6, by clear hx6; omega⟩
    refine ⟨_, opens_OK hG.1 hI hC, fun w2 σ1 hq => ?_⟩
    have hG1 : Gl mdFit σ0 σ1 := hG.trans hq.1 rfl
    refine ⟨fun _ => ih (k + 1) _ σ1 (by omega) hx6 hq.2 hG1, fun _ => ⟨_, when_OK hG1.1 hq.2 (hC.keep hq.1), fun w4 σ3 hq3 => ?_⟩⟩
    have hG3 : Gl mdFit σ0 σ3 := hG1.trans hq3.2.1 rfl
    exact ⟨fun _ => ih (k + 1) _ σ3 (by omega) hx6 hq3.2.2 hG3, fun _ => ⟨_, rfl, hG3, hq3.2.2⟩⟩
theorem counts_OK {x1 x2 x3 x4 x5 : Int32} {σ : Sg} (ht : typed TYP σ) (hI : I2 σ) (h4 : -1 ≤ x4.toInt ∧ x4.toInt ≤ 15) (h : x1 = (3 : Int32) ∨ (CU σ x2 ∧ CU σ x3)) : OkI PRG 4 316 [.ref 97, .int x1, .int x2, .int x3, .int x4, .int x5] σ (fun _ σ' => Gl mdFit σ σ' ∧ I2 σ') := by
  refine ⟨M_316, rfl, Nat.le_of_ble_eq_true rfl, w_316_0 σ x1 x2 x3 x4 x5 ⟨_, sees_OK ht hI h4, fun σ1 hq => ⟨fun _ => counts_17 7 0 0 σ1 rfl rfl hq.2 hq.1, fun hne => ?_⟩⟩⟩
  obtain ⟨g1, i1⟩ := hq
  rcases h with h | ⟨ha, hb⟩
  · exact absurd h hne
  have end1 : ∀ σ2 : Sg, Gl mdFit σ σ2 → I2 σ2 → (∃ Qc : Sg → Prop, OkV PRG 3 249 [.ref 97, .int x4, .int x5] σ2 Qc ∧ ∀ σ4, Qc σ4 → ((x1 = (1 : Int32) → (∃ Qc : Int32 → Sg → Prop, OkI PRG 3 252 [.ref 97, .int x2] σ4 Qc ∧ ∀ w10 σ9, Qc w10 σ9 → ((w10 = 0 ∨ w10 = 1) ∧ ∃ w : Int32, some (Value.int w10) = some (.int w) ∧ Gl mdFit σ σ9 ∧ I2 σ9))) ∧ (¬ x1 = (1 : Int32) → (∃ Qc : Int32 → Sg → Prop, OkI PRG 3 252 [.ref 97, .int x2] σ4 Qc ∧ ∀ w6 σ5, Qc w6 σ5 → (∃ Qc : Int32 → Sg → Prop, OkI PRG 3 252 [.ref 97, .int x3] σ5 Qc ∧ ∀ w8 σ7, Qc w8 σ7 → ((w6 = w8 → ∃ w : Int32, some (Value.int (0 : Int32)) = some (.int w) ∧ Gl mdFit σ σ7 ∧ I2 σ7) ∧ (¬ w6 = w8 → ∃ w : Int32, some (Value.int (1 : Int32)) = some (.int w) ∧ Gl mdFit σ σ7 ∧ I2 σ7))))))) := by
    intro σ2 g2 i2
    refine ⟨_, seesHand_OK g2.1 i2 h4, fun σ4 hq => ?_⟩
    have g4 : Gl mdFit σ σ4 := g2.trans hq.1 rfl
    have ha4 := ha.keep g4
    have hb4 := hb.keep g4
    refine ⟨fun _ => ⟨_, told_OK2 g4.1 hq.2 ha4, fun w10 σ9 hz => ⟨hz.1, _, rfl, g4.trans hz.2.1 rfl, hz.2.2⟩⟩, fun _ => ⟨_, told_OK2 g4.1 hq.2 ha4, fun w6 σ5 hz => ?_⟩⟩
    have g5 : Gl mdFit σ σ5 := g4.trans hz.2.1 rfl
    exact ⟨_, told_OK2 g5.1 hz.2.2 (hb.keep g5), fun w8 σ7 hy => ⟨fun _ => ⟨_, rfl, g5.trans hy.2.1 rfl, hy.2.2⟩, fun _ => ⟨_, rfl, g5.trans hy.2.1 rfl, hy.2.2⟩⟩⟩
  refine ⟨_, when_OK g1.1 i1 (ha.keep g1), fun w3 σ2 hq => ?_⟩
  have g2 : Gl mdFit σ σ2 := g1.trans hq.2.1 rfl
  have i2 := hq.2.2
  refine ⟨fun _ => ⟨_, rfl, g2, i2⟩, fun _ => ⟨fun _ => ⟨_, when_OK g2.1 i2 (hb.keep g2), fun w12 σ11 hq => ?_⟩, fun _ => ⟨fun _ => ⟨_, rfl, g2, i2⟩, fun _ => end1 σ2 g2 i2⟩⟩⟩
  have g11 : Gl mdFit σ σ11 := g2.trans hq.2.1 rfl
  exact ⟨fun _ => ⟨_, rfl, g11, hq.2.2⟩, fun _ => ⟨fun _ => ⟨_, rfl, g11, hq.2.2⟩, fun _ => end1 σ11 g11 hq.2.2⟩⟩
theorem op_35 {N : Nat} {x1 x2 x3 x5 : Int32} {Q : Option Value → Sg → Prop} (K : ∀ (x4 : Int32) (σ' : Sg), GI N σ' → (x1 = (3 : Int32) ∨ (CU σ' x2 ∧ CU σ' x3)) → Rn PRG (4 + 1) 317 6 [(0, .ref 97), (1, .int x1), (2, .int x2), (3, .int x3), (4, .int x4), (5, .int (x5 + (1 : Int32)))] [] σ' Q) : ∀ (m k : Nat) (x4 x6 : Int32) (σ : Sg), k + m = N → x6.toInt = (k : Int) → GI N σ → (x1 = (3 : Int32) ∨ (CU σ x2 ∧ CU σ x3)) → Rn PRG (4 + 1) 317 35 [(0, .ref 97), (1, .int x1), (2, .int x2), (3, .int x3), (4, .int x4), (5, .int x5), (6, .int x6)] [] σ Q := by
  intro m
  induction m with
  | zero =>
    intro k x4 x6 σ hk h6 hg hc
    refine w_317_35 σ x1 x2 x3 x4 x5 x6 ⟨_, cards_OK hg.1 hg.2.2.1, fun w2 σ1 hq => ?_⟩
    obtain ⟨e1, hw⟩ := hq
    rw [e1]
    exact ⟨fun _ => K _ σ hg hc, fun c => absurd (by rw [le_i hw h6]; omega) c⟩
  | succ m ih =>
    intro k x4 x6 σ hk h6 hg hc
    have hN := hg.2.2.1.le
    refine w_317_35 σ x1 x2 x3 x4 x5 x6 ⟨_, cards_OK hg.1 hg.2.2.1, fun w2 σ1 hq => ?_⟩
    obtain ⟨e1, hw⟩ := hq
    rw [e1]
    have hx6 : (x6 + (1 : Int32)).toInt = ((k + 1 : Nat) : Int) := by
      rw [add_lit (k := 1) h6 (by decide) (by unfold FL; omega) (by unfold FH; omega)]; push_cast; rfl
    refine ⟨fun _ => K _ σ hg hc, fun _ => ⟨fun _ => ⟨_, counts_OK hg.1 hg.2.1 (by clear hx6; omega) hc, fun w4 σ3 hq => ?_⟩, fun _ => ih (k + 1) _ _ σ (by omega) hx6 hg hc⟩⟩
    have hg3 := hg.fit hq
    have hc3 : x1 = (3 : Int32) ∨ (CU σ3 x2 ∧ CU σ3 x3) := hc.imp id (fun h => ⟨h.1.keep hq.1, h.2.keep hq.1⟩)
    exact ⟨fun _ => ih (k + 1) _ _ σ3 (by omega) hx6 hg3 hc3, fun _ => ih (k + 1) _ _ σ3 (by omega) hx6 hg3 hc3⟩
theorem one_N {N : Nat} {w : Int32} (hN : N ≤ 16) (hw : w.toInt = (N : Int)) : ((1 : Int32) <<< (w &&& 31)).toInt ≤ 65536 := by
  have h16 : (2 : Nat) ^ N ≤ 2 ^ 16 := Nat.pow_le_pow_right (by omega) hN
  have one : (1 : Int32).toInt = 1 := by decide
  have h : ((2 ^ N : Nat) : Int) ≤ ((2 ^ 16 : Nat) : Int) := by exact_mod_cast h16
  have e : ((2 ^ N : Nat) : Int) = (2 : Int) ^ N := by push_cast; rfl
  rw [shl_ex hw (by omega) (by decide) (by rw [one, Int.one_mul]; unfold FH; omega), one, Int.one_mul]
  omega
theorem op_6 {N : Nat} {x1 x2 x3 : Int32} : ∀ (m k : Nat) (x4 x5 : Int32) (σ : Sg), k + m = 65536 → x5.toInt = (k : Int) → GI N σ → (x1 = (3 : Int32) ∨ (CU σ x2 ∧ CU σ x3)) → Rn PRG (4 + 1) 317 6 [(0, .ref 97), (1, .int x1), (2, .int x2), (3, .int x3), (4, .int x4), (5, .int x5)] [] σ (fun v σ' => ∃ w : Int32, v = some (.int w) ∧ GI N σ') := by
  intro m
  induction m with
  | zero =>
    intro k x4 x5 σ hk h5 hg hc
    refine w_317_6 σ x1 x2 x3 x4 x5 ⟨_, cards_OK hg.1 hg.2.2.1, fun w2 σ1 hq => ?_⟩
    obtain ⟨e1, hw⟩ := hq
    rw [e1]
    refine ⟨fun _ => ⟨_, rfl, hg⟩, fun c => absurd ?_ c⟩
    have := one_N hg.2.2.1.le.2 hw
    rw [Int32.le_iff_toInt_le, h5]; omega
  | succ m ih =>
    intro k x4 x5 σ hk h5 hg hc
    refine w_317_6 σ x1 x2 x3 x4 x5 ⟨_, cards_OK hg.1 hg.2.2.1, fun w2 σ1 hq => ?_⟩
    obtain ⟨e1, hw⟩ := hq
    rw [e1]
    have hx5 : (x5 + (1 : Int32)).toInt = ((k + 1 : Nat) : Int) := by
      rw [add_lit (k := 1) h5 (by decide) (by unfold FL; omega) (by unfold FH; omega)]; push_cast; rfl
    refine ⟨fun _ => ⟨_, rfl, hg⟩, fun _ => ⟨_, bits_ok, fun w4 σ3 hq => ?_⟩⟩
    rw [hq.1]
    refine ⟨_, handSize_OK (d := 3) hg.1 hg.2.2.1, fun w6 σ5 hq => ?_⟩
    rw [hq.1]
    exact ⟨fun _ => op_35 (fun x4 σ' a b => ih (k + 1) x4 _ σ' (by omega) hx5 a b) N 0 _ 0 σ (by omega) rfl hg hc, fun _ => ih (k + 1) _ _ σ (by omega) hx5 hg hc⟩
theorem countOpenings_OK {N : Nat} {x1 x2 x3 : Int32} {σ : Sg} (h : GI N σ) (hc : x1 = (3 : Int32) ∨ (CU σ x2 ∧ CU σ x3)) : OkI PRG 5 317 [.ref 97, .int x1, .int x2, .int x3] σ (fun _ σ' => GI N σ') :=
  ⟨M_317, rfl, Nat.le_of_ble_eq_true rfl, w_317_0 σ x1 x2 x3 (op_6 65536 0 0 0 σ rfl rfl h hc)⟩
theorem openings_OK {N : Nat} {x1 x2 : Int32} {σ : Sg} (h : GI N σ) : OkI PRG 6 318 [.ref 97, .int x1, .int x2] σ (fun _ σ' => GI N σ') := by
  refine ⟨M_318, rfl, Nat.le_of_ble_eq_true rfl, w_318_0 σ x1 x2 ⟨_, isCustom_OK (d := 4) h.1, fun w2 σ1 hq => ?_⟩⟩
  obtain ⟨e1, c1⟩ := hq
  rw [e1]
  refine ⟨fun _ => ⟨_, rfl, h⟩, fun hne => ⟨_, in_OK, fun w4 σ3 hq => ?_⟩⟩
  have c1 := c1 hne
  rw [hq.1]
  refine ⟨fun _ => ⟨_, rfl, h⟩, fun _ => ⟨_, OkI.deep (opens_OK h.1 h.2.1 c1) (by omega), fun w6 σ5 hq => ?_⟩⟩
  have h5 := h.fit hq
  have c5 := c1.keep hq.1
  exact ⟨fun _ => ⟨_, rfl, h5⟩, fun _ => ⟨fun _ => ⟨_, countOpenings_OK h5 (Or.inr ⟨c5, c5⟩), fun w10 σ9 hq => ⟨_, rfl, hq⟩⟩, fun _ => ⟨_, countOpenings_OK h5 (Or.inr ⟨c5, c5⟩), fun w8 σ7 hq => ⟨_, rfl, hq⟩⟩⟩⟩
theorem quarrel_OK {N : Nat} {x1 x2 : Int32} {σ : Sg} (h : GI N σ) : OkI PRG 6 319 [.ref 97, .int x1, .int x2] σ (fun _ σ' => GI N σ') := by
  refine ⟨M_319, rfl, Nat.le_of_ble_eq_true rfl, w_319_0 σ x1 x2 ⟨_, isCustom_OK (d := 4) h.1, fun w2 σ1 hq => ?_⟩⟩
  obtain ⟨e1, c1⟩ := hq
  rw [e1]
  refine ⟨fun _ => ⟨_, rfl, h⟩, fun hne => ⟨_, isCustom_OK (d := 4) h.1, fun w4 σ3 hq => ?_⟩⟩
  have c1 := c1 hne
  obtain ⟨e3, c2⟩ := hq
  rw [e3]
  refine ⟨fun _ => ⟨_, rfl, h⟩, fun hne2 => ⟨fun _ => ⟨_, rfl, h⟩, fun _ => ⟨_, OkI.deep (opens_OK h.1 h.2.1 c1) (by omega), fun w6 σ5 hq => ?_⟩⟩⟩
  have c2 := c2 hne2
  have h5 := h.fit hq
  have c15 := c1.keep hq.1
  have c25 := c2.keep hq.1
  refine ⟨fun _ => ⟨_, rfl, h5⟩, fun _ => ⟨_, OkI.deep (opens_OK h5.1 h5.2.1 c25) (by omega), fun w8 σ7 hq => ?_⟩⟩
  have h7 := h5.fit hq
  exact ⟨fun _ => ⟨_, rfl, h7⟩, fun _ => ⟨_, countOpenings_OK h7 (Or.inr ⟨c15.keep hq.1, c25.keep hq.1⟩), fun w10 σ9 hq => ⟨_, rfl, hq⟩⟩⟩
theorem gap_OK {N : Nat} {σ : Sg} (h : GI N σ) : OkI PRG 6 320 [.ref 97] σ (fun _ σ' => GI N σ') :=
  ⟨M_320, rfl, Nat.le_of_ble_eq_true rfl, w_320_0 σ ⟨_, countOpenings_OK h (Or.inl rfl), fun w2 σ1 hq => ⟨_, rfl, hq⟩⟩⟩
theorem count_OK {N : Nat} {x1 : Int32} {σ : Sg} (h : GI N σ) : OkI PRG 2 323 [.ref 97, .int x1] σ (fun _ σ' => GI N σ') := by
  have hl := live_in h.1
  have ten : (10 : Int32).toInt = 10 := by decide
  refine ⟨M_323, rfl, Nat.le_of_ble_eq_true rfl, w_323_0 σ x1 ⟨fun hr => ⟨_, isCustom_OK (d := 0) h.1, fun w2 σ1 hq => ?_⟩, fun _ => ⟨hl, _, rfl, h⟩, fun _ => ⟨hl, _, rfl, h⟩, fun _ => ⟨_, handSize_OK (d := 0) h.1 h.2.2.1, fun w4 σ3 hq => ⟨_, rfl, by rw [hq.1]; exact h⟩⟩, fun _ => ⟨_, trumpSuit_OK h.1, fun w6 σ5 hq => ?_⟩, fun _ => ⟨hl, _, rfl, h⟩, fun _ => ⟨fun _ => ⟨_, rfl, h⟩, fun _ => ⟨_, rfl, h⟩⟩, fun _ => ⟨_, rfl, h⟩, fun _ => ⟨_, rfl, h⟩, fun _ => ⟨fun _ => ⟨fun _ => ⟨_, rfl, h⟩, fun _ => ⟨_, rfl, h⟩⟩, fun _ => ⟨fun _ => ⟨_, rfl, h⟩, fun _ => ⟨_, rfl, h⟩⟩⟩⟩⟩
  · obtain ⟨e1, c1⟩ := hq
    rw [e1]
    refine ⟨fun _ => ⟨_, rfl, h⟩, fun hne => ?_⟩
    have c5 := (c1 hne).five h.1
    have hlw := live_wn h.1
    generalize wn (σ.1 97 18) = l at hlw
    have ex : x1.toInt = (x1 - (10 : Int32)).toInt + 10 := by
      have : x1 = (x1 - (10 : Int32)) + (10 : Int32) := by
        apply Int32.toBitVec_inj.mp
        simp
      have e := add_ex (x := x1 - (10 : Int32)) (y := (10 : Int32)) (by rw [ten]; unfold FL; omega) (by rw [ten]; unfold FH; omega)
      rw [← this, ten] at e
      exact e
    have e6 : ((6 : Int32) * (σ.1 97 18)).toInt = 6 * (l : Int) := by
      rw [mul_lit (k := 6) (by decide) (by unfold FL; omega) (by unfold FH; omega), hlw.1]
    have ea : (((6 : Int32) * (σ.1 97 18)) + x1).toInt = 6 * (l : Int) + x1.toInt := by
      rw [add_ex (by rw [e6]; unfold FL; omega) (by rw [e6]; unfold FH; omega), e6]
    have eb : ((((6 : Int32) * (σ.1 97 18)) + x1) - (10 : Int32)).toInt = 6 * (l : Int) + x1.toInt - 10 := by
      rw [sub_ex (by rw [ea, ten]; unfold FL; clear e6 ea; omega) (by rw [ea, ten]; unfold FH; clear e6 ea; omega), ea, ten]
    have hin : inR ((((6 : Int32) * (σ.1 97 18)) + x1) - (10 : Int32)) 12 = true := inR_ok (by rw [eb]; clear e6 ea eb; omega) (by rw [eb]; clear e6 ea eb; omega)
    exact ⟨hin, hin, _, rfl, h⟩
  · rw [hq]
    exact ⟨fun _ => ⟨_, rfl, h⟩, fun _ => ⟨_, trumpSuit_OK h.1, fun w8 σ7 hq => ⟨_, rfl, by rw [hq]; exact h⟩⟩⟩
theorem kept_OK {N : Nat} {x1 : Int32} {σ : Sg} (h : GI N σ) : OkI PRG 2 312 [.ref 97, .int x1] σ (fun _ σ' => GI N σ') :=
  OkI.deep (OkI.mono ((c_312.lift2 rfl).atI h.1 h.2.1 (avsC avM (avsC avF avsN)) rfl rfl rfl) (fun _ σ' hq => h.keep (hq.1.mono rfl : Gl [] σ σ') rfl hq.2.1 (h.2.2.2.1.keep (hq.1.mono rfl : Gl [] σ σ') rfl))) (show 1 ≤ 2 by omega)
theorem toldB_OK {N : Nat} {x1 x2 x3 : Int32} {σ : Sg} (h : GI N σ) : OkI PRG 2 314 [.ref 97, .int x1, .int x2, .int x3] σ (fun _ σ' => GI N σ') :=
  OkI.mono ((c_314.lift2 rfl).atI h.1 h.2.1 (avsC avM (avsC avF (avsC avF (avsC avF avsN)))) rfl rfl rfl) (fun _ σ' hq => h.keep (hq.1.mono rfl : Gl [] σ σ') rfl hq.2.1 (h.2.2.2.1.keep (hq.1.mono rfl : Gl [] σ σ') rfl))
theorem tricks_OK {N : Nat} {x1 : Int32} {σ : Sg} (h : GI N σ) : OkI PRG 3 245 [.ref 97, .int x1] σ (fun _ σ' => GI N σ') :=
  OkI.mono ((c_245.lift2 rfl).atI h.1 h.2.1 (avsC avM (avsC avF avsN)) rfl rfl rfl) (fun _ σ' hq => h.keep (hq.1.mono rfl : Gl [] σ σ') rfl hq.2.1 (h.2.2.2.1.keep (hq.1.mono rfl : Gl [] σ σ') rfl))
theorem winner_OK2 {N : Nat} {x1 : Int32} {σ : Sg} (h : GI N σ) : OkI PRG 3 246 [.ref 97, .int x1] σ (fun _ σ' => GI N σ') :=
  OkI.mono ((c_246.lift2 rfl).atI h.1 h.2.1 (avsC avM (avsC avF avsN)) rfl rfl rfl) (fun _ σ' hq => h.keep (hq.1.mono rfl : Gl [] σ σ') rfl hq.2.1 (h.2.2.2.1.keep (hq.1.mono rfl : Gl [] σ σ') rfl))
theorem place_OK {N : Nat} {σ : Sg} (h : GI N σ) : OkI PRG 0 205 [.ref 97] σ (fun _ σ' => GI N σ') :=
  OkI.mono ((c_205.lift2 rfl).atI h.1 h.2.1 (avsC avM avsN) rfl rfl rfl) (fun _ σ' hq => h.keep (hq.1.mono rfl : Gl [] σ σ') rfl hq.2.1 (h.2.2.2.1.keep (hq.1.mono rfl : Gl [] σ σ') rfl))
