/-! reading: what must hold -/
set_option maxRecDepth 100000 in
theorem w_204_0 {d : Nat} {Q : Option Value → Sg → Prop} (σ : Sg) (h : Rn PRG (d + 1) 204 10 [(0, .ref 97), (1, .int (0 : Int32))] [] (s1 σ 97 4 (σ.1 97 2)) Q) : Rn PRG (d + 1) 204 0 [(0, .ref 97)] [] σ Q := by
  have hM : PRG[204]? = some M_204 := rfl
  refine Rn.seg (pc' := 10) (ls' := [(1, .int (0 : Int32)), (0, .ref 97)]) (st' := []) (σ' := (s1 σ 97 4 (σ.1 97 2))) hM 6 rfl ?_
  exact Rn.sub h (subL_cons rfl (subL_cons rfl subL_nil)) (show ndL _ from (by decide : List.Nodup ([0, 1] : List Nat)))
set_option maxRecDepth 100000 in
theorem w_204_10 {d : Nat} {Q : Option Value → Sg → Prop} (σ : Sg) (x1 : Int32) (h : (((σ.1 97 4) ≤ x1 → (∃ Qc : Sg → Prop, OkV PRG d 188 [.ref 97] (s1 σ 97 2 (0 : Int32)) Qc ∧ ∀ σ1, Qc σ1 → (inR ((1 : Int32) - (σ1.1 97 18)) 2 = true ∧ (inR ((1 : Int32) - (σ1.1 97 18)) 2 = true ∧ (inR ((1 : Int32) - (σ1.1 97 18)) 2 = true ∧ (inR ((1 : Int32) - (σ1.1 97 18)) 2 = true ∧ Rn PRG (d + 1) 204 144 [(0, .ref 97)] [] (s1 (s1 (s1 (s1 (s1 (s1 (s1 (s1 (s1 (s1 (s1 (s1 σ1 97 11 (0 : Int32)) 97 12 (0 : Int32)) 97 13 (0 : Int32)) 97 15 (0 : Int32)) 97 19 ((1 : Int32) - (σ1.1 97 18))) 97 20 (0 : Int32)) 106 ((1 : Int32) - (σ1.1 97 18)).toNatClampNeg (4 : Int32)) 107 ((1 : Int32) - (σ1.1 97 18)).toNatClampNeg (4 : Int32)) 108 ((1 : Int32) - (σ1.1 97 18)).toNatClampNeg (-1 : Int32)) 109 ((1 : Int32) - (σ1.1 97 18)).toNatClampNeg (0 : Int32)) 97 30 ((150 : Int32) * ((1 : Int32) - (σ1.1 97 18)))) 97 37 ((420 : Int32) * ((1 : Int32) - (σ1.1 97 18)))) Q)))))) ∧ (¬ (σ.1 97 4) ≤ x1 → (inR x1 2000 = true ∧ (inR x1 2000 = true ∧ Rn PRG (d + 1) 204 10 [(0, .ref 97), (1, .int (x1 + (1 : Int32)))] [] (s1 σ 99 x1.toNatClampNeg (vp_nar .byte (σ.1 98 x1.toNatClampNeg))) Q))))) : Rn PRG (d + 1) 204 10 [(0, .ref 97), (1, .int x1)] [] σ Q := by
  have hM : PRG[204]? = some M_204 := rfl
  refine Rn.br (c := (σ.1 97 4) ≤ x1) (a := 36) (b := 18) (ls' := [(0, .ref 97), (1, .int x1)]) (st' := []) (σ' := σ) hM 4 rfl (fun c => ?_) (fun c => ?_)
  · replace h := h.1 c
    refine Rn.seg (pc' := 42) (ls' := [(0, .ref 97), (1, .int x1)]) (st' := [.ref 97]) (σ' := (s1 σ 97 2 (0 : Int32))) hM 4 rfl ?_
    obtain ⟨Qc, hq, h⟩ := h
    refine Rn.cV hM rfl rfl (by decide) hq (fun σ1 hw => ?_)
    replace h := h σ1 hw
    refine Rn.seg (pc' := 89) (ls' := [(0, .ref 97), (1, .int x1)]) (st' := [.int (4 : Int32), .int ((1 : Int32) - (σ1.1 97 18)), .ref 106]) (σ' := (s1 (s1 (s1 (s1 (s1 (s1 σ1 97 11 (0 : Int32)) 97 12 (0 : Int32)) 97 13 (0 : Int32)) 97 15 (0 : Int32)) 97 19 ((1 : Int32) - (σ1.1 97 18))) 97 20 (0 : Int32))) hM 26 rfl ?_
    refine Rn.iast hM rfl rfl h.1 ?_
    refine Rn.seg (pc' := 99) (ls' := [(0, .ref 97), (1, .int x1)]) (st' := [.int (4 : Int32), .int ((1 : Int32) - (σ1.1 97 18)), .ref 107]) (σ' := (s1 (s1 (s1 (s1 (s1 (s1 (s1 σ1 97 11 (0 : Int32)) 97 12 (0 : Int32)) 97 13 (0 : Int32)) 97 15 (0 : Int32)) 97 19 ((1 : Int32) - (σ1.1 97 18))) 97 20 (0 : Int32)) 106 ((1 : Int32) - (σ1.1 97 18)).toNatClampNeg (4 : Int32))) hM 5 rfl ?_
    refine Rn.iast hM rfl rfl h.2.1 ?_
    refine Rn.seg (pc' := 109) (ls' := [(0, .ref 97), (1, .int x1)]) (st' := [.int (-1 : Int32), .int ((1 : Int32) - (σ1.1 97 18)), .ref 108]) (σ' := (s1 (s1 (s1 (s1 (s1 (s1 (s1 (s1 σ1 97 11 (0 : Int32)) 97 12 (0 : Int32)) 97 13 (0 : Int32)) 97 15 (0 : Int32)) 97 19 ((1 : Int32) - (σ1.1 97 18))) 97 20 (0 : Int32)) 106 ((1 : Int32) - (σ1.1 97 18)).toNatClampNeg (4 : Int32)) 107 ((1 : Int32) - (σ1.1 97 18)).toNatClampNeg (4 : Int32))) hM 5 rfl ?_
    refine Rn.iast hM rfl rfl h.2.2.1 ?_
    refine Rn.seg (pc' := 119) (ls' := [(0, .ref 97), (1, .int x1)]) (st' := [.int (0 : Int32), .int ((1 : Int32) - (σ1.1 97 18)), .ref 109]) (σ' := (s1 (s1 (s1 (s1 (s1 (s1 (s1 (s1 (s1 σ1 97 11 (0 : Int32)) 97 12 (0 : Int32)) 97 13 (0 : Int32)) 97 15 (0 : Int32)) 97 19 ((1 : Int32) - (σ1.1 97 18))) 97 20 (0 : Int32)) 106 ((1 : Int32) - (σ1.1 97 18)).toNatClampNeg (4 : Int32)) 107 ((1 : Int32) - (σ1.1 97 18)).toNatClampNeg (4 : Int32)) 108 ((1 : Int32) - (σ1.1 97 18)).toNatClampNeg (-1 : Int32))) hM 5 rfl ?_
    refine Rn.iast hM rfl rfl h.2.2.2.1 ?_
    refine Rn.seg (pc' := 144) (ls' := [(0, .ref 97), (1, .int x1)]) (st' := []) (σ' := (s1 (s1 (s1 (s1 (s1 (s1 (s1 (s1 (s1 (s1 (s1 (s1 σ1 97 11 (0 : Int32)) 97 12 (0 : Int32)) 97 13 (0 : Int32)) 97 15 (0 : Int32)) 97 19 ((1 : Int32) - (σ1.1 97 18))) 97 20 (0 : Int32)) 106 ((1 : Int32) - (σ1.1 97 18)).toNatClampNeg (4 : Int32)) 107 ((1 : Int32) - (σ1.1 97 18)).toNatClampNeg (4 : Int32)) 108 ((1 : Int32) - (σ1.1 97 18)).toNatClampNeg (-1 : Int32)) 109 ((1 : Int32) - (σ1.1 97 18)).toNatClampNeg (0 : Int32)) 97 30 ((150 : Int32) * ((1 : Int32) - (σ1.1 97 18)))) 97 37 ((420 : Int32) * ((1 : Int32) - (σ1.1 97 18))))) hM 12 rfl ?_
    exact Rn.sub h.2.2.2.2 (subL_cons rfl subL_nil) (show ndL _ from (by decide : List.Nodup ([0] : List Nat)))
  · replace h := h.2 c
    refine Rn.seg (pc' := 28) (ls' := [(0, .ref 97), (1, .int x1)]) (st' := [.int x1, .ref 98, .int x1, .ref 99]) (σ' := σ) hM 6 rfl ?_
    refine Rn.bald2 hM rfl rfl h.1 ?_
    refine Rn.seg (pc' := 29) (ls' := [(0, .ref 97), (1, .int x1)]) (st' := [.int (σ.1 98 x1.toNatClampNeg), .int x1, .ref 99]) (σ' := σ) hM 0 rfl ?_
    refine Rn.bast2 hM rfl rfl h.2.1 ?_
    refine Rn.seg (pc' := 10) (ls' := [(1, .int (x1 + (1 : Int32))), (0, .ref 97)]) (st' := []) (σ' := (s1 σ 99 x1.toNatClampNeg (vp_nar .byte (σ.1 98 x1.toNatClampNeg)))) hM 2 rfl ?_
    exact Rn.sub h.2.2 (subL_cons rfl (subL_cons rfl subL_nil)) (show ndL _ from (by decide : List.Nodup ([0, 1] : List Nat)))
set_option maxRecDepth 100000 in
theorem w_204_144 {d : Nat} {Q : Option Value → Sg → Prop} (σ : Sg) (h : (((σ.1 97 13) = 0 → (∃ Qc : Int32 → Sg → Prop, OkI PRG d 189 [.ref 97, .int (0 : Int32)] σ Qc ∧ ∀ w2 σ1, Qc w2 σ1 → ((w2 = 0 → (∃ Qc : Sg → Prop, OkV PRG d 203 [.ref 97] σ1 Qc ∧ ∀ σ3, Qc σ3 → Rn PRG (d + 1) 204 144 [(0, .ref 97)] [] σ3 Q)) ∧ (¬ w2 = 0 → Rn PRG (d + 1) 204 166 [(0, .ref 97)] [] σ1 Q)))) ∧ (¬ (σ.1 97 13) = 0 → Rn PRG (d + 1) 204 166 [(0, .ref 97)] [] σ Q))) : Rn PRG (d + 1) 204 144 [(0, .ref 97)] [] σ Q := by
  have hM : PRG[204]? = some M_204 := rfl
  refine Rn.brN (c := (σ.1 97 13) = 0) (a := 166) (b := 151) (ls' := [(0, .ref 97)]) (st' := []) (σ' := σ) hM 3 rfl (fun c => ?_) (fun c => ?_)
  · replace h := h.2 c
    refine Rn.seg (pc' := 166) (ls' := [(0, .ref 97)]) (st' := []) (σ' := σ) hM 0 rfl ?_
    exact Rn.sub h (subL_cons rfl subL_nil) (show ndL _ from (by decide : List.Nodup ([0] : List Nat)))
  · replace h := h.1 c
    refine Rn.seg (pc' := 153) (ls' := [(0, .ref 97)]) (st' := [.int (0 : Int32), .ref 97]) (σ' := σ) hM 2 rfl ?_
    obtain ⟨Qc, hq, h⟩ := h
    refine Rn.cI hM rfl rfl (by decide) hq (fun w2 σ1 hw => ?_)
    replace h := h w2 σ1 hw
    refine Rn.brN (c := w2 = 0) (a := 166) (b := 159) (ls' := [(0, .ref 97)]) (st' := []) (σ' := σ1) hM 1 rfl (fun c => ?_) (fun c => ?_)
    · replace h := h.2 c
      refine Rn.seg (pc' := 166) (ls' := [(0, .ref 97)]) (st' := []) (σ' := σ1) hM 0 rfl ?_
      exact Rn.sub h (subL_cons rfl subL_nil) (show ndL _ from (by decide : List.Nodup ([0] : List Nat)))
    · replace h := h.1 c
      refine Rn.seg (pc' := 160) (ls' := [(0, .ref 97)]) (st' := [.ref 97]) (σ' := σ1) hM 1 rfl ?_
      obtain ⟨Qc, hq, h⟩ := h
      refine Rn.cV hM rfl rfl (by decide) hq (fun σ3 hw => ?_)
      replace h := h σ3 hw
      refine Rn.seg (pc' := 144) (ls' := [(0, .ref 97)]) (st' := []) (σ' := σ3) hM 1 rfl ?_
      exact Rn.sub h (subL_cons rfl subL_nil) (show ndL _ from (by decide : List.Nodup ([0] : List Nat)))
set_option maxRecDepth 100000 in
theorem w_204_166 {d : Nat} {Q : Option Value → Sg → Prop} (σ : Sg) (h : (((σ.1 97 13) ≤ 0 → (((σ.1 97 15) ≤ 0 → (((σ.1 97 13) ≤ 0 → (((σ.1 97 15) ≤ 0 → Q (some (.int (0 : Int32))) (s1 (s1 (s1 (s1 (s1 (s1 (s1 σ 97 17 (-1 : Int32)) 97 18 (σ.1 97 19)) 97 45 (0 : Int32)) 97 48 (0 : Int32)) 97 86 (0 : Int32)) 152 0 (vp_nar .boolean (0 : Int32))) 152 1 (vp_nar .boolean (0 : Int32)))) ∧ (¬ (σ.1 97 15) ≤ 0 → Q (some (.int (σ.1 97 15))) (s1 σ 97 17 (-1 : Int32))))) ∧ (¬ (σ.1 97 13) ≤ 0 → Q (some (.int (σ.1 97 13))) (s1 σ 97 17 (-1 : Int32))))) ∧ (¬ (σ.1 97 15) ≤ 0 → (((σ.1 97 13) ≤ 0 → (((σ.1 97 15) ≤ 0 → Q (some (.int (0 : Int32))) (s1 (s1 (s1 (s1 (s1 (s1 (s1 σ 97 17 (σ.1 97 16)) 97 18 (σ.1 97 19)) 97 45 (0 : Int32)) 97 48 (0 : Int32)) 97 86 (0 : Int32)) 152 0 (vp_nar .boolean (0 : Int32))) 152 1 (vp_nar .boolean (0 : Int32)))) ∧ (¬ (σ.1 97 15) ≤ 0 → Q (some (.int (σ.1 97 15))) (s1 σ 97 17 (σ.1 97 16))))) ∧ (¬ (σ.1 97 13) ≤ 0 → Q (some (.int (σ.1 97 13))) (s1 σ 97 17 (σ.1 97 16))))))) ∧ (¬ (σ.1 97 13) ≤ 0 → (((σ.1 97 13) ≤ 0 → (((σ.1 97 15) ≤ 0 → Q (some (.int (0 : Int32))) (s1 (s1 (s1 (s1 (s1 (s1 (s1 σ 97 17 (σ.1 97 14)) 97 18 (σ.1 97 19)) 97 45 (0 : Int32)) 97 48 (0 : Int32)) 97 86 (0 : Int32)) 152 0 (vp_nar .boolean (0 : Int32))) 152 1 (vp_nar .boolean (0 : Int32)))) ∧ (¬ (σ.1 97 15) ≤ 0 → Q (some (.int (σ.1 97 15))) (s1 σ 97 17 (σ.1 97 14))))) ∧ (¬ (σ.1 97 13) ≤ 0 → Q (some (.int (σ.1 97 13))) (s1 σ 97 17 (σ.1 97 14))))))) : Rn PRG (d + 1) 204 166 [(0, .ref 97)] [] σ Q := by
  have hM : PRG[204]? = some M_204 := rfl
  refine Rn.br (c := (σ.1 97 13) ≤ 0) (a := 181) (b := 174) (ls' := [(0, .ref 97)]) (st' := [.ref 97]) (σ' := σ) hM 4 rfl (fun c => ?_) (fun c => ?_)
  · replace h := h.1 c
    refine Rn.br (c := (σ.1 97 15) ≤ 0) (a := 195) (b := 188) (ls' := [(0, .ref 97)]) (st' := [.ref 97]) (σ' := σ) hM 3 rfl (fun c => ?_) (fun c => ?_)
    · replace h := h.1 c
      refine Rn.br (c := (σ.1 97 13) ≤ 0) (a := 211) (b := 206) (ls' := [(0, .ref 97)]) (st' := []) (σ' := (s1 σ 97 17 (-1 : Int32))) hM 5 rfl (fun c => ?_) (fun c => ?_)
      · replace h := h.1 c
        refine Rn.br (c := (σ.1 97 15) ≤ 0) (a := 223) (b := 218) (ls' := [(0, .ref 97)]) (st' := []) (σ' := (s1 σ 97 17 (-1 : Int32))) hM 3 rfl (fun c => ?_) (fun c => ?_)
        · replace h := h.1 c
          refine Rn.seg (pc' := 261) (ls' := [(0, .ref 97)]) (st' := [.int (0 : Int32)]) (σ' := (s1 (s1 (s1 (s1 (s1 (s1 (s1 σ 97 17 (-1 : Int32)) 97 18 (σ.1 97 19)) 97 45 (0 : Int32)) 97 48 (0 : Int32)) 97 86 (0 : Int32)) 152 0 (vp_nar .boolean (0 : Int32))) 152 1 (vp_nar .boolean (0 : Int32)))) hM 24 rfl ?_
          exact Rn.ret hM rfl rfl h
        · replace h := h.2 c
          refine Rn.seg (pc' := 222) (ls' := [(0, .ref 97)]) (st' := [.int (σ.1 97 15)]) (σ' := (s1 σ 97 17 (-1 : Int32))) hM 2 rfl ?_
          exact Rn.ret hM rfl rfl h
      · replace h := h.2 c
        refine Rn.seg (pc' := 210) (ls' := [(0, .ref 97)]) (st' := [.int (σ.1 97 13)]) (σ' := (s1 σ 97 17 (-1 : Int32))) hM 2 rfl ?_
        exact Rn.ret hM rfl rfl h
    · replace h := h.2 c
      refine Rn.br (c := (σ.1 97 13) ≤ 0) (a := 211) (b := 206) (ls' := [(0, .ref 97)]) (st' := []) (σ' := (s1 σ 97 17 (σ.1 97 16))) hM 7 rfl (fun c => ?_) (fun c => ?_)
      · replace h := h.1 c
        refine Rn.br (c := (σ.1 97 15) ≤ 0) (a := 223) (b := 218) (ls' := [(0, .ref 97)]) (st' := []) (σ' := (s1 σ 97 17 (σ.1 97 16))) hM 3 rfl (fun c => ?_) (fun c => ?_)
        · replace h := h.1 c
          refine Rn.seg (pc' := 261) (ls' := [(0, .ref 97)]) (st' := [.int (0 : Int32)]) (σ' := (s1 (s1 (s1 (s1 (s1 (s1 (s1 σ 97 17 (σ.1 97 16)) 97 18 (σ.1 97 19)) 97 45 (0 : Int32)) 97 48 (0 : Int32)) 97 86 (0 : Int32)) 152 0 (vp_nar .boolean (0 : Int32))) 152 1 (vp_nar .boolean (0 : Int32)))) hM 24 rfl ?_
          exact Rn.ret hM rfl rfl h
        · replace h := h.2 c
          refine Rn.seg (pc' := 222) (ls' := [(0, .ref 97)]) (st' := [.int (σ.1 97 15)]) (σ' := (s1 σ 97 17 (σ.1 97 16))) hM 2 rfl ?_
          exact Rn.ret hM rfl rfl h
      · replace h := h.2 c
        refine Rn.seg (pc' := 210) (ls' := [(0, .ref 97)]) (st' := [.int (σ.1 97 13)]) (σ' := (s1 σ 97 17 (σ.1 97 16))) hM 2 rfl ?_
        exact Rn.ret hM rfl rfl h
  · replace h := h.2 c
    refine Rn.br (c := (σ.1 97 13) ≤ 0) (a := 211) (b := 206) (ls' := [(0, .ref 97)]) (st' := []) (σ' := (s1 σ 97 17 (σ.1 97 14))) hM 7 rfl (fun c => ?_) (fun c => ?_)
    · replace h := h.1 c
      refine Rn.br (c := (σ.1 97 15) ≤ 0) (a := 223) (b := 218) (ls' := [(0, .ref 97)]) (st' := []) (σ' := (s1 σ 97 17 (σ.1 97 14))) hM 3 rfl (fun c => ?_) (fun c => ?_)
      · replace h := h.1 c
        refine Rn.seg (pc' := 261) (ls' := [(0, .ref 97)]) (st' := [.int (0 : Int32)]) (σ' := (s1 (s1 (s1 (s1 (s1 (s1 (s1 σ 97 17 (σ.1 97 14)) 97 18 (σ.1 97 19)) 97 45 (0 : Int32)) 97 48 (0 : Int32)) 97 86 (0 : Int32)) 152 0 (vp_nar .boolean (0 : Int32))) 152 1 (vp_nar .boolean (0 : Int32)))) hM 24 rfl ?_
        exact Rn.ret hM rfl rfl h
      · replace h := h.2 c
        refine Rn.seg (pc' := 222) (ls' := [(0, .ref 97)]) (st' := [.int (σ.1 97 15)]) (σ' := (s1 σ 97 17 (σ.1 97 14))) hM 2 rfl ?_
        exact Rn.ret hM rfl rfl h
    · replace h := h.2 c
      refine Rn.seg (pc' := 210) (ls' := [(0, .ref 97)]) (st' := [.int (σ.1 97 13)]) (σ' := (s1 σ 97 17 (σ.1 97 14))) hM 2 rfl ?_
      exact Rn.ret hM rfl rfl h
/-! reading a text -/
def mdRead : List (Nat × Nat × Nat) := [(12, 2, 2), (12, 4, 4), (55, 0, 1999), (12, 10, 17), (56, 0, 402), (57, 0, 402), (58, 0, 402), (12, 19, 20), (12, 30, 30), (12, 37, 37), (12, 41, 41), (62, 0, 1), (63, 0, 1), (64, 0, 1), (65, 0, 1), (66, 0, 11), (67, 0, 11), (68, 0, 23), (69, 0, 23), (70, 0, 299), (71, 0, 299), (72, 0, 299), (73, 0, 299), (74, 0, 299), (75, 0, 299), (76, 0, 839), (77, 0, 839), (78, 0, 63)]
/-- the customs of the other side stand -/
theorem WFi_side {l s : Nat} {σ0 σ : Sg} (h : WFi σ0) (hl : (σ0.1 97 18).toInt = (l : Int)) (hsl : s + l = 1) (e18 : σ.1 97 18 = σ0.1 97 18) (lv : LVs s σ0 σ) : WFi σ := by
  obtain ⟨a1, a2, a3, a4⟩ := h
  have hwl : wn (σ0.1 97 18) = l := by unfold wn; omega
  rw [hwl] at a3
  unfold WFc at a4
  rw [hwl] at a4
  have e109 : σ.1 109 l = σ0.1 109 l := (lv.2.2.2 l (by omega)).2.2
  have rule : ∀ r, r / 12 = l → RULE σ0 r → RULE σ r := by
    intro r hr hR
    obtain ⟨b1, b2, b3, b4, b5⟩ := hR
    have er := lv.2.2.1 r (by omega)
    rw [hr] at b4 b5
    unfold RULE
    rw [er.1, er.2, hr]
    refine ⟨b1, b2, fun t t1 t2 => ?_, b4, b5⟩
    obtain ⟨c1, c2, c3⟩ := b3 t t1 t2
    have ht : t / 150 = l := by omega
    have et := lv.2.1 t (by omega)
    unfold RG at c3
    rw [ht] at c3
    have fr : ∀ x : Nat, 420 * (l : Int) ≤ (x : Int) → (x : Int) < 420 * (l : Int) + 420 → σ.1 120 x = σ0.1 120 x ∧ σ.1 121 x = σ0.1 121 x := fun x x1 x2 => lv.1 x (by omega)
    refine ⟨?_, ?_, ?_⟩
    · rw [et.1, et.2.1]; exact c1.frame (fun x x1 x2 => fr x (by omega) (by omega))
    · rw [et.2.1, et.2.2]; exact c2.frame (fun x x1 x2 => fr x (by omega) (by omega))
    · unfold RG; rw [et.1, et.2.1, et.2.2, ht]; exact c3
  refine ⟨by rw [e18]; exact a1, by rw [e18]; exact a2, by rw [e18, hwl, e109]; exact a3, ?_⟩
  intro k hk
  rw [e18, hwl, e109] at hk
  rw [e18, hwl]
  have := a4 k hk
  exact ⟨rule _ (by omega) this.1, rule _ (by omega) this.2⟩
theorem RUb.rule {s n k r c l : Nat} {σ : Sg} (h : RUb s σ r c l) (hr : r / 12 = s) (hl : l ≤ 150 * s + 133) (hs : s ≤ 1) : RULE σ r := by
  obtain ⟨h1, h2, h3⟩ := h
  unfold RULE
  rw [hr]
  exact ⟨by omega, by omega, fun t t1 t2 => (h3 t t1 t2).1, h1, by omega⟩
theorem read_166 {N l s n c lt : Nat} {σ0 σ2 σ : Sg} (h : GI N σ0) (hl : (σ0.1 97 18).toInt = (l : Int)) (hsl : s + l = 1) (g : Gl mdRead σ0 σ) (lv : LVs s σ0 σ) (hT : TM s n c lt σ2 σ) (h2 : (σ.1 97 2).toInt = 0) : Rn PRG (8 + 1) 204 166 [(0, .ref 97)] [] σ (fun v σ' => ∃ w : Int32, v = some (.int w) ∧ (∃ N', GI N' σ') ∧ (σ'.1 97 2).toInt = 0) := by
  obtain ⟨ht0, hI0, hP0, hT0, hS0, hH0⟩ := h
  obtain ⟨-, st, -, hs19, hp, ⟨n1, n2, n3, n4⟩, pk⟩ := hT
  have hF := st.1
  have lim := hp.lim g.1
  have hs : s ≤ 1 := by omega
  have e18 : σ.1 97 18 = σ0.1 97 18 := g.get (q := 97) (κ := 12) rfl rfl
  have hll : (σ0.1 97 18).toNatClampNeg = l := cn_of hl
  have bad : ∀ x y : Int32, ∃ w : Int32, some (Value.int y) = some (.int w) ∧ (∃ N', GI N' (s1 σ 97 17 x)) ∧ ((s1 σ 97 17 x).1 97 2).toInt = 0 := by
    intro x y
    have k1 : Gl mdRead σ0 (s1 σ 97 17 x) := wrG (κ := 12) (a := 17) (b := 17) (vl := FL) (vh := FH) rfl rfl g rfl (Nat.le_refl _) (Nat.le_refl _) (w_lo _) (w_hi _)
    have f : ∀ q k, ¬ (q = 97 ∧ k = 17) → (s1 σ 97 17 x).1 q k = σ.1 q k := fun q k hk => s1_off hk
    generalize s1 σ 97 17 x = σ3 at k1 f ⊢
    have e18' : σ3.1 97 18 = σ0.1 97 18 := by rw [f 97 18 (by omega)]; exact e18
    have lv3 : LVs s σ0 σ3 := lv.trans ⟨fun j _ => ⟨f 120 j (by omega), f 121 j (by omega)⟩, fun j _ => ⟨f 117 j (by omega), f 118 j (by omega), f 119 j (by omega)⟩, fun r _ => ⟨f 112 r (by omega), f 113 r (by omega)⟩, fun k _ => ⟨f 106 k (by omega), f 107 k (by omega), f 109 k (by omega)⟩⟩
    have hP3 : pack N σ3 := pack_of e18' (by rw [hll]; exact (lv3.2.2.2 l (by omega)).1) (by rw [hll]; exact (lv3.2.2.2 l (by omega)).2.1) hP0
    have hI3 : I2 σ3 := ⟨⟨by rw [e18', hl]; omega, by rw [e18', hl]; omega, N, hP3⟩, WFi_side hI0.2 hl hsl e18' lv3⟩
    have e45 : σ3.1 97 45 = σ0.1 97 45 := k1.get (q := 97) (κ := 12) rfl rfl
    have e48 : σ3.1 97 48 = σ0.1 97 48 := k1.get (q := 97) (κ := 12) rfl rfl
    have hN := hP0.le
    refine ⟨y, rfl, ⟨N, k1.1, hI3, hP3, hT0.keep k1 rfl, ⟨by rw [e45, e48]; exact hS0.1, fun h0 => ?_⟩, hH0.keep hN.2 k1 rfl⟩, by rw [f 97 2 (by omega)]; exact h2⟩
    rw [e45] at h0
    rw [e48]
    exact (hS0.2 h0).congr (fun p _ => k1.get (q := 125) (κ := 81) rfl rfl) (fun k _ => k1.get (q := 126) (κ := 82) rfl rfl) (fun k _ => k1.get (q := 127) (κ := 83) rfl rfl)
  have good : (σ.1 97 13) ≤ 0 → (σ.1 97 15) ≤ 0 → ∀ x : Int32, ∃ w : Int32, some (Value.int (0 : Int32)) = some (.int w) ∧ (∃ N', GI N' (s1 (s1 (s1 (s1 (s1 (s1 (s1 σ 97 17 x) 97 18 (σ.1 97 19)) 97 45 (0 : Int32)) 97 48 (0 : Int32)) 97 86 (0 : Int32)) 152 0 (vp_nar .boolean (0 : Int32))) 152 1 (vp_nar .boolean (0 : Int32)))) ∧ ((s1 (s1 (s1 (s1 (s1 (s1 (s1 σ 97 17 x) 97 18 (σ.1 97 19)) 97 45 (0 : Int32)) 97 48 (0 : Int32)) 97 86 (0 : Int32)) 152 0 (vp_nar .boolean (0 : Int32))) 152 1 (vp_nar .boolean (0 : Int32))).1 97 2).toInt = 0 := by
    intro c13 c15 x
    rw [le0_i] at c13 c15
    have hF0 : (σ.1 97 13).toInt = 0 := by have := hF.1; omega
    have hw0 : (σ.1 97 15).toInt = 0 := by have := hF.2.2; omega
    obtain ⟨N', p0, p1, p2, p3, p4, p5⟩ := pk hF0 hw0
    have z0 : (vp_nar .boolean (0 : Int32)).toInt = 0 := by decide
    have k1 : Gl [(12, 17, 18), (12, 45, 45), (12, 48, 48), (12, 86, 86), (108, 0, 1)] σ (s1 σ 97 17 x) := wrG (κ := 12) (a := 17) (b := 17) (vl := FL) (vh := FH) rfl rfl (Gl.refl g.1) rfl (Nat.le_refl _) (Nat.le_refl _) (w_lo _) (w_hi _)
    have k2 := wrG (x := σ.1 97 19) (q := 97) (k := 18) (κ := 12) (a := 18) (b := 18) (vl := 0) (vh := 1) rfl rfl k1 rfl (Nat.le_refl _) (Nat.le_refl _) (by omega) (by omega)
    have k3 := wrG (x := (0 : Int32)) (q := 97) (k := 45) (κ := 12) (a := 45) (b := 45) (vl := 0) (vh := 1) rfl rfl k2 rfl (Nat.le_refl _) (Nat.le_refl _) (by decide) (by decide)
    have k4 := wrG (x := (0 : Int32)) (q := 97) (k := 48) (κ := 12) (a := 48) (b := 48) (vl := 0) (vh := 16) rfl rfl k3 rfl (Nat.le_refl _) (Nat.le_refl _) (by decide) (by decide)
    have k5 := wrG (x := (0 : Int32)) (q := 97) (k := 86) (κ := 12) (a := 86) (b := 86) (vl := 0) (vh := 8) rfl rfl k4 rfl (Nat.le_refl _) (Nat.le_refl _) (by decide) (by decide)
    have k6 := wrG (x := vp_nar .boolean (0 : Int32)) (q := 152) (k := 0) (κ := 108) (a := 0) (b := 1) (vl := 0) (vh := 1) rfl rfl k5 rfl (Nat.le_refl _) (by omega) (by decide) (by decide)
    have k7 := wrG (x := vp_nar .boolean (0 : Int32)) (q := 152) (k := 1) (κ := 108) (a := 0) (b := 1) (vl := 0) (vh := 1) rfl rfl k6 rfl (by omega) (Nat.le_refl _) (by decide) (by decide)
    have f18 : (s1 (s1 (s1 (s1 (s1 (s1 (s1 σ 97 17 x) 97 18 (σ.1 97 19)) 97 45 (0 : Int32)) 97 48 (0 : Int32)) 97 86 (0 : Int32)) 152 0 (vp_nar .boolean (0 : Int32))) 152 1 (vp_nar .boolean (0 : Int32))).1 97 18 = σ.1 97 19 := by rw [s1_off (by omega), s1_off (by omega), s1_off (by omega), s1_off (by omega), s1_off (by omega), s1_on]
    have f45 : (s1 (s1 (s1 (s1 (s1 (s1 (s1 σ 97 17 x) 97 18 (σ.1 97 19)) 97 45 (0 : Int32)) 97 48 (0 : Int32)) 97 86 (0 : Int32)) 152 0 (vp_nar .boolean (0 : Int32))) 152 1 (vp_nar .boolean (0 : Int32))).1 97 45 = 0 := by rw [s1_off (by omega), s1_off (by omega), s1_off (by omega), s1_off (by omega), s1_on]
    have f48 : (s1 (s1 (s1 (s1 (s1 (s1 (s1 σ 97 17 x) 97 18 (σ.1 97 19)) 97 45 (0 : Int32)) 97 48 (0 : Int32)) 97 86 (0 : Int32)) 152 0 (vp_nar .boolean (0 : Int32))) 152 1 (vp_nar .boolean (0 : Int32))).1 97 48 = 0 := by rw [s1_off (by omega), s1_off (by omega), s1_off (by omega), s1_on]
    have f152a : (s1 (s1 (s1 (s1 (s1 (s1 (s1 σ 97 17 x) 97 18 (σ.1 97 19)) 97 45 (0 : Int32)) 97 48 (0 : Int32)) 97 86 (0 : Int32)) 152 0 (vp_nar .boolean (0 : Int32))) 152 1 (vp_nar .boolean (0 : Int32))).1 152 0 = vp_nar .boolean (0 : Int32) := by rw [s1_off (by omega), s1_on]
    have f152b : (s1 (s1 (s1 (s1 (s1 (s1 (s1 σ 97 17 x) 97 18 (σ.1 97 19)) 97 45 (0 : Int32)) 97 48 (0 : Int32)) 97 86 (0 : Int32)) 152 0 (vp_nar .boolean (0 : Int32))) 152 1 (vp_nar .boolean (0 : Int32))).1 152 1 = vp_nar .boolean (0 : Int32) := s1_on
    clear k1 k2 k3 k4 k5 k6
    generalize s1 (s1 (s1 (s1 (s1 (s1 (s1 σ 97 17 x) 97 18 (σ.1 97 19)) 97 45 (0 : Int32)) 97 48 (0 : Int32)) 97 86 (0 : Int32)) 152 0 (vp_nar .boolean (0 : Int32))) 152 1 (vp_nar .boolean (0 : Int32)) = σ3 at k7 f18 f45 f48 f152a f152b ⊢
    have h18 : (σ3.1 97 18).toInt = (s : Int) := by rw [f18]; exact hs19
    have c18 : (σ3.1 97 18).toNatClampNeg = s := cn_of h18
    have w18 : wn (σ3.1 97 18) = s := c18
    have e106 : ∀ k, σ3.1 106 k = σ.1 106 k := fun k => k7.get (q := 106) (κ := 62) rfl rfl
    have e107 : ∀ k, σ3.1 107 k = σ.1 107 k := fun k => k7.get (q := 107) (κ := 63) rfl rfl
    have e109 : ∀ k, σ3.1 109 k = σ.1 109 k := fun k => k7.get (q := 109) (κ := 65) rfl rfl
    have hP3 : pack N' σ3 := by
      unfold pack
      rw [c18, e106, e107]
      exact ⟨p0, p1, p2, p3, p4, p5⟩
    have fr : FR2 s c lt σ σ3 := ⟨fun j _ => ⟨k7.get (q := 120) (κ := 76) rfl rfl, k7.get (q := 121) (κ := 77) rfl rfl⟩, fun j _ => ⟨k7.get (q := 117) (κ := 73) rfl rfl, k7.get (q := 118) (κ := 74) rfl rfl, k7.get (q := 119) (κ := 75) rfl rfl⟩⟩
    have hW3 : WFi σ3 := by
      refine ⟨by rw [h18]; omega, by rw [h18]; omega, by rw [w18, e109, n1]; omega, fun k hk => ?_⟩
      rw [w18, e109, n1] at hk
      rw [w18]
      have ru : ∀ r, (r = 12 * s + 2 * k ∨ r = 12 * s + 2 * k + 1) → RULE σ3 r := fun r hr => ((n4 k r (by omega) hr).frame (Nat.le_refl _) (Nat.le_refl _) (k7.get (q := 112) (κ := 68) rfl rfl) (k7.get (q := 113) (κ := 69) rfl rfl) fr).rule (n := n) (k := k) (by omega) lim.2 hs
      exact ⟨ru _ (Or.inl rfl), ru _ (Or.inr rfl)⟩
    have g3 := g.1
    refine ⟨0, rfl, ⟨N', k7.1, ⟨⟨by rw [h18]; omega, by rw [h18]; omega, N', hP3⟩, hW3⟩, hP3, (hT0.keep g rfl).keep k7 rfl, ⟨fun _ => by rw [f48]; decide, fun h0 => absurd f45 h0⟩, fun t ht h0 => ?_⟩, by rw [k7.get (q := 97) (κ := 12) rfl rfl]; exact h2⟩
    have : t = 0 ∨ t = 1 := by omega
    rcases this with rfl | rfl
    · exact absurd (Int32.toInt_inj.mp (by rw [f152a, z0]; rfl)) h0
    · exact absurd (Int32.toInt_inj.mp (by rw [f152b, z0]; rfl)) h0
  exact w_204_166 σ ⟨fun c13 => ⟨fun c15 => ⟨fun _ => ⟨fun _ => good c13 c15 _, fun _ => bad _ _⟩, fun _ => bad _ _⟩, fun _ => ⟨fun _ => ⟨fun c15 => good c13 c15 _, fun _ => bad _ _⟩, fun _ => bad _ _⟩⟩, fun _ => ⟨fun c13 => ⟨fun c15 => good c13 c15 _, fun _ => bad _ _⟩, fun _ => bad _ _⟩⟩
theorem read_144 {N l s : Nat} {σ0 σ2 : Sg} (h : GI N σ0) (hl : (σ0.1 97 18).toInt = (l : Int)) (hsl : s + l = 1) (g2 : Gl mdRead σ0 σ2) (lv2 : LVs s σ0 σ2) (h2 : (σ2.1 97 2).toInt = 0) : ∀ (M n c lt : Nat) (σ : Sg), muT σ ≤ M → TM s n c lt σ2 σ → Rn PRG (8 + 1) 204 144 [(0, .ref 97)] [] σ (fun v σ' => ∃ w : Int32, v = some (.int w) ∧ (∃ N', GI N' σ') ∧ (σ'.1 97 2).toInt = 0) := by
  have fin : ∀ (n c lt : Nat) (σ : Sg), TM s n c lt σ2 σ → Rn PRG (8 + 1) 204 166 [(0, .ref 97)] [] σ (fun v σ' => ∃ w : Int32, v = some (.int w) ∧ (∃ N', GI N' σ') ∧ (σ'.1 97 2).toInt = 0) := by
    intro n c lt σ hT
    exact read_166 h hl hsl (g2.trans hT.1 rfl) (lv2.trans hT.2.2.1) hT (by rw [hT.1.get (q := 97) (κ := 12) rfl rfl]; exact h2)
  intro M
  induction M with
  | zero =>
    intro n c lt σ hM hT
    refine w_204_144 σ ⟨fun c0 => ?_, fun _ => fin n c lt σ hT⟩
    have := t_rg hT.1.1
    unfold muT at hM
    rw [if_pos (zq_i.mp c0)] at hM
    omega
  | succ M ih =>
    intro n c lt σ hM hT
    refine w_204_144 σ ⟨fun c0 => ⟨_, is_OK hT.1.1, fun w2 σ1 hq => ?_⟩, fun _ => fin n c lt σ hT⟩
    rw [hq.1]
    refine ⟨fun _ => ⟨_, tell_OK (by omega) hT (zq_i.mp c0), fun σ3 hq => ?_⟩, fun _ => fin n c lt σ hT⟩
    obtain ⟨⟨n', c', l', hT'⟩, hlt⟩ := hq
    exact ih n' c' l' σ3 (by omega) hT'
theorem read_10 {N : Nat} {σ0 : Sg} (h : GI N σ0) : ∀ (m k : Nat) (x1 : Int32) (σ : Sg), (σ.1 97 4).toInt ≤ (k : Int) + (m : Int) → x1.toInt = (k : Int) → k ≤ 2000 → Gl [(12, 2, 2), (12, 4, 4), (55, 0, 1999)] σ0 σ → Rn PRG (8 + 1) 204 10 [(0, .ref 97), (1, .int x1)] [] σ (fun v σ' => ∃ w : Int32, v = some (.int w) ∧ (∃ N', GI N' σ') ∧ (σ'.1 97 2).toInt = 0) := by
  have go : ∀ σ : Sg, Gl [(12, 2, 2), (12, 4, 4), (55, 0, 1999)] σ0 σ → ∃ Qc : Sg → Prop, OkV PRG 8 188 [.ref 97] (s1 σ 97 2 (0 : Int32)) Qc ∧ ∀ σ1, Qc σ1 → (inR ((1 : Int32) - (σ1.1 97 18)) 2 = true ∧ (inR ((1 : Int32) - (σ1.1 97 18)) 2 = true ∧ (inR ((1 : Int32) - (σ1.1 97 18)) 2 = true ∧ (inR ((1 : Int32) - (σ1.1 97 18)) 2 = true ∧ Rn PRG (8 + 1) 204 144 [(0, .ref 97)] [] (s1 (s1 (s1 (s1 (s1 (s1 (s1 (s1 (s1 (s1 (s1 (s1 σ1 97 11 (0 : Int32)) 97 12 (0 : Int32)) 97 13 (0 : Int32)) 97 15 (0 : Int32)) 97 19 ((1 : Int32) - (σ1.1 97 18))) 97 20 (0 : Int32)) 106 ((1 : Int32) - (σ1.1 97 18)).toNatClampNeg (4 : Int32)) 107 ((1 : Int32) - (σ1.1 97 18)).toNatClampNeg (4 : Int32)) 108 ((1 : Int32) - (σ1.1 97 18)).toNatClampNeg (-1 : Int32)) 109 ((1 : Int32) - (σ1.1 97 18)).toNatClampNeg (0 : Int32)) 97 30 ((150 : Int32) * ((1 : Int32) - (σ1.1 97 18)))) 97 37 ((420 : Int32) * ((1 : Int32) - (σ1.1 97 18)))) (fun v σ' => ∃ w : Int32, v = some (.int w) ∧ (∃ N', GI N' σ') ∧ (σ'.1 97 2).toInt = 0))))) := by
    intro σ hG
    have ka : Gl [(12, 2, 2), (12, 4, 4), (55, 0, 1999)] σ0 (s1 σ 97 2 (0 : Int32)) := wrG (κ := 12) (a := 2) (b := 2) (vl := 0) (vh := 2000) rfl rfl hG rfl (Nat.le_refl _) (Nat.le_refl _) (by decide) (by decide)
    have f2 : ((s1 σ 97 2 (0 : Int32)).1 97 2).toInt = 0 := by rw [s1_on]; decide
    generalize s1 σ 97 2 (0 : Int32) = σa at ka f2 ⊢
    refine ⟨_, cut_OK (d := 6) ka.1, fun σ1 hq => ?_⟩
    have kb : Gl mdRead σ0 σ1 := (ka.mono rfl : Gl mdRead σ0 σa).trans hq rfl
    have b2 : (σ1.1 97 2).toInt = 0 := by rw [hq.get (q := 97) (κ := 12) rfl rfl]; exact f2
    have e18 : σ1.1 97 18 = σ0.1 97 18 := kb.get (q := 97) (κ := 12) rfl rfl
    have hl := live_wn h.1
    have one : (1 : Int32).toInt = 1 := by decide
    generalize hlw : wn (σ0.1 97 18) = l at hl
    have es : ((1 : Int32) - (σ1.1 97 18)).toInt = ((1 - l : Nat) : Int) := by
      rw [e18, sub_ex (by rw [one, hl.1]; unfold FL; omega) (by rw [one, hl.1]; unfold FH; omega), one, hl.1]; omega
    have hin : inR ((1 : Int32) - (σ1.1 97 18)) 2 = true := inR_ok (by rw [es]; omega) (by rw [es]; omega)
    refine ⟨hin, hin, hin, hin, ?_⟩
    rw [cn_of es]
    generalize hsd : (1 : Int32) - (σ1.1 97 18) = sd at es
    have e150 : ((150 : Int32) * sd).toInt = ((150 * (1 - l) : Nat) : Int) := by
      rw [mul_lit (k := 150) (by decide) (by unfold FL; omega) (by unfold FH; omega), es]; push_cast; rfl
    have e420 : ((420 : Int32) * sd).toInt = ((420 * (1 - l) : Nat) : Int) := by
      rw [mul_lit (k := 420) (by decide) (by unfold FL; omega) (by unfold FH; omega), es]; omega
    generalize hs : 1 - l = s at es e150 e420
    have hs1 : s ≤ 1 := by omega
    have hsl : s + l = 1 := by omega
    have m1 : Gl mdRead σ1 (s1 σ1 97 11 (0 : Int32)) := wrG (κ := 12) (a := 11) (b := 11) (vl := 0) (vh := 400) rfl rfl (Gl.refl hq.1) rfl (Nat.le_refl _) (Nat.le_refl _) (by decide) (by decide)
    have m2 := wrG (x := (0 : Int32)) (q := 97) (k := 12) (κ := 12) (a := 12) (b := 12) (vl := FL) (vh := FH) rfl rfl m1 rfl (Nat.le_refl _) (Nat.le_refl _) (w_lo _) (w_hi _)
    have m3 := wrG (x := (0 : Int32)) (q := 97) (k := 13) (κ := 12) (a := 13) (b := 13) (vl := FL) (vh := FH) rfl rfl m2 rfl (Nat.le_refl _) (Nat.le_refl _) (w_lo _) (w_hi _)
    have m4 := wrG (x := (0 : Int32)) (q := 97) (k := 15) (κ := 12) (a := 15) (b := 15) (vl := FL) (vh := FH) rfl rfl m3 rfl (Nat.le_refl _) (Nat.le_refl _) (w_lo _) (w_hi _)
    have m5 := wrG (x := sd) (q := 97) (k := 19) (κ := 12) (a := 19) (b := 19) (vl := 0) (vh := 1) rfl rfl m4 rfl (Nat.le_refl _) (Nat.le_refl _) (by omega) (by omega)
    have m6 := wrG (x := (0 : Int32)) (q := 97) (k := 20) (κ := 12) (a := 20) (b := 20) (vl := 0) (vh := 6) rfl rfl m5 rfl (Nat.le_refl _) (Nat.le_refl _) (by decide) (by decide)
    have m7 := wrG (x := (4 : Int32)) (q := 106) (k := s) (κ := 62) (a := 0) (b := 1) (vl := FL) (vh := FH) rfl rfl m6 rfl (Nat.zero_le _) hs1 (w_lo _) (w_hi _)
    have m8 := wrG (x := (4 : Int32)) (q := 107) (k := s) (κ := 63) (a := 0) (b := 1) (vl := FL) (vh := FH) rfl rfl m7 rfl (Nat.zero_le _) hs1 (w_lo _) (w_hi _)
    have m9 := wrG (x := (-1 : Int32)) (q := 108) (k := s) (κ := 64) (a := 0) (b := 1) (vl := FL) (vh := FH) rfl rfl m8 rfl (Nat.zero_le _) hs1 (w_lo _) (w_hi _)
    have m10 := wrG (x := (0 : Int32)) (q := 109) (k := s) (κ := 65) (a := 0) (b := 1) (vl := 0) (vh := 6) rfl rfl m9 rfl (Nat.zero_le _) hs1 (by decide) (by decide)
    have m11 := wrG (x := (150 : Int32) * sd) (q := 97) (k := 30) (κ := 12) (a := 30) (b := 30) (vl := FL) (vh := FH) rfl rfl m10 rfl (Nat.le_refl _) (Nat.le_refl _) (w_lo _) (w_hi _)
    have m12 := wrG (x := (420 : Int32) * sd) (q := 97) (k := 37) (κ := 12) (a := 37) (b := 37) (vl := FL) (vh := FH) rfl rfl m11 rfl (Nat.le_refl _) (Nat.le_refl _) (w_lo _) (w_hi _)
    clear m1 m2 m3 m4 m5 m6 m7 m8 m9 m10 m11
    generalize hσ2 : s1 (s1 (s1 (s1 (s1 (s1 (s1 (s1 (s1 (s1 (s1 (s1 σ1 97 11 (0 : Int32)) 97 12 (0 : Int32)) 97 13 (0 : Int32)) 97 15 (0 : Int32)) 97 19 sd) 97 20 (0 : Int32)) 106 s (4 : Int32)) 107 s (4 : Int32)) 108 s (-1 : Int32)) 109 s (0 : Int32)) 97 30 ((150 : Int32) * sd)) 97 37 ((420 : Int32) * sd) = σ2 at m12 ⊢
    have f37 : (σ2.1 97 37).toInt = ((420 * s : Nat) : Int) := by rw [← hσ2, s1_on]; exact e420
    have f30 : (σ2.1 97 30).toInt = ((150 * s : Nat) : Int) := by rw [← hσ2, s1_off (by omega), s1_on]; exact e150
    have f109 : σ2.1 109 s = 0 := by rw [← hσ2, s1_off (by omega), s1_off (by omega), s1_on]
    have f107 : σ2.1 107 s = 4 := by rw [← hσ2, s1_off (by omega), s1_off (by omega), s1_off (by omega), s1_off (by omega), s1_on]
    have f106 : σ2.1 106 s = 4 := by rw [← hσ2, s1_off (by omega), s1_off (by omega), s1_off (by omega), s1_off (by omega), s1_off (by omega), s1_on]
    have f20 : σ2.1 97 20 = 0 := by rw [← hσ2, s1_off (by omega), s1_off (by omega), s1_off (by omega), s1_off (by omega), s1_off (by omega), s1_off (by omega), s1_on]
    have f19 : σ2.1 97 19 = sd := by rw [← hσ2, s1_off (by omega), s1_off (by omega), s1_off (by omega), s1_off (by omega), s1_off (by omega), s1_off (by omega), s1_off (by omega), s1_on]
    have f15 : σ2.1 97 15 = 0 := by rw [← hσ2, s1_off (by omega), s1_off (by omega), s1_off (by omega), s1_off (by omega), s1_off (by omega), s1_off (by omega), s1_off (by omega), s1_off (by omega), s1_on]
    have f13 : σ2.1 97 13 = 0 := by rw [← hσ2, s1_off (by omega), s1_off (by omega), s1_off (by omega), s1_off (by omega), s1_off (by omega), s1_off (by omega), s1_off (by omega), s1_off (by omega), s1_off (by omega), s1_on]
    have f12 : σ2.1 97 12 = 0 := by rw [← hσ2, s1_off (by omega), s1_off (by omega), s1_off (by omega), s1_off (by omega), s1_off (by omega), s1_off (by omega), s1_off (by omega), s1_off (by omega), s1_off (by omega), s1_off (by omega), s1_on]
    have f11 : σ2.1 97 11 = 0 := by rw [← hσ2, s1_off (by omega), s1_off (by omega), s1_off (by omega), s1_off (by omega), s1_off (by omega), s1_off (by omega), s1_off (by omega), s1_off (by omega), s1_off (by omega), s1_off (by omega), s1_off (by omega), s1_on]
    have fo : ∀ q k, (112 ≤ q ∧ q ≤ 121) → σ2.1 q k = σ1.1 q k := fun q k hq => by rw [← hσ2, s1_off (by omega), s1_off (by omega), s1_off (by omega), s1_off (by omega), s1_off (by omega), s1_off (by omega), s1_off (by omega), s1_off (by omega), s1_off (by omega), s1_off (by omega), s1_off (by omega), s1_off (by omega)]
    have fs : ∀ q k, ¬ k = s → (q = 106 ∨ q = 107 ∨ q = 109) → σ2.1 q k = σ1.1 q k := fun q k hk hq => by rw [← hσ2, s1_off (by omega), s1_off (by omega), s1_off (fun e => hk e.2), s1_off (fun e => hk e.2), s1_off (fun e => hk e.2), s1_off (fun e => hk e.2), s1_off (by omega), s1_off (by omega), s1_off (by omega), s1_off (by omega), s1_off (by omega), s1_off (by omega)]
    have z2 : (σ2.1 97 2).toInt = 0 := by rw [← hσ2, s1_off (by omega), s1_off (by omega), s1_off (by omega), s1_off (by omega), s1_off (by omega), s1_off (by omega), s1_off (by omega), s1_off (by omega), s1_off (by omega), s1_off (by omega), s1_off (by omega), s1_off (by omega)]; exact b2
    clear hσ2
    have g2 : Gl mdRead σ0 σ2 := kb.trans m12 rfl
    have ko : ∀ q k, (112 ≤ q ∧ q ≤ 121) ∨ q = 106 ∨ q = 107 ∨ q = 109 → σ1.1 q k = σ0.1 q k := by
      intro q k hq2
      have b0 : σ1.1 q k = σa.1 q k := by
        rcases hq2 with hq2 | rfl | rfl | rfl
        · have hr : q = 112 ∨ q = 113 ∨ q = 114 ∨ q = 115 ∨ q = 116 ∨ q = 117 ∨ q = 118 ∨ q = 119 ∨ q = 120 ∨ q = 121 := by omega
          rcases hr with rfl | rfl | rfl | rfl | rfl | rfl | rfl | rfl | rfl | rfl
          · exact hq.get (q := 112) (κ := 68) rfl rfl
          · exact hq.get (q := 113) (κ := 69) rfl rfl
          · exact hq.get (q := 114) (κ := 70) rfl rfl
          · exact hq.get (q := 115) (κ := 71) rfl rfl
          · exact hq.get (q := 116) (κ := 72) rfl rfl
          · exact hq.get (q := 117) (κ := 73) rfl rfl
          · exact hq.get (q := 118) (κ := 74) rfl rfl
          · exact hq.get (q := 119) (κ := 75) rfl rfl
          · exact hq.get (q := 120) (κ := 76) rfl rfl
          · exact hq.get (q := 121) (κ := 77) rfl rfl
        · exact hq.get (q := 106) (κ := 62) rfl rfl
        · exact hq.get (q := 107) (κ := 63) rfl rfl
        · exact hq.get (q := 109) (κ := 65) rfl rfl
      have b1 : σa.1 q k = σ0.1 q k := by
        rcases hq2 with hq2 | rfl | rfl | rfl
        · have hr : q = 112 ∨ q = 113 ∨ q = 114 ∨ q = 115 ∨ q = 116 ∨ q = 117 ∨ q = 118 ∨ q = 119 ∨ q = 120 ∨ q = 121 := by omega
          rcases hr with rfl | rfl | rfl | rfl | rfl | rfl | rfl | rfl | rfl | rfl
          · exact ka.get (q := 112) (κ := 68) rfl rfl
          · exact ka.get (q := 113) (κ := 69) rfl rfl
          · exact ka.get (q := 114) (κ := 70) rfl rfl
          · exact ka.get (q := 115) (κ := 71) rfl rfl
          · exact ka.get (q := 116) (κ := 72) rfl rfl
          · exact ka.get (q := 117) (κ := 73) rfl rfl
          · exact ka.get (q := 118) (κ := 74) rfl rfl
          · exact ka.get (q := 119) (κ := 75) rfl rfl
          · exact ka.get (q := 120) (κ := 76) rfl rfl
          · exact ka.get (q := 121) (κ := 77) rfl rfl
        · exact ka.get (q := 106) (κ := 62) rfl rfl
        · exact ka.get (q := 107) (κ := 63) rfl rfl
        · exact ka.get (q := 109) (κ := 65) rfl rfl
      exact b0.trans b1
    have co : ∀ q k, (112 ≤ q ∧ q ≤ 121) → σ2.1 q k = σ0.1 q k := fun q k hq => (fo q k hq).trans (ko q k (Or.inl hq))
    have cs : ∀ q k, ¬ k = s → (q = 106 ∨ q = 107 ∨ q = 109) → σ2.1 q k = σ0.1 q k := fun q k hk hq => (fs q k hk hq).trans (ko q k (Or.inr hq))
    have lv2 : LVs s σ0 σ2 := ⟨fun j _ => ⟨co 120 j (by omega), co 121 j (by omega)⟩, fun j _ => ⟨co 117 j (by omega), co 118 j (by omega), co 119 j (by omega)⟩, fun r _ => ⟨co 112 r (by omega), co 113 r (by omega)⟩, fun k hk => ⟨cs 106 k hk (by omega), cs 107 k hk (by omega), cs 109 k hk (by omega)⟩⟩
    have z0 : (0 : Int32).toInt = 0 := by decide
    have k4 : (4 : Int32).toInt = 4 := by decide
    have hFV : FV σ2 := ⟨by rw [f13]; decide, by rw [f13]; decide, by rw [f15]; decide⟩
    have hTM : TM s 0 (420 * s) (150 * s) σ2 σ2 := by
      refine ⟨Gl.refl g2.1, ST.refl hFV, LVs.refl, by rw [f19]; exact es, ⟨hFV, f37, Nat.le_refl _, by rw [f11, z0]; omega, fun _ => by rw [f11, z0]; omega, ⟨0, by rw [f12]; rfl, by omega, fun _ => by omega⟩, f30, Nat.le_refl _, by rw [f11, z0]; push_cast; omega⟩, ⟨by rw [f109]; rfl, by rw [f20]; rfl, by omega, fun k r hk => absurd hk (by omega)⟩, fun _ _ => ⟨16, by omega, ?_⟩⟩
      rw [f106, f107, k4]
      omega
    exact read_144 h hl.1 hsl g2 lv2 z2 (muT σ2) 0 _ _ σ2 (Nat.le_refl _) hTM
  intro m
  induction m with
  | zero =>
    intro k x1 σ hm h1 hk hG
    exact w_204_10 σ x1 ⟨fun _ => go σ hG, fun c => absurd (by rw [le_i rfl h1]; omega) c⟩
  | succ m ih =>
    intro k x1 σ hm h1 hk hG
    have hsz := size_rg hG.1
    refine w_204_10 σ x1 ⟨fun _ => go σ hG, fun c => ?_⟩
    rw [le_i rfl h1] at c
    have hx1 : (x1 + (1 : Int32)).toInt = ((k + 1 : Nat) : Int) := by
      rw [add_lit (k := 1) h1 (by decide) (by unfold FL; omega) (by unfold FH; omega)]; push_cast; rfl
    have hin : inR x1 2000 = true := inR_ok (by clear hx1; omega) (by clear hx1; omega)
    refine ⟨hin, hin, ?_⟩
    rw [cn_of h1]
    have g1 : Gl [(12, 2, 2), (12, 4, 4), (55, 0, 1999)] σ0 (s1 σ 99 k (vp_nar .byte (σ.1 98 k))) := wrG (κ := 55) (a := 0) (b := 1999) (vl := FL) (vh := FH) rfl rfl hG rfl (Nat.zero_le _) (by clear hx1; omega) (w_lo _) (w_hi _)
    exact ih (k + 1) _ _ (by rw [s1_off (by omega)]; push_cast; clear hx1; omega) hx1 (by clear hx1; omega) g1
theorem read_OK {N : Nat} {σ : Sg} (h : GI N σ) : OkI PRG 9 204 [.ref 97] σ (fun _ σ' => (∃ N', GI N' σ') ∧ (σ'.1 97 2).toInt = 0) := by
  have h2 := tyF h.1 (q := 97) (κ := 12) (k := 2) (lo := 0) (hi := 2000) rfl rfl
  have g : Gl [(12, 2, 2), (12, 4, 4), (55, 0, 1999)] σ (s1 σ 97 4 (σ.1 97 2)) := wrG (κ := 12) (a := 4) (b := 4) (vl := 0) (vh := 2000) rfl rfl (Gl.refl h.1) rfl (Nat.le_refl _) (Nat.le_refl _) h2.1 h2.2
  exact ⟨M_204, rfl, Nat.le_of_ble_eq_true rfl, w_204_0 σ (read_10 h 2000 0 0 _ (by rw [s1_on]; omega) rfl (by omega) g)⟩
