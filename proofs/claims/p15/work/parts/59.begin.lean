/-! beginDeals and what counts deals: what must hold -/
set_option maxRecDepth 100000 in
theorem w_257_0 {d : Nat} {Q : Option Value → Sg → Prop} (σ : Sg) (x1 x2 x3 : Int32) (h : (∃ Qc : Int32 → Sg → Prop, OkI PRG d 210 [.ref 97] (s1 (s1 (s1 σ 97 53 x1) 97 54 x2) 97 55 x3) Qc ∧ ∀ w2 σ1, Qc w2 σ1 → (inR x1 4 = true ∧ Rn PRG (d + 1) 257 39 [(0, .ref 97), (1, .int x1), (2, .int x2), (3, .int x3), (4, .int (0 : Int32))] [] (s1 σ1 97 59 ((((1 : Int32) <<< (w2 &&& 31)) - (1 : Int32)) &&& ((σ1.1 129 x1.toNatClampNeg) ^^^ (-1 : Int32)))) Q))) : Rn PRG (d + 1) 257 0 [(0, .ref 97), (1, .int x1), (2, .int x2), (3, .int x3)] [] σ Q := by
  have hM : PRG[257]? = some M_257 := rfl
  refine Rn.seg (pc' := 18) (ls' := [(0, .ref 97), (1, .int x1), (2, .int x2), (3, .int x3)]) (st' := [.ref 97, .int (1 : Int32), .ref 97]) (σ' := (s1 (s1 (s1 σ 97 53 x1) 97 54 x2) 97 55 x3)) hM 12 rfl ?_
  obtain ⟨Qc, hq, h⟩ := h
  refine Rn.cI hM rfl rfl (by decide) hq (fun w2 σ1 hw => ?_)
  replace h := h w2 σ1 hw
  refine Rn.seg (pc' := 29) (ls' := [(0, .ref 97), (1, .int x1), (2, .int x2), (3, .int x3)]) (st' := [.int x1, .ref 129, .int (((1 : Int32) <<< (w2 &&& 31)) - (1 : Int32)), .ref 97]) (σ' := σ1) hM 6 rfl ?_
  refine Rn.iald hM rfl rfl h.1 ?_
  refine Rn.seg (pc' := 39) (ls' := [(4, .int (0 : Int32)), (0, .ref 97), (1, .int x1), (2, .int x2), (3, .int x3)]) (st' := []) (σ' := (s1 σ1 97 59 ((((1 : Int32) <<< (w2 &&& 31)) - (1 : Int32)) &&& ((σ1.1 129 x1.toNatClampNeg) ^^^ (-1 : Int32))))) hM 6 rfl ?_
  exact Rn.sub h.2 (subL_cons rfl (subL_cons rfl (subL_cons rfl (subL_cons rfl (subL_cons rfl subL_nil))))) (show ndL _ from (by decide : List.Nodup ([0, 1, 2, 3, 4] : List Nat)))
set_option maxRecDepth 100000 in
theorem w_257_39 {d : Nat} {Q : Option Value → Sg → Prop} (σ : Sg) (x1 x2 x3 x4 : Int32) (h : (((3 : Int32) ≤ x4 → Rn PRG (d + 1) 257 128 [(0, .ref 97), (1, .int x1), (2, .int x2), (3, .int x3), (4, .int (0 : Int32))] [] σ Q) ∧ (¬ (3 : Int32) ≤ x4 → (inR x4 3 = true ∧ (inR x4 3 = true ∧ (∃ Qc : Int32 → Sg → Prop, OkI PRG d 225 [.ref 97, .int ((s1 σ 130 x4.toNatClampNeg (((x1 + (1 : Int32)) + x4) - ((x1 + (1 : Int32)) + x4) / (4 : Int32) * (4 : Int32))).1 130 x4.toNatClampNeg), .int x2] (s1 σ 130 x4.toNatClampNeg (((x1 + (1 : Int32)) + x4) - ((x1 + (1 : Int32)) + x4) / (4 : Int32) * (4 : Int32))) Qc ∧ ∀ w2 σ1, Qc w2 σ1 → (inR x4 3 = true ∧ (∃ Qc : Int32 → Sg → Prop, OkI PRG d 211 [.ref 97] (s1 σ1 131 x4.toNatClampNeg w2) Qc ∧ ∀ w4 σ3, Qc w4 σ3 → (inR x4 3 = true ∧ (∃ Qc : Int32 → Sg → Prop, OkI PRG d 209 [.int (σ3.1 131 x4.toNatClampNeg)] σ3 Qc ∧ ∀ w6 σ5, Qc w6 σ5 → (inR x4 3 = true ∧ (inR x4 3 = true ∧ Rn PRG (d + 1) 257 39 [(0, .ref 97), (1, .int x1), (2, .int x2), (3, .int x3), (4, .int (x4 + (1 : Int32)))] [] (s1 (s1 σ5 132 x4.toNatClampNeg (w4 - w6)) 97 59 ((σ5.1 97 59) &&& ((σ5.1 131 x4.toNatClampNeg) ^^^ (-1 : Int32)))) Q)))))))))))) : Rn PRG (d + 1) 257 39 [(0, .ref 97), (1, .int x1), (2, .int x2), (3, .int x3), (4, .int x4)] [] σ Q := by
  have hM : PRG[257]? = some M_257 := rfl
  refine Rn.br (c := (3 : Int32) ≤ x4) (a := 125) (b := 45) (ls' := [(0, .ref 97), (1, .int x1), (2, .int x2), (3, .int x3), (4, .int x4)]) (st' := []) (σ' := σ) hM 3 rfl (fun c => ?_) (fun c => ?_)
  · replace h := h.1 c
    refine Rn.seg (pc' := 128) (ls' := [(4, .int (0 : Int32)), (0, .ref 97), (1, .int x1), (2, .int x2), (3, .int x3)]) (st' := []) (σ' := σ) hM 2 rfl ?_
    exact Rn.sub h (subL_cons rfl (subL_cons rfl (subL_cons rfl (subL_cons rfl (subL_cons rfl subL_nil))))) (show ndL _ from (by decide : List.Nodup ([0, 1, 2, 3, 4] : List Nat)))
  · replace h := h.2 c
    refine Rn.seg (pc' := 59) (ls' := [(0, .ref 97), (1, .int x1), (2, .int x2), (3, .int x3), (4, .int x4)]) (st' := [.int (((x1 + (1 : Int32)) + x4) - ((x1 + (1 : Int32)) + x4) / (4 : Int32) * (4 : Int32)), .int x4, .ref 130]) (σ' := σ) hM 10 rfl ?_
    refine Rn.iast hM rfl rfl h.1 ?_
    refine Rn.seg (pc' := 73) (ls' := [(0, .ref 97), (1, .int x1), (2, .int x2), (3, .int x3), (4, .int x4)]) (st' := [.int x4, .ref 130, .ref 97, .int x4, .ref 131]) (σ' := (s1 σ 130 x4.toNatClampNeg (((x1 + (1 : Int32)) + x4) - ((x1 + (1 : Int32)) + x4) / (4 : Int32) * (4 : Int32)))) hM 7 rfl ?_
    refine Rn.iald hM rfl rfl h.2.1 ?_
    refine Rn.seg (pc' := 75) (ls' := [(0, .ref 97), (1, .int x1), (2, .int x2), (3, .int x3), (4, .int x4)]) (st' := [.int x2, .int ((s1 σ 130 x4.toNatClampNeg (((x1 + (1 : Int32)) + x4) - ((x1 + (1 : Int32)) + x4) / (4 : Int32) * (4 : Int32))).1 130 x4.toNatClampNeg), .ref 97, .int x4, .ref 131]) (σ' := (s1 σ 130 x4.toNatClampNeg (((x1 + (1 : Int32)) + x4) - ((x1 + (1 : Int32)) + x4) / (4 : Int32) * (4 : Int32)))) hM 1 rfl ?_
    obtain ⟨Qc, hq, h⟩ := h.2.2
    refine Rn.cI hM rfl rfl (by decide) hq (fun w2 σ1 hw => ?_)
    replace h := h w2 σ1 hw
    refine Rn.seg (pc' := 78) (ls' := [(0, .ref 97), (1, .int x1), (2, .int x2), (3, .int x3), (4, .int x4)]) (st' := [.int w2, .int x4, .ref 131]) (σ' := σ1) hM 0 rfl ?_
    refine Rn.iast hM rfl rfl h.1 ?_
    refine Rn.seg (pc' := 86) (ls' := [(0, .ref 97), (1, .int x1), (2, .int x2), (3, .int x3), (4, .int x4)]) (st' := [.ref 97, .int x4, .ref 132]) (σ' := (s1 σ1 131 x4.toNatClampNeg w2)) hM 4 rfl ?_
    obtain ⟨Qc, hq, h⟩ := h.2
    refine Rn.cI hM rfl rfl (by decide) hq (fun w4 σ3 hw => ?_)
    replace h := h w4 σ3 hw
    refine Rn.seg (pc' := 95) (ls' := [(0, .ref 97), (1, .int x1), (2, .int x2), (3, .int x3), (4, .int x4)]) (st' := [.int x4, .ref 131, .int w4, .int x4, .ref 132]) (σ' := σ3) hM 3 rfl ?_
    refine Rn.iald hM rfl rfl h.1 ?_
    refine Rn.seg (pc' := 96) (ls' := [(0, .ref 97), (1, .int x1), (2, .int x2), (3, .int x3), (4, .int x4)]) (st' := [.int (σ3.1 131 x4.toNatClampNeg), .int w4, .int x4, .ref 132]) (σ' := σ3) hM 0 rfl ?_
    obtain ⟨Qc, hq, h⟩ := h.2
    refine Rn.cI hM rfl rfl (by decide) hq (fun w6 σ5 hw => ?_)
    replace h := h w6 σ5 hw
    refine Rn.seg (pc' := 100) (ls' := [(0, .ref 97), (1, .int x1), (2, .int x2), (3, .int x3), (4, .int x4)]) (st' := [.int (w4 - w6), .int x4, .ref 132]) (σ' := σ5) hM 1 rfl ?_
    refine Rn.iast hM rfl rfl h.1 ?_
    refine Rn.seg (pc' := 112) (ls' := [(0, .ref 97), (1, .int x1), (2, .int x2), (3, .int x3), (4, .int x4)]) (st' := [.int x4, .ref 131, .int (σ5.1 97 59), .ref 97]) (σ' := (s1 σ5 132 x4.toNatClampNeg (w4 - w6))) hM 6 rfl ?_
    refine Rn.iald hM rfl rfl h.2.1 ?_
    refine Rn.seg (pc' := 39) (ls' := [(4, .int (x4 + (1 : Int32))), (0, .ref 97), (1, .int x1), (2, .int x2), (3, .int x3)]) (st' := []) (σ' := (s1 (s1 σ5 132 x4.toNatClampNeg (w4 - w6)) 97 59 ((σ5.1 97 59) &&& ((σ5.1 131 x4.toNatClampNeg) ^^^ (-1 : Int32))))) hM 6 rfl ?_
    exact Rn.sub h.2.2 (subL_cons rfl (subL_cons rfl (subL_cons rfl (subL_cons rfl (subL_cons rfl subL_nil))))) (show ndL _ from (by decide : List.Nodup ([0, 1, 2, 3, 4] : List Nat)))
set_option maxRecDepth 100000 in
theorem w_257_128 {d : Nat} {Q : Option Value → Sg → Prop} (σ : Sg) (x1 x2 x3 x4 : Int32) (h : ((x2 ≤ x4 → Q none (s1 (s1 σ 97 60 (-1 : Int32)) 97 61 (0 : Int32))) ∧ (¬ x2 ≤ x4 → (inR x4 16 = true ∧ (((σ.1 127 x4.toNatClampNeg) = x1 → (inR x4 16 = true ∧ Rn PRG (d + 1) 257 128 [(0, .ref 97), (1, .int x1), (2, .int x2), (3, .int x3), (4, .int (x4 + (1 : Int32)))] [] (s1 σ 133 x4.toNatClampNeg (0 : Int32)) Q)) ∧ (¬ (σ.1 127 x4.toNatClampNeg) = x1 → (∃ Qc : Int32 → Sg → Prop, OkI PRG d 255 [.ref 97, .int x4, .int x3] σ Qc ∧ ∀ w2 σ1, Qc w2 σ1 → (inR x4 16 = true ∧ Rn PRG (d + 1) 257 128 [(0, .ref 97), (1, .int x1), (2, .int x2), (3, .int x3), (4, .int (x4 + (1 : Int32)))] [] (s1 σ1 133 x4.toNatClampNeg w2) Q)))))))) : Rn PRG (d + 1) 257 128 [(0, .ref 97), (1, .int x1), (2, .int x2), (3, .int x3), (4, .int x4)] [] σ Q := by
  have hM : PRG[257]? = some M_257 := rfl
  refine Rn.br (c := x2 ≤ x4) (a := 169) (b := 134) (ls' := [(0, .ref 97), (1, .int x1), (2, .int x2), (3, .int x3), (4, .int x4)]) (st' := []) (σ' := σ) hM 3 rfl (fun c => ?_) (fun c => ?_)
  · replace h := h.1 c
    refine Rn.seg (pc' := 179) (ls' := [(0, .ref 97), (1, .int x1), (2, .int x2), (3, .int x3), (4, .int x4)]) (st' := []) (σ' := (s1 (s1 σ 97 60 (-1 : Int32)) 97 61 (0 : Int32))) hM 6 rfl ?_
    exact Rn.ret hM rfl rfl h
  · replace h := h.2 c
    refine Rn.seg (pc' := 146) (ls' := [(0, .ref 97), (1, .int x1), (2, .int x2), (3, .int x3), (4, .int x4)]) (st' := [.int x4, .ref 127, .int x4, .ref 133]) (σ' := σ) hM 6 rfl ?_
    refine Rn.iald hM rfl rfl h.1 ?_
    refine Rn.brN (c := (σ.1 127 x4.toNatClampNeg) = x1) (a := 155) (b := 151) (ls' := [(0, .ref 97), (1, .int x1), (2, .int x2), (3, .int x3), (4, .int x4)]) (st' := [.int x4, .ref 133]) (σ' := σ) hM 2 rfl (fun c => ?_) (fun c => ?_)
    · replace h := h.2.2 c
      refine Rn.seg (pc' := 159) (ls' := [(0, .ref 97), (1, .int x1), (2, .int x2), (3, .int x3), (4, .int x4)]) (st' := [.int x3, .int x4, .ref 97, .int x4, .ref 133]) (σ' := σ) hM 3 rfl ?_
      obtain ⟨Qc, hq, h⟩ := h
      refine Rn.cI hM rfl rfl (by decide) hq (fun w2 σ1 hw => ?_)
      replace h := h w2 σ1 hw
      refine Rn.seg (pc' := 162) (ls' := [(0, .ref 97), (1, .int x1), (2, .int x2), (3, .int x3), (4, .int x4)]) (st' := [.int w2, .int x4, .ref 133]) (σ' := σ1) hM 0 rfl ?_
      refine Rn.iast hM rfl rfl h.1 ?_
      refine Rn.seg (pc' := 128) (ls' := [(4, .int (x4 + (1 : Int32))), (0, .ref 97), (1, .int x1), (2, .int x2), (3, .int x3)]) (st' := []) (σ' := (s1 σ1 133 x4.toNatClampNeg w2)) hM 2 rfl ?_
      exact Rn.sub h.2 (subL_cons rfl (subL_cons rfl (subL_cons rfl (subL_cons rfl (subL_cons rfl subL_nil))))) (show ndL _ from (by decide : List.Nodup ([0, 1, 2, 3, 4] : List Nat)))
    · replace h := h.2.1 c
      refine Rn.seg (pc' := 162) (ls' := [(0, .ref 97), (1, .int x1), (2, .int x2), (3, .int x3), (4, .int x4)]) (st' := [.int (0 : Int32), .int x4, .ref 133]) (σ' := σ) hM 2 rfl ?_
      refine Rn.iast hM rfl rfl h.1 ?_
      refine Rn.seg (pc' := 128) (ls' := [(4, .int (x4 + (1 : Int32))), (0, .ref 97), (1, .int x1), (2, .int x2), (3, .int x3)]) (st' := []) (σ' := (s1 σ 133 x4.toNatClampNeg (0 : Int32))) hM 2 rfl ?_
      exact Rn.sub h.2 (subL_cons rfl (subL_cons rfl (subL_cons rfl (subL_cons rfl (subL_cons rfl subL_nil))))) (show ndL _ from (by decide : List.Nodup ([0, 1, 2, 3, 4] : List Nat)))
set_option maxRecDepth 100000 in
theorem w_264_0 {d : Nat} {Q : Option Value → Sg → Prop} (σ : Sg) (x1 x2 x3 : Int32) (h : (inR x1 4 = true ∧ (inR x1 4 = true ∧ (∃ Qc : Sg → Prop, OkV PRG d 257 [.ref 97, .int x1, .int x2, .int x3] (s1 σ 129 x1.toNatClampNeg (σ.1 125 x1.toNatClampNeg)) Qc ∧ ∀ σ1, Qc σ1 → Rn PRG (d + 1) 264 22 [(0, .ref 97), (4, .int (0 : Int32))] [] σ1 Q)))) : Rn PRG (d + 1) 264 0 [(0, .ref 97), (1, .int x1), (2, .int x2), (3, .int x3)] [] σ Q := by
  have hM : PRG[264]? = some M_264 := rfl
  refine Rn.seg (pc' := 10) (ls' := [(0, .ref 97), (1, .int x1), (2, .int x2), (3, .int x3)]) (st' := [.int x1, .ref 125, .int x1, .ref 129]) (σ' := σ) hM 6 rfl ?_
  refine Rn.iald hM rfl rfl h.1 ?_
  refine Rn.seg (pc' := 11) (ls' := [(0, .ref 97), (1, .int x1), (2, .int x2), (3, .int x3)]) (st' := [.int (σ.1 125 x1.toNatClampNeg), .int x1, .ref 129]) (σ' := σ) hM 0 rfl ?_
  refine Rn.iast hM rfl rfl h.2.1 ?_
  refine Rn.seg (pc' := 16) (ls' := [(0, .ref 97), (1, .int x1), (2, .int x2), (3, .int x3)]) (st' := [.int x3, .int x2, .int x1, .ref 97]) (σ' := (s1 σ 129 x1.toNatClampNeg (σ.1 125 x1.toNatClampNeg))) hM 4 rfl ?_
  obtain ⟨Qc, hq, h⟩ := h.2.2
  refine Rn.cV hM rfl rfl (by decide) hq (fun σ1 hw => ?_)
  replace h := h σ1 hw
  refine Rn.seg (pc' := 22) (ls' := [(4, .int (0 : Int32)), (0, .ref 97), (1, .int x1), (2, .int x2), (3, .int x3)]) (st' := []) (σ' := σ1) hM 2 rfl ?_
  exact Rn.sub h (subL_cons rfl (subL_cons rfl subL_nil)) (show ndL _ from (by decide : List.Nodup ([0, 4] : List Nat)))
set_option maxRecDepth 100000 in
theorem w_264_22 {d : Nat} {Q : Option Value → Sg → Prop} (σ : Sg) (x4 : Int32) (h : (∃ Qc : Int32 → Sg → Prop, OkI PRG d 262 [.ref 97] σ Qc ∧ ∀ w2 σ1, Qc w2 σ1 → ((w2 = 0 → Q (some (.int x4)) σ1) ∧ (¬ w2 = 0 → Rn PRG (d + 1) 264 22 [(0, .ref 97), (4, .int (x4 + (1 : Int32)))] [] σ1 Q)))) : Rn PRG (d + 1) 264 22 [(0, .ref 97), (4, .int x4)] [] σ Q := by
  have hM : PRG[264]? = some M_264 := rfl
  refine Rn.seg (pc' := 23) (ls' := [(0, .ref 97), (4, .int x4)]) (st' := [.ref 97]) (σ' := σ) hM 1 rfl ?_
  obtain ⟨Qc, hq, h⟩ := h
  refine Rn.cI hM rfl rfl (by decide) hq (fun w2 σ1 hw => ?_)
  replace h := h w2 σ1 hw
  refine Rn.br (c := w2 = 0) (a := 35) (b := 29) (ls' := [(0, .ref 97), (4, .int x4)]) (st' := []) (σ' := σ1) hM 1 rfl (fun c => ?_) (fun c => ?_)
  · replace h := h.1 c
    refine Rn.seg (pc' := 37) (ls' := [(0, .ref 97), (4, .int x4)]) (st' := [.int x4]) (σ' := σ1) hM 1 rfl ?_
    exact Rn.ret hM rfl rfl h
  · replace h := h.2 c
    refine Rn.seg (pc' := 22) (ls' := [(4, .int (x4 + (1 : Int32))), (0, .ref 97)]) (st' := []) (σ' := σ1) hM 2 rfl ?_
    exact Rn.sub h (subL_cons rfl (subL_cons rfl subL_nil)) (show ndL _ from (by decide : List.Nodup ([0, 4] : List Nat)))
set_option maxRecDepth 100000 in
theorem w_265_0 {d : Nat} {Q : Option Value → Sg → Prop} (σ : Sg) (x1 x2 : Int32) (h : (∃ Qc : Int32 → Sg → Prop, OkI PRG d 263 [.ref 97, .int x1, .int x2] σ Qc ∧ ∀ w2 σ1, Qc w2 σ1 → ((w2 = 0 → Q (some (.int (-1 : Int32))) σ1) ∧ (¬ w2 = 0 → (∃ Qc : Int32 → Sg → Prop, OkI PRG d 264 [.ref 97, .int x1, .int (σ1.1 97 48), .int x2] σ1 Qc ∧ ∀ w4 σ3, Qc w4 σ3 → Q (some (.int w4)) σ3))))) : Rn PRG (d + 1) 265 0 [(0, .ref 97), (1, .int x1), (2, .int x2)] [] σ Q := by
  have hM : PRG[265]? = some M_265 := rfl
  refine Rn.seg (pc' := 3) (ls' := [(0, .ref 97), (1, .int x1), (2, .int x2)]) (st' := [.int x2, .int x1, .ref 97]) (σ' := σ) hM 3 rfl ?_
  obtain ⟨Qc, hq, h⟩ := h
  refine Rn.cI hM rfl rfl (by decide) hq (fun w2 σ1 hw => ?_)
  replace h := h w2 σ1 hw
  refine Rn.br (c := w2 = 0) (a := 22) (b := 9) (ls' := [(0, .ref 97), (1, .int x1), (2, .int x2)]) (st' := []) (σ' := σ1) hM 1 rfl (fun c => ?_) (fun c => ?_)
  · replace h := h.1 c
    refine Rn.seg (pc' := 23) (ls' := [(0, .ref 97), (1, .int x1), (2, .int x2)]) (st' := [.int (-1 : Int32)]) (σ' := σ1) hM 1 rfl ?_
    exact Rn.ret hM rfl rfl h
  · replace h := h.2 c
    refine Rn.seg (pc' := 16) (ls' := [(0, .ref 97), (1, .int x1), (2, .int x2)]) (st' := [.int x2, .int (σ1.1 97 48), .int x1, .ref 97]) (σ' := σ1) hM 5 rfl ?_
    obtain ⟨Qc, hq, h⟩ := h
    refine Rn.cI hM rfl rfl (by decide) hq (fun w4 σ3 hw => ?_)
    replace h := h w4 σ3 hw
    refine Rn.seg (pc' := 23) (ls' := [(0, .ref 97), (1, .int x1), (2, .int x2)]) (st' := [.int w4]) (σ' := σ3) hM 1 rfl ?_
    exact Rn.ret hM rfl rfl h
set_option maxRecDepth 100000 in
theorem w_266_0 {d : Nat} {Q : Option Value → Sg → Prop} (σ : Sg) (x1 x2 x3 : Int32) (h : (∃ Qc : Int32 → Sg → Prop, OkI PRG d 263 [.ref 97, .int x1, .int x3] σ Qc ∧ ∀ w2 σ1, Qc w2 σ1 → ((w2 = 0 → Q (some (.int (-1 : Int32))) σ1) ∧ (¬ w2 = 0 → (∃ Qc : Int32 → Sg → Prop, OkI PRG d 195 [.int x2, .int (0 : Int32), .int (σ1.1 97 48)] σ1 Qc ∧ ∀ w4 σ3, Qc w4 σ3 → ((w4 = 0 → Q (some (.int (-1 : Int32))) σ3) ∧ (¬ w4 = 0 → (∃ Qc : Int32 → Sg → Prop, OkI PRG d 264 [.ref 97, .int x1, .int x2, .int x3] σ3 Qc ∧ ∀ w6 σ5, Qc w6 σ5 → Q (some (.int w6)) σ5)))))))) : Rn PRG (d + 1) 266 0 [(0, .ref 97), (1, .int x1), (2, .int x2), (3, .int x3)] [] σ Q := by
  have hM : PRG[266]? = some M_266 := rfl
  refine Rn.seg (pc' := 3) (ls' := [(0, .ref 97), (1, .int x1), (2, .int x2), (3, .int x3)]) (st' := [.int x3, .int x1, .ref 97]) (σ' := σ) hM 3 rfl ?_
  obtain ⟨Qc, hq, h⟩ := h
  refine Rn.cI hM rfl rfl (by decide) hq (fun w2 σ1 hw => ?_)
  replace h := h w2 σ1 hw
  refine Rn.br (c := w2 = 0) (a := 31) (b := 9) (ls' := [(0, .ref 97), (1, .int x1), (2, .int x2), (3, .int x3)]) (st' := []) (σ' := σ1) hM 1 rfl (fun c => ?_) (fun c => ?_)
  · replace h := h.1 c
    refine Rn.seg (pc' := 32) (ls' := [(0, .ref 97), (1, .int x1), (2, .int x2), (3, .int x3)]) (st' := [.int (-1 : Int32)]) (σ' := σ1) hM 1 rfl ?_
    exact Rn.ret hM rfl rfl h
  · replace h := h.2 c
    refine Rn.seg (pc' := 15) (ls' := [(0, .ref 97), (1, .int x1), (2, .int x2), (3, .int x3)]) (st' := [.int (σ1.1 97 48), .int (0 : Int32), .int x2]) (σ' := σ1) hM 4 rfl ?_
    obtain ⟨Qc, hq, h⟩ := h
    refine Rn.cI hM rfl rfl (by decide) hq (fun w4 σ3 hw => ?_)
    replace h := h w4 σ3 hw
    refine Rn.br (c := w4 = 0) (a := 31) (b := 21) (ls' := [(0, .ref 97), (1, .int x1), (2, .int x2), (3, .int x3)]) (st' := []) (σ' := σ3) hM 1 rfl (fun c => ?_) (fun c => ?_)
    · replace h := h.1 c
      refine Rn.seg (pc' := 32) (ls' := [(0, .ref 97), (1, .int x1), (2, .int x2), (3, .int x3)]) (st' := [.int (-1 : Int32)]) (σ' := σ3) hM 1 rfl ?_
      exact Rn.ret hM rfl rfl h
    · replace h := h.2 c
      refine Rn.seg (pc' := 25) (ls' := [(0, .ref 97), (1, .int x1), (2, .int x2), (3, .int x3)]) (st' := [.int x3, .int x2, .int x1, .ref 97]) (σ' := σ3) hM 4 rfl ?_
      obtain ⟨Qc, hq, h⟩ := h
      refine Rn.cI hM rfl rfl (by decide) hq (fun w6 σ5 hw => ?_)
      replace h := h w6 σ5 hw
      refine Rn.seg (pc' := 32) (ls' := [(0, .ref 97), (1, .int x1), (2, .int x2), (3, .int x3)]) (st' := [.int w6]) (σ' := σ5) hM 1 rfl ?_
      exact Rn.ret hM rfl rfl h
set_option maxRecDepth 100000 in
theorem w_267_0 {d : Nat} {Q : Option Value → Sg → Prop} (σ : Sg) (x1 x2 x3 x4 : Int32) (h : (∃ Qc : Int32 → Sg → Prop, OkI PRG d 263 [.ref 97, .int x1, .int x4] σ Qc ∧ ∀ w2 σ1, Qc w2 σ1 → ((w2 = 0 → Q (some (.int (-1 : Int32))) σ1) ∧ (¬ w2 = 0 → (∃ Qc : Int32 → Sg → Prop, OkI PRG d 216 [.int x2] σ1 Qc ∧ ∀ w4 σ3, Qc w4 σ3 → ((w4 = 0 → Q (some (.int (-1 : Int32))) σ3) ∧ (¬ w4 = 0 → ((x1 = x2 → Q (some (.int (-1 : Int32))) σ3) ∧ (¬ x1 = x2 → (∃ Qc : Int32 → Sg → Prop, OkI PRG d 217 [.ref 97, .int x3] σ3 Qc ∧ ∀ w6 σ5, Qc w6 σ5 → ((w6 = 0 → Q (some (.int (-1 : Int32))) σ5) ∧ (¬ w6 = 0 → (inR x1 4 = true ∧ (inR x1 4 = true ∧ (∃ Qc : Sg → Prop, OkV PRG d 257 [.ref 97, .int x1, .int (σ5.1 97 48), .int x4] (s1 σ5 129 x1.toNatClampNeg (σ5.1 125 x1.toNatClampNeg)) Qc ∧ ∀ σ7, Qc σ7 → Rn PRG (d + 1) 267 58 [(0, .ref 97), (2, .int x2), (3, .int x3), (5, .int (0 : Int32))] [] σ7 Q))))))))))))))) : Rn PRG (d + 1) 267 0 [(0, .ref 97), (1, .int x1), (2, .int x2), (3, .int x3), (4, .int x4)] [] σ Q := by
  have hM : PRG[267]? = some M_267 := rfl
  refine Rn.seg (pc' := 4) (ls' := [(0, .ref 97), (1, .int x1), (2, .int x2), (3, .int x3), (4, .int x4)]) (st' := [.int x4, .int x1, .ref 97]) (σ' := σ) hM 3 rfl ?_
  obtain ⟨Qc, hq, h⟩ := h
  refine Rn.cI hM rfl rfl (by decide) hq (fun w2 σ1 hw => ?_)
  replace h := h w2 σ1 hw
  refine Rn.br (c := w2 = 0) (a := 30) (b := 10) (ls' := [(0, .ref 97), (1, .int x1), (2, .int x2), (3, .int x3), (4, .int x4)]) (st' := []) (σ' := σ1) hM 1 rfl (fun c => ?_) (fun c => ?_)
  · replace h := h.1 c
    refine Rn.seg (pc' := 31) (ls' := [(0, .ref 97), (1, .int x1), (2, .int x2), (3, .int x3), (4, .int x4)]) (st' := [.int (-1 : Int32)]) (σ' := σ1) hM 1 rfl ?_
    exact Rn.ret hM rfl rfl h
  · replace h := h.2 c
    refine Rn.seg (pc' := 11) (ls' := [(0, .ref 97), (1, .int x1), (2, .int x2), (3, .int x3), (4, .int x4)]) (st' := [.int x2]) (σ' := σ1) hM 1 rfl ?_
    obtain ⟨Qc, hq, h⟩ := h
    refine Rn.cI hM rfl rfl (by decide) hq (fun w4 σ3 hw => ?_)
    replace h := h w4 σ3 hw
    refine Rn.br (c := w4 = 0) (a := 30) (b := 17) (ls' := [(0, .ref 97), (1, .int x1), (2, .int x2), (3, .int x3), (4, .int x4)]) (st' := []) (σ' := σ3) hM 1 rfl (fun c => ?_) (fun c => ?_)
    · replace h := h.1 c
      refine Rn.seg (pc' := 31) (ls' := [(0, .ref 97), (1, .int x1), (2, .int x2), (3, .int x3), (4, .int x4)]) (st' := [.int (-1 : Int32)]) (σ' := σ3) hM 1 rfl ?_
      exact Rn.ret hM rfl rfl h
    · replace h := h.2 c
      refine Rn.br (c := x1 = x2) (a := 30) (b := 22) (ls' := [(0, .ref 97), (1, .int x1), (2, .int x2), (3, .int x3), (4, .int x4)]) (st' := []) (σ' := σ3) hM 3 rfl (fun c => ?_) (fun c => ?_)
      · replace h := h.1 c
        refine Rn.seg (pc' := 31) (ls' := [(0, .ref 97), (1, .int x1), (2, .int x2), (3, .int x3), (4, .int x4)]) (st' := [.int (-1 : Int32)]) (σ' := σ3) hM 1 rfl ?_
        exact Rn.ret hM rfl rfl h
      · replace h := h.2 c
        refine Rn.seg (pc' := 24) (ls' := [(0, .ref 97), (1, .int x1), (2, .int x2), (3, .int x3), (4, .int x4)]) (st' := [.int x3, .ref 97]) (σ' := σ3) hM 2 rfl ?_
        obtain ⟨Qc, hq, h⟩ := h
        refine Rn.cI hM rfl rfl (by decide) hq (fun w6 σ5 hw => ?_)
        replace h := h w6 σ5 hw
        refine Rn.brN (c := w6 = 0) (a := 32) (b := 30) (ls' := [(0, .ref 97), (1, .int x1), (2, .int x2), (3, .int x3), (4, .int x4)]) (st' := []) (σ' := σ5) hM 1 rfl (fun c => ?_) (fun c => ?_)
        · replace h := h.2 c
          refine Rn.seg (pc' := 42) (ls' := [(0, .ref 97), (1, .int x1), (2, .int x2), (3, .int x3), (4, .int x4)]) (st' := [.int x1, .ref 125, .int x1, .ref 129]) (σ' := σ5) hM 6 rfl ?_
          refine Rn.iald hM rfl rfl h.1 ?_
          refine Rn.seg (pc' := 43) (ls' := [(0, .ref 97), (1, .int x1), (2, .int x2), (3, .int x3), (4, .int x4)]) (st' := [.int (σ5.1 125 x1.toNatClampNeg), .int x1, .ref 129]) (σ' := σ5) hM 0 rfl ?_
          refine Rn.iast hM rfl rfl h.2.1 ?_
          refine Rn.seg (pc' := 52) (ls' := [(0, .ref 97), (1, .int x1), (2, .int x2), (3, .int x3), (4, .int x4)]) (st' := [.int x4, .int (σ5.1 97 48), .int x1, .ref 97]) (σ' := (s1 σ5 129 x1.toNatClampNeg (σ5.1 125 x1.toNatClampNeg))) hM 5 rfl ?_
          obtain ⟨Qc, hq, h⟩ := h.2.2
          refine Rn.cV hM rfl rfl (by decide) hq (fun σ7 hw => ?_)
          replace h := h σ7 hw
          refine Rn.seg (pc' := 58) (ls' := [(5, .int (0 : Int32)), (0, .ref 97), (1, .int x1), (2, .int x2), (3, .int x3), (4, .int x4)]) (st' := []) (σ' := σ7) hM 2 rfl ?_
          exact Rn.sub h (subL_cons rfl (subL_cons rfl (subL_cons rfl (subL_cons rfl subL_nil)))) (show ndL _ from (by decide : List.Nodup ([0, 2, 3, 5] : List Nat)))
        · replace h := h.1 c
          refine Rn.seg (pc' := 31) (ls' := [(0, .ref 97), (1, .int x1), (2, .int x2), (3, .int x3), (4, .int x4)]) (st' := [.int (-1 : Int32)]) (σ' := σ5) hM 1 rfl ?_
          exact Rn.ret hM rfl rfl h
set_option maxRecDepth 100000 in
theorem w_267_58 {d : Nat} {Q : Option Value → Sg → Prop} (σ : Sg) (x2 x3 x5 : Int32) (h : (∃ Qc : Int32 → Sg → Prop, OkI PRG d 262 [.ref 97] σ Qc ∧ ∀ w2 σ1, Qc w2 σ1 → ((w2 = 0 → Q (some (.int x5)) σ1) ∧ (¬ w2 = 0 → (inR x2 4 = true ∧ Rn PRG (d + 1) 267 58 [(0, .ref 97), (2, .int x2), (3, .int x3), (5, .int (x5 + (((σ1.1 129 x2.toNatClampNeg) >>> (x3 &&& 31)) &&& (1 : Int32))))] [] σ1 Q))))) : Rn PRG (d + 1) 267 58 [(0, .ref 97), (2, .int x2), (3, .int x3), (5, .int x5)] [] σ Q := by
  have hM : PRG[267]? = some M_267 := rfl
  refine Rn.seg (pc' := 59) (ls' := [(0, .ref 97), (2, .int x2), (3, .int x3), (5, .int x5)]) (st' := [.ref 97]) (σ' := σ) hM 1 rfl ?_
  obtain ⟨Qc, hq, h⟩ := h
  refine Rn.cI hM rfl rfl (by decide) hq (fun w2 σ1 hw => ?_)
  replace h := h w2 σ1 hw
  refine Rn.br (c := w2 = 0) (a := 83) (b := 65) (ls' := [(0, .ref 97), (2, .int x2), (3, .int x3), (5, .int x5)]) (st' := []) (σ' := σ1) hM 1 rfl (fun c => ?_) (fun c => ?_)
  · replace h := h.1 c
    refine Rn.seg (pc' := 85) (ls' := [(0, .ref 97), (2, .int x2), (3, .int x3), (5, .int x5)]) (st' := [.int x5]) (σ' := σ1) hM 1 rfl ?_
    exact Rn.ret hM rfl rfl h
  · replace h := h.2 c
    refine Rn.seg (pc' := 72) (ls' := [(0, .ref 97), (2, .int x2), (3, .int x3), (5, .int x5)]) (st' := [.int x2, .ref 129, .int x5]) (σ' := σ1) hM 4 rfl ?_
    refine Rn.iald hM rfl rfl h.1 ?_
    refine Rn.seg (pc' := 58) (ls' := [(5, .int (x5 + (((σ1.1 129 x2.toNatClampNeg) >>> (x3 &&& 31)) &&& (1 : Int32)))), (0, .ref 97), (2, .int x2), (3, .int x3)]) (st' := []) (σ' := σ1) hM 7 rfl ?_
    exact Rn.sub h.2 (subL_cons rfl (subL_cons rfl (subL_cons rfl (subL_cons rfl subL_nil)))) (show ndL _ from (by decide : List.Nodup ([0, 2, 3, 5] : List Nat)))
set_option maxRecDepth 100000 in
theorem w_268_0 {d : Nat} {Q : Option Value → Sg → Prop} (σ : Sg) (x1 x2 x3 : Int32) (h : (∃ Qc : Sg → Prop, OkV PRG d 257 [.ref 97, .int x1, .int x2, .int x3] σ Qc ∧ ∀ σ1, Qc σ1 → Rn PRG (d + 1) 268 10 [(0, .ref 97), (1, .int x1), (4, .int (0 : Int32))] [] σ1 Q)) : Rn PRG (d + 1) 268 0 [(0, .ref 97), (1, .int x1), (2, .int x2), (3, .int x3)] [] σ Q := by
  have hM : PRG[268]? = some M_268 := rfl
  refine Rn.seg (pc' := 4) (ls' := [(0, .ref 97), (1, .int x1), (2, .int x2), (3, .int x3)]) (st' := [.int x3, .int x2, .int x1, .ref 97]) (σ' := σ) hM 4 rfl ?_
  obtain ⟨Qc, hq, h⟩ := h
  refine Rn.cV hM rfl rfl (by decide) hq (fun σ1 hw => ?_)
  replace h := h σ1 hw
  refine Rn.seg (pc' := 10) (ls' := [(4, .int (0 : Int32)), (0, .ref 97), (1, .int x1), (2, .int x2), (3, .int x3)]) (st' := []) (σ' := σ1) hM 2 rfl ?_
  exact Rn.sub h (subL_cons rfl (subL_cons rfl (subL_cons rfl subL_nil))) (show ndL _ from (by decide : List.Nodup ([0, 1, 4] : List Nat)))
set_option maxRecDepth 100000 in
theorem w_268_10 {d : Nat} {Q : Option Value → Sg → Prop} (σ : Sg) (x1 x4 : Int32) (h : (∃ Qc : Int32 → Sg → Prop, OkI PRG d 262 [.ref 97] σ Qc ∧ ∀ w2 σ1, Qc w2 σ1 → ((w2 = 0 → Rn PRG (d + 1) 268 81 [(0, .ref 97), (1, .int x1), (4, .int x4), (5, .int (0 : Int32)), (6, .int (0 : Int32))] [] σ1 Q) ∧ (¬ w2 = 0 → Rn PRG (d + 1) 268 20 [(0, .ref 97), (1, .int x1), (4, .int x4), (5, .int (0 : Int32))] [] σ1 Q)))) : Rn PRG (d + 1) 268 10 [(0, .ref 97), (1, .int x1), (4, .int x4)] [] σ Q := by
  have hM : PRG[268]? = some M_268 := rfl
  refine Rn.seg (pc' := 11) (ls' := [(0, .ref 97), (1, .int x1), (4, .int x4)]) (st' := [.ref 97]) (σ' := σ) hM 1 rfl ?_
  obtain ⟨Qc, hq, h⟩ := h
  refine Rn.cI hM rfl rfl (by decide) hq (fun w2 σ1 hw => ?_)
  replace h := h w2 σ1 hw
  refine Rn.br (c := w2 = 0) (a := 75) (b := 17) (ls' := [(0, .ref 97), (1, .int x1), (4, .int x4)]) (st' := []) (σ' := σ1) hM 1 rfl (fun c => ?_) (fun c => ?_)
  · replace h := h.1 c
    refine Rn.seg (pc' := 81) (ls' := [(6, .int (0 : Int32)), (5, .int (0 : Int32)), (0, .ref 97), (1, .int x1), (4, .int x4)]) (st' := []) (σ' := σ1) hM 4 rfl ?_
    exact Rn.sub h (subL_cons rfl (subL_cons rfl (subL_cons rfl (subL_cons rfl (subL_cons rfl subL_nil))))) (show ndL _ from (by decide : List.Nodup ([0, 1, 4, 5, 6] : List Nat)))
  · replace h := h.2 c
    refine Rn.seg (pc' := 20) (ls' := [(5, .int (0 : Int32)), (0, .ref 97), (1, .int x1), (4, .int x4)]) (st' := []) (σ' := σ1) hM 2 rfl ?_
    exact Rn.sub h (subL_cons rfl (subL_cons rfl (subL_cons rfl (subL_cons rfl subL_nil)))) (show ndL _ from (by decide : List.Nodup ([0, 1, 4, 5] : List Nat)))
set_option maxRecDepth 100000 in
theorem w_268_81 {d : Nat} {Q : Option Value → Sg → Prop} (σ : Sg) (x1 x4 x5 x6 : Int32) (h : (((4 : Int32) ≤ x6 → Q (some (.int x5)) σ) ∧ (¬ (4 : Int32) ≤ x6 → ((x6 = x1 → Rn PRG (d + 1) 268 81 [(0, .ref 97), (1, .int x1), (4, .int x4), (5, .int x5), (6, .int (x6 + (1 : Int32)))] [] σ Q) ∧ (¬ x6 = x1 → ((x4 = 0 → Rn PRG (d + 1) 268 81 [(0, .ref 97), (1, .int x1), (4, .int x4), (5, .int x5), (6, .int (x6 + (1 : Int32)))] [] σ Q) ∧ (¬ x4 = 0 → (inR x6 4 = true ∧ Rn PRG (d + 1) 268 81 [(0, .ref 97), (1, .int x1), (4, .int x4), (5, .int (x5 ||| (σ.1 134 x6.toNatClampNeg))), (6, .int (x6 + (1 : Int32)))] [] σ Q)))))))) : Rn PRG (d + 1) 268 81 [(0, .ref 97), (1, .int x1), (4, .int x4), (5, .int x5), (6, .int x6)] [] σ Q := by
  have hM : PRG[268]? = some M_268 := rfl
  refine Rn.br (c := (4 : Int32) ≤ x6) (a := 116) (b := 87) (ls' := [(0, .ref 97), (1, .int x1), (4, .int x4), (5, .int x5), (6, .int x6)]) (st' := []) (σ' := σ) hM 3 rfl (fun c => ?_) (fun c => ?_)
  · replace h := h.1 c
    refine Rn.seg (pc' := 118) (ls' := [(0, .ref 97), (1, .int x1), (4, .int x4), (5, .int x5), (6, .int x6)]) (st' := [.int x5]) (σ' := σ) hM 1 rfl ?_
    exact Rn.ret hM rfl rfl h
  · replace h := h.2 c
    refine Rn.br (c := x6 = x1) (a := 110) (b := 93) (ls' := [(0, .ref 97), (1, .int x1), (4, .int x4), (5, .int x5), (6, .int x6)]) (st' := []) (σ' := σ) hM 3 rfl (fun c => ?_) (fun c => ?_)
    · replace h := h.1 c
      refine Rn.seg (pc' := 81) (ls' := [(6, .int (x6 + (1 : Int32))), (0, .ref 97), (1, .int x1), (4, .int x4), (5, .int x5)]) (st' := []) (σ' := σ) hM 2 rfl ?_
      exact Rn.sub h (subL_cons rfl (subL_cons rfl (subL_cons rfl (subL_cons rfl (subL_cons rfl subL_nil))))) (show ndL _ from (by decide : List.Nodup ([0, 1, 4, 5, 6] : List Nat)))
    · replace h := h.2 c
      refine Rn.br (c := x4 = 0) (a := 110) (b := 98) (ls' := [(0, .ref 97), (1, .int x1), (4, .int x4), (5, .int x5), (6, .int x6)]) (st' := []) (σ' := σ) hM 2 rfl (fun c => ?_) (fun c => ?_)
      · replace h := h.1 c
        refine Rn.seg (pc' := 81) (ls' := [(6, .int (x6 + (1 : Int32))), (0, .ref 97), (1, .int x1), (4, .int x4), (5, .int x5)]) (st' := []) (σ' := σ) hM 2 rfl ?_
        exact Rn.sub h (subL_cons rfl (subL_cons rfl (subL_cons rfl (subL_cons rfl (subL_cons rfl subL_nil))))) (show ndL _ from (by decide : List.Nodup ([0, 1, 4, 5, 6] : List Nat)))
      · replace h := h.2 c
        refine Rn.seg (pc' := 106) (ls' := [(0, .ref 97), (1, .int x1), (4, .int x4), (5, .int x5), (6, .int x6)]) (st' := [.int x6, .ref 134, .int x5]) (σ' := σ) hM 4 rfl ?_
        refine Rn.iald hM rfl rfl h.1 ?_
        refine Rn.seg (pc' := 81) (ls' := [(6, .int (x6 + (1 : Int32))), (5, .int (x5 ||| (σ.1 134 x6.toNatClampNeg))), (0, .ref 97), (1, .int x1), (4, .int x4)]) (st' := []) (σ' := σ) hM 4 rfl ?_
        exact Rn.sub h.2 (subL_cons rfl (subL_cons rfl (subL_cons rfl (subL_cons rfl (subL_cons rfl subL_nil))))) (show ndL _ from (by decide : List.Nodup ([0, 1, 4, 5, 6] : List Nat)))
set_option maxRecDepth 100000 in
theorem w_268_20 {d : Nat} {Q : Option Value → Sg → Prop} (σ : Sg) (x1 x4 x5 : Int32) (h : (((4 : Int32) ≤ x5 → Rn PRG (d + 1) 268 10 [(0, .ref 97), (1, .int x1), (4, .int (1 : Int32))] [] σ Q) ∧ (¬ (4 : Int32) ≤ x5 → ((x4 = 0 → (inR x5 4 = true ∧ (inR x5 4 = true ∧ Rn PRG (d + 1) 268 20 [(0, .ref 97), (1, .int x1), (4, .int x4), (5, .int (x5 + (1 : Int32)))] [] (s1 σ 134 x5.toNatClampNeg (σ.1 129 x5.toNatClampNeg)) Q))) ∧ (¬ x4 = 0 → (inR x5 4 = true ∧ (inR x5 4 = true ∧ (inR x5 4 = true ∧ Rn PRG (d + 1) 268 20 [(0, .ref 97), (1, .int x1), (4, .int x4), (5, .int (x5 + (1 : Int32)))] [] (s1 σ 134 x5.toNatClampNeg ((σ.1 134 x5.toNatClampNeg) &&& (σ.1 129 x5.toNatClampNeg))) Q)))))))) : Rn PRG (d + 1) 268 20 [(0, .ref 97), (1, .int x1), (4, .int x4), (5, .int x5)] [] σ Q := by
  have hM : PRG[268]? = some M_268 := rfl
  refine Rn.br (c := (4 : Int32) ≤ x5) (a := 69) (b := 26) (ls' := [(0, .ref 97), (1, .int x1), (4, .int x4), (5, .int x5)]) (st' := []) (σ' := σ) hM 3 rfl (fun c => ?_) (fun c => ?_)
  · replace h := h.1 c
    refine Rn.seg (pc' := 10) (ls' := [(4, .int (1 : Int32)), (0, .ref 97), (1, .int x1), (5, .int x5)]) (st' := []) (σ' := σ) hM 3 rfl ?_
    exact Rn.sub h (subL_cons rfl (subL_cons rfl (subL_cons rfl subL_nil))) (show ndL _ from (by decide : List.Nodup ([0, 1, 4] : List Nat)))
  · replace h := h.2 c
    refine Rn.br (c := x4 = 0) (a := 55) (b := 37) (ls' := [(0, .ref 97), (1, .int x1), (4, .int x4), (5, .int x5)]) (st' := [.int x5, .ref 134]) (σ' := σ) hM 5 rfl (fun c => ?_) (fun c => ?_)
    · replace h := h.1 c
      refine Rn.seg (pc' := 61) (ls' := [(0, .ref 97), (1, .int x1), (4, .int x4), (5, .int x5)]) (st' := [.int x5, .ref 129, .int x5, .ref 134]) (σ' := σ) hM 3 rfl ?_
      refine Rn.iald hM rfl rfl h.1 ?_
      refine Rn.seg (pc' := 62) (ls' := [(0, .ref 97), (1, .int x1), (4, .int x4), (5, .int x5)]) (st' := [.int (σ.1 129 x5.toNatClampNeg), .int x5, .ref 134]) (σ' := σ) hM 0 rfl ?_
      refine Rn.iast hM rfl rfl h.2.1 ?_
      refine Rn.seg (pc' := 20) (ls' := [(5, .int (x5 + (1 : Int32))), (0, .ref 97), (1, .int x1), (4, .int x4)]) (st' := []) (σ' := (s1 σ 134 x5.toNatClampNeg (σ.1 129 x5.toNatClampNeg))) hM 2 rfl ?_
      exact Rn.sub h.2.2 (subL_cons rfl (subL_cons rfl (subL_cons rfl (subL_cons rfl subL_nil)))) (show ndL _ from (by decide : List.Nodup ([0, 1, 4, 5] : List Nat)))
    · replace h := h.2 c
      refine Rn.seg (pc' := 43) (ls' := [(0, .ref 97), (1, .int x1), (4, .int x4), (5, .int x5)]) (st' := [.int x5, .ref 134, .int x5, .ref 134]) (σ' := σ) hM 3 rfl ?_
      refine Rn.iald hM rfl rfl h.1 ?_
      refine Rn.seg (pc' := 50) (ls' := [(0, .ref 97), (1, .int x1), (4, .int x4), (5, .int x5)]) (st' := [.int x5, .ref 129, .int (σ.1 134 x5.toNatClampNeg), .int x5, .ref 134]) (σ' := σ) hM 3 rfl ?_
      refine Rn.iald hM rfl rfl h.2.1 ?_
      refine Rn.seg (pc' := 62) (ls' := [(0, .ref 97), (1, .int x1), (4, .int x4), (5, .int x5)]) (st' := [.int ((σ.1 134 x5.toNatClampNeg) &&& (σ.1 129 x5.toNatClampNeg)), .int x5, .ref 134]) (σ' := σ) hM 2 rfl ?_
      refine Rn.iast hM rfl rfl h.2.2.1 ?_
      refine Rn.seg (pc' := 20) (ls' := [(5, .int (x5 + (1 : Int32))), (0, .ref 97), (1, .int x1), (4, .int x4)]) (st' := []) (σ' := (s1 σ 134 x5.toNatClampNeg ((σ.1 134 x5.toNatClampNeg) &&& (σ.1 129 x5.toNatClampNeg)))) hM 2 rfl ?_
      exact Rn.sub h.2.2.2 (subL_cons rfl (subL_cons rfl (subL_cons rfl (subL_cons rfl subL_nil)))) (show ndL _ from (by decide : List.Nodup ([0, 1, 4, 5] : List Nat)))
set_option maxRecDepth 100000 in
theorem w_269_0 {d : Nat} {Q : Option Value → Sg → Prop} (σ : Sg) (x1 x2 : Int32) (h : (∃ Qc : Int32 → Sg → Prop, OkI PRG d 263 [.ref 97, .int x1, .int x2] σ Qc ∧ ∀ w2 σ1, Qc w2 σ1 → ((w2 = 0 → Q (some (.int (-1 : Int32))) σ1) ∧ (¬ w2 = 0 → (inR x1 4 = true ∧ (inR x1 4 = true ∧ (∃ Qc : Int32 → Sg → Prop, OkI PRG d 268 [.ref 97, .int x1, .int (σ1.1 97 48), .int x2] (s1 σ1 129 x1.toNatClampNeg (σ1.1 125 x1.toNatClampNeg)) Qc ∧ ∀ w4 σ3, Qc w4 σ3 → Q (some (.int w4)) σ3))))))) : Rn PRG (d + 1) 269 0 [(0, .ref 97), (1, .int x1), (2, .int x2)] [] σ Q := by
  have hM : PRG[269]? = some M_269 := rfl
  refine Rn.seg (pc' := 3) (ls' := [(0, .ref 97), (1, .int x1), (2, .int x2)]) (st' := [.int x2, .int x1, .ref 97]) (σ' := σ) hM 3 rfl ?_
  obtain ⟨Qc, hq, h⟩ := h
  refine Rn.cI hM rfl rfl (by decide) hq (fun w2 σ1 hw => ?_)
  replace h := h w2 σ1 hw
  refine Rn.brN (c := w2 = 0) (a := 11) (b := 9) (ls' := [(0, .ref 97), (1, .int x1), (2, .int x2)]) (st' := []) (σ' := σ1) hM 1 rfl (fun c => ?_) (fun c => ?_)
  · replace h := h.2 c
    refine Rn.seg (pc' := 21) (ls' := [(0, .ref 97), (1, .int x1), (2, .int x2)]) (st' := [.int x1, .ref 125, .int x1, .ref 129]) (σ' := σ1) hM 6 rfl ?_
    refine Rn.iald hM rfl rfl h.1 ?_
    refine Rn.seg (pc' := 22) (ls' := [(0, .ref 97), (1, .int x1), (2, .int x2)]) (st' := [.int (σ1.1 125 x1.toNatClampNeg), .int x1, .ref 129]) (σ' := σ1) hM 0 rfl ?_
    refine Rn.iast hM rfl rfl h.2.1 ?_
    refine Rn.seg (pc' := 30) (ls' := [(0, .ref 97), (1, .int x1), (2, .int x2)]) (st' := [.int x2, .int (σ1.1 97 48), .int x1, .ref 97]) (σ' := (s1 σ1 129 x1.toNatClampNeg (σ1.1 125 x1.toNatClampNeg))) hM 5 rfl ?_
    obtain ⟨Qc, hq, h⟩ := h.2.2
    refine Rn.cI hM rfl rfl (by decide) hq (fun w4 σ3 hw => ?_)
    replace h := h w4 σ3 hw
    refine Rn.seg (pc' := 33) (ls' := [(0, .ref 97), (1, .int x1), (2, .int x2)]) (st' := [.int w4]) (σ' := σ3) hM 0 rfl ?_
    exact Rn.ret hM rfl rfl h
  · replace h := h.1 c
    refine Rn.seg (pc' := 10) (ls' := [(0, .ref 97), (1, .int x1), (2, .int x2)]) (st' := [.int (-1 : Int32)]) (σ' := σ1) hM 1 rfl ?_
    exact Rn.ret hM rfl rfl h
set_option maxRecDepth 100000 in
theorem w_211_0 {d : Nat} {Q : Option Value → Sg → Prop} (σ : Sg) (h : (∃ Qc : Int32 → Sg → Prop, OkI PRG d 210 [.ref 97] σ Qc ∧ ∀ w2 σ1, Qc w2 σ1 → Q (some (.int (w2 / (4 : Int32)))) σ1)) : Rn PRG (d + 1) 211 0 [(0, .ref 97)] [] σ Q := by
  have hM : PRG[211]? = some M_211 := rfl
  refine Rn.seg (pc' := 1) (ls' := [(0, .ref 97)]) (st' := [.ref 97]) (σ' := σ) hM 1 rfl ?_
  obtain ⟨Qc, hq, h⟩ := h
  refine Rn.cI hM rfl rfl (by decide) hq (fun w2 σ1 hw => ?_)
  replace h := h w2 σ1 hw
  refine Rn.seg (pc' := 6) (ls' := [(0, .ref 97)]) (st' := [.int (w2 / (4 : Int32))]) (σ' := σ1) hM 2 rfl ?_
  exact Rn.ret hM rfl rfl h
theorem appliesAt_OK {k : Nat} {x y : Int32} {σ : Sg} (ht : typed TYP σ) (hI : I2 σ) (hx : x.toInt = (k : Int)) (hk : k < 16) : OkI PRG 5 255 [.ref 97, .int x, .int y] σ (fun _ σ' => Gl mdFit σ σ' ∧ I2 σ') := by
  have h : k = 0 ∨ k = 1 ∨ k = 2 ∨ k = 3 ∨ k = 4 ∨ k = 5 ∨ k = 6 ∨ k = 7 ∨ k = 8 ∨ k = 9 ∨ k = 10 ∨ k = 11 ∨ k = 12 ∨ k = 13 ∨ k = 14 ∨ k = 15 := by omega
  rcases h with rfl | rfl | rfl | rfl | rfl | rfl | rfl | rfl | rfl | rfl | rfl | rfl | rfl | rfl | rfl | rfl
  · exact (c_255n0.atI ht hI (avsC avM (avsC (avI (by omega) (by omega)) (avsC avF avsN))) rfl rfl rfl).mono (fun w σ' h => ⟨h.1.mono rfl, h.2.1⟩)
  · exact (c_255n1.atI ht hI (avsC avM (avsC (avI (by omega) (by omega)) (avsC avF avsN))) rfl rfl rfl).mono (fun w σ' h => ⟨h.1.mono rfl, h.2.1⟩)
  · exact (c_255n2.atI ht hI (avsC avM (avsC (avI (by omega) (by omega)) (avsC avF avsN))) rfl rfl rfl).mono (fun w σ' h => ⟨h.1.mono rfl, h.2.1⟩)
  · exact (c_255n3.atI ht hI (avsC avM (avsC (avI (by omega) (by omega)) (avsC avF avsN))) rfl rfl rfl).mono (fun w σ' h => ⟨h.1.mono rfl, h.2.1⟩)
  · exact (c_255n4.atI ht hI (avsC avM (avsC (avI (by omega) (by omega)) (avsC avF avsN))) rfl rfl rfl).mono (fun w σ' h => ⟨h.1.mono rfl, h.2.1⟩)
  · exact (c_255n5.atI ht hI (avsC avM (avsC (avI (by omega) (by omega)) (avsC avF avsN))) rfl rfl rfl).mono (fun w σ' h => ⟨h.1.mono rfl, h.2.1⟩)
  · exact (c_255n6.atI ht hI (avsC avM (avsC (avI (by omega) (by omega)) (avsC avF avsN))) rfl rfl rfl).mono (fun w σ' h => ⟨h.1.mono rfl, h.2.1⟩)
  · exact (c_255n7.atI ht hI (avsC avM (avsC (avI (by omega) (by omega)) (avsC avF avsN))) rfl rfl rfl).mono (fun w σ' h => ⟨h.1.mono rfl, h.2.1⟩)
  · exact (c_255n8.atI ht hI (avsC avM (avsC (avI (by omega) (by omega)) (avsC avF avsN))) rfl rfl rfl).mono (fun w σ' h => ⟨h.1.mono rfl, h.2.1⟩)
  · exact (c_255n9.atI ht hI (avsC avM (avsC (avI (by omega) (by omega)) (avsC avF avsN))) rfl rfl rfl).mono (fun w σ' h => ⟨h.1.mono rfl, h.2.1⟩)
  · exact (c_255n10.atI ht hI (avsC avM (avsC (avI (by omega) (by omega)) (avsC avF avsN))) rfl rfl rfl).mono (fun w σ' h => ⟨h.1.mono rfl, h.2.1⟩)
  · exact (c_255n11.atI ht hI (avsC avM (avsC (avI (by omega) (by omega)) (avsC avF avsN))) rfl rfl rfl).mono (fun w σ' h => ⟨h.1.mono rfl, h.2.1⟩)
  · exact (c_255n12.atI ht hI (avsC avM (avsC (avI (by omega) (by omega)) (avsC avF avsN))) rfl rfl rfl).mono (fun w σ' h => ⟨h.1.mono rfl, h.2.1⟩)
  · exact (c_255n13.atI ht hI (avsC avM (avsC (avI (by omega) (by omega)) (avsC avF avsN))) rfl rfl rfl).mono (fun w σ' h => ⟨h.1.mono rfl, h.2.1⟩)
  · exact (c_255n14.atI ht hI (avsC avM (avsC (avI (by omega) (by omega)) (avsC avF avsN))) rfl rfl rfl).mono (fun w σ' h => ⟨h.1.mono rfl, h.2.1⟩)
  · exact (c_255n15.atI ht hI (avsC avM (avsC (avI (by omega) (by omega)) (avsC avF avsN))) rfl rfl rfl).mono (fun w σ' h => ⟨h.1.mono rfl, h.2.1⟩)
theorem nextDeal_OK {σ : Sg} (ht : typed TYP σ) (hI : I2 σ) (hap : apart3 σ) (hd : DSt σ) : OkI PRG 6 262 [.ref 97] σ (fun w σ' => nd σ w σ' ∧ I2 σ') := by
  have hfit : ∀ σ, typed TYP σ → I2 σ → OkI PRG (3 + 1 + 1) 261 [.ref 97] σ (fun w σ' => (w = 0 ∨ w = 1) ∧ Gl mdFit σ σ') := by
    intro σ ht hI
    refine OkI.mono (c_261.atI ht hI (avsC avM avsN) rfl rfl rfl) (fun w σ' h => ⟨?_, h.1.mono rfl⟩)
    obtain ⟨-, -, a, b⟩ := h
    have : w.toInt = 0 ∨ w.toInt = 1 := by omega
    rcases this with h | h
    · exact Or.inl (Int32.toInt_inj.mp h)
    · exact Or.inr (Int32.toInt_inj.mp h)
  have hJ : ∀ σ σ', Gl mdDeal σ σ' → I2 σ → I2 σ' := fun σ σ' hG h => h.keep hG rfl
  refine ⟨M_262, rfl, Nat.le_of_ble_eq_true rfl, (nextDeal_go (d := 3) hJ hfit _ σ ht hI hap hd (Nat.le_refl _)).mono (fun v σ' h => ?_)⟩
  obtain ⟨w, rfl, h⟩ := h
  exact ⟨w, rfl, h, hI.keep h.1 rfl⟩
theorem handSize_OK {d N : Nat} {σ : Sg} (ht : typed TYP σ) (hp : pack N σ) : OkI PRG (d + 1) 211 [.ref 97] σ (fun w σ' => σ' = σ ∧ w.toInt = ((N / 4 : Nat) : Int)) := by
  refine ⟨M_211, rfl, Nat.le_of_ble_eq_true rfl, w_211_0 σ ⟨_, cards_OK ht hp, fun w2 σ1 hq => ?_⟩⟩
  obtain ⟨rfl, hw⟩ := hq
  refine ⟨_, rfl, rfl, ?_⟩
  rw [div_ex (by decide), hw]
  have : (4 : Int32).toInt = 4 := by decide
  rw [this, Int.tdiv_eq_ediv_of_nonneg (by omega)]
  omega
def mdBegin : List (Nat × Nat × Nat) := [(12, 44, 44), (12, 53, 55), (12, 59, 61), (79, 0, 13), (80, 0, 399), (86, 0, 2), (87, 0, 2), (88, 0, 2), (89, 0, 15)]
/-- the other players, what each is known to have, what each still needs -/
def knP (N p i : Nat) (σ σ' : Sg) (k : Nat) : Prop := (σ'.1 130 k).toInt = (((p + 1 + k) % 4 : Nat) : Int) ∧ pbP σ (σ'.1 130 k) i (σ'.1 131 k) ∧ (σ'.1 132 k).toInt = ((N / 4 : Nat) : Int) - ((pop (σ'.1 131 k) : Nat) : Int)
/-- the cards that are free behind the first j others -/
def frP (N p j : Nat) (σ' : Sg) : Prop := ∀ b, b < 32 → bt (σ'.1 97 59) b = (decide (b < N) && (!bt (σ'.1 129 p) b && !(List.range j).any (fun k => bt (σ'.1 131 k) b)))
def bdP (N p i : Nat) (σ σ' : Sg) : Prop := Gl mdBegin σ σ' ∧ I2 σ' ∧ (σ'.1 97 60).toInt = -1 ∧ (∀ k, k ≤ 2 → knP N p i σ σ' k) ∧ frP N p 3 σ'
theorem all_bt : ∀ N : Nat, (N = 4 ∨ N = 8 ∨ N = 12 ∨ N = 16) → (∀ b : Nat, b < 32 → bt (((1 : Int32) <<< (nI N &&& 31)) - (1 : Int32)) b = decide (b < N)) ∧ 0 ≤ (((1 : Int32) <<< (nI N &&& 31)) - (1 : Int32)).toInt ∧ (((1 : Int32) <<< (nI N &&& 31)) - (1 : Int32)).toInt ≤ 65535 := by
  intro N h
  rcases h with rfl | rfl | rfl | rfl <;> decide
theorem oth_ex {x y : Int32} {p k : Nat} (hx : x.toInt = (p : Int)) (hy : y.toInt = (k : Int)) (hp : p ≤ 3) (hk : k ≤ 2) : (((x + (1 : Int32)) + y) - ((x + (1 : Int32)) + y) / (4 : Int32) * (4 : Int32)).toInt = (((p + 1 + k) % 4 : Nat) : Int) := by
  have e1 : (x + (1 : Int32)).toInt = (p : Int) + 1 := add_lit hx (by decide) (by unfold FL; omega) (by unfold FH; omega)
  have e2 : ((x + (1 : Int32)) + y).toInt = (p : Int) + 1 + k := by
    rw [add_ex (by rw [e1, hy]; unfold FL; clear e1; omega) (by rw [e1, hy]; unfold FH; clear e1; omega), e1, hy]
  rw [rem_ex (by decide), e2]
  have : (4 : Int32).toInt = 4 := by decide
  rw [this, Int.tmod_eq_emod_of_nonneg (by clear e1 e2; omega)]
  clear e1 e2
  omega
theorem any_cong {l : List Nat} {f g : Nat → Bool} (h : ∀ j, j ∈ l → f j = g j) : l.any f = l.any g := by
  induction l with
  | nil => rfl
  | cons a l ih =>
    rw [List.any_cons, List.any_cons, h a List.mem_cons_self, ih (fun j hj => h j (List.mem_cons_of_mem _ hj))]
theorem bd_128 {N p i : Nat} {x1 x2 x3 : Int32} {σ0 : Sg} (h2 : x2.toInt = (i : Int)) (hi : i ≤ 16) : ∀ (m k : Nat) (x4 : Int32) (σ : Sg), k + m = i → x4.toInt = (k : Int) → Gl mdBegin σ0 σ → I2 σ → (∀ k, k ≤ 2 → knP N p i σ0 σ k) → frP N p 3 σ → Rn PRG (5 + 1) 257 128 [(0, .ref 97), (1, .int x1), (2, .int x2), (3, .int x3), (4, .int x4)] [] σ (fun v σ' => v = none ∧ bdP N p i σ0 σ') := by
  have kp : ∀ {σ σ' : Sg}, (∀ k, σ'.1 130 k = σ.1 130 k) → (∀ k, σ'.1 131 k = σ.1 131 k) → (∀ k, σ'.1 132 k = σ.1 132 k) → σ'.1 97 59 = σ.1 97 59 → (∀ k, σ'.1 129 k = σ.1 129 k) → (∀ k, k ≤ 2 → knP N p i σ0 σ k) ∧ frP N p 3 σ → (∀ k, k ≤ 2 → knP N p i σ0 σ' k) ∧ frP N p 3 σ' := by
    intro σ σ' a130 a131 a132 a59 a129 h
    refine ⟨fun k hk => ?_, fun b hb => ?_⟩
    · unfold knP
      rw [a130, a131, a132]; exact h.1 k hk
    · rw [a59, a129]
      simp only [a131]
      exact h.2 b hb
  have fin : ∀ σ : Sg, Gl mdBegin σ0 σ → I2 σ → (∀ k, k ≤ 2 → knP N p i σ0 σ k) → frP N p 3 σ → (none : Option Value) = none ∧ bdP N p i σ0 (s1 (s1 σ 97 60 (-1 : Int32)) 97 61 (0 : Int32)) := by
    intro σ hG hI hk hf
    have g1 : Gl mdBegin σ0 (s1 σ 97 60 (-1 : Int32)) := wrG (κ := 12) (a := 60) (b := 60) (vl := -1) (vh := -1) rfl rfl hG rfl (Nat.le_refl _) (Nat.le_refl _) (by decide) (by decide)
    have g2 := wrG (x := (0 : Int32)) (q := 97) (k := 61) (κ := 12) (a := 61) (b := 61) (vl := 0) (vh := 0) rfl rfl g1 rfl (Nat.le_refl _) (Nat.le_refl _) (by decide) (by decide)
    have g3 : Gl mdC σ (s1 σ 97 60 (-1 : Int32)) := wrG (κ := 12) (a := 60) (b := 60) (vl := -1) (vh := -1) rfl rfl (Gl.refl hG.1) rfl (Nat.le_refl _) (Nat.le_refl _) (by decide) (by decide)
    have g4 := wrG (x := (0 : Int32)) (q := 97) (k := 61) (κ := 12) (a := 61) (b := 61) (vl := 0) (vh := 0) rfl rfl g3 rfl (Nat.le_refl _) (Nat.le_refl _) (by decide) (by decide)
    have hh := kp (σ := σ) (σ' := s1 (s1 σ 97 60 (-1 : Int32)) 97 61 (0 : Int32)) (fun k => by rw [s1_off (by omega), s1_off (by omega)]) (fun k => by rw [s1_off (by omega), s1_off (by omega)]) (fun k => by rw [s1_off (by omega), s1_off (by omega)]) (by rw [s1_off (by omega), s1_off (by omega)]) (fun k => by rw [s1_off (by omega), s1_off (by omega)]) ⟨hk, hf⟩
    refine ⟨rfl, g2, hI.keep g4 rfl, ?_, hh.1, hh.2⟩
    rw [s1_off (by omega), s1_on]
    decide
  intro m
  induction m with
  | zero =>
    intro k x4 σ hk h4 hG hI hK hF
    exact w_257_128 σ x1 x2 x3 x4 ⟨fun _ => fin σ hG hI hK hF, fun c => absurd (by rw [le_i h2 h4]; omega) c⟩
  | succ m ih =>
    intro k x4 σ hk h4 hG hI hK hF
    refine w_257_128 σ x1 x2 x3 x4 ⟨fun _ => fin σ hG hI hK hF, fun c => ?_⟩
    rw [le_i h2 h4] at c
    have hx4 : (x4 + (1 : Int32)).toInt = ((k + 1 : Nat) : Int) := by
      rw [add_lit (k := 1) h4 (by decide) (by unfold FL; omega) (by unfold FH; omega)]; push_cast; rfl
    have hin : inR x4 16 = true := inR_ok (by clear hx4; omega) (by clear hx4; omega)
    have next : ∀ (y : Int32) (σ' : Sg), Gl mdBegin σ0 σ' → I2 σ' → (∀ k, k ≤ 2 → knP N p i σ0 σ' k) → frP N p 3 σ' → Rn PRG (5 + 1) 257 128 [(0, .ref 97), (1, .int x1), (2, .int x2), (3, .int x3), (4, .int (x4 + (1 : Int32)))] [] (s1 σ' 133 k y) (fun v σ' => v = none ∧ bdP N p i σ0 σ') := by
      intro y σ' a1 a2 a3 a4
      have g : Gl mdBegin σ0 (s1 σ' 133 k y) := wrG (κ := 89) (a := 0) (b := 15) (vl := FL) (vh := FH) rfl rfl a1 rfl (Nat.zero_le _) (by clear hx4; omega) (w_lo _) (w_hi _)
      have g' : Gl [(89, 0, 15)] σ' (s1 σ' 133 k y) := wrG (κ := 89) (a := 0) (b := 15) (vl := FL) (vh := FH) rfl rfl (Gl.refl a1.1) rfl (Nat.zero_le _) (by clear hx4; omega) (w_lo _) (w_hi _)
      have hh := kp (σ := σ') (σ' := s1 σ' 133 k y) (fun k => s1_off (by omega)) (fun k => s1_off (by omega)) (fun k => s1_off (by omega)) (s1_off (by omega)) (fun k => s1_off (by omega)) ⟨a3, a4⟩
      exact ih (k + 1) _ _ (by omega) hx4 g (a2.keep g' rfl) hh.1 hh.2
    rw [cn_of h4]
    refine ⟨hin, fun _ => ⟨hin, next 0 σ hG hI hK hF⟩, fun _ => ⟨_, appliesAt_OK hG.1 hI h4 (by clear hx4; omega), fun w2 σ1 hq => ⟨hin, ?_⟩⟩⟩
    have hh := kp (σ := σ) (σ' := σ1) (fun k => hq.1.get (q := 130) (κ := 86) rfl rfl) (fun k => hq.1.get (q := 131) (κ := 87) rfl rfl) (fun k => hq.1.get (q := 132) (κ := 88) rfl rfl) (hq.1.get (q := 97) (κ := 12) rfl rfl) (fun k => hq.1.get (q := 129) (κ := 85) rfl rfl) ⟨hK, hF⟩
    exact next w2 σ1 (hG.trans hq.1 rfl) hq.2 hh.1 hh.2
theorem bd_39 {N p i : Nat} {x1 x2 x3 : Int32} {σ0 : Sg} (hP : pack N σ0) (h1 : x1.toInt = (p : Int)) (hp : p ≤ 3) (h2 : x2.toInt = (i : Int)) (hi : i ≤ 16) (hc : ∀ k, k < i → 0 ≤ (σ0.1 126 k).toInt) : ∀ (m k : Nat) (x4 : Int32) (σ : Sg), k + m = 3 → x4.toInt = (k : Int) → Gl mdBegin σ0 σ → I2 σ → (∀ j, j < k → knP N p i σ0 σ j) → frP N p k σ → Rn PRG (5 + 1) 257 39 [(0, .ref 97), (1, .int x1), (2, .int x2), (3, .int x3), (4, .int x4)] [] σ (fun v σ' => v = none ∧ bdP N p i σ0 σ') := by
  have three : (3 : Int32).toInt = 3 := by decide
  have hN := hP.le
  intro m
  induction m with
  | zero =>
    intro k x4 σ hk h4 hG hI hK hF
    have : k = 3 := by omega
    subst this
    exact w_257_39 σ x1 x2 x3 x4 ⟨fun _ => bd_128 h2 hi i 0 0 σ (by omega) rfl hG hI (fun j hj => hK j (by omega)) hF, fun c => absurd (by rw [le_i three h4]; omega) c⟩
  | succ m ih =>
    intro k x4 σ hk h4 hG hI hK hF
    refine w_257_39 σ x1 x2 x3 x4 ⟨fun c => ?_, fun c => ?_⟩
    · rw [le_i three h4] at c; omega
    clear c
    have hx4 : (x4 + (1 : Int32)).toInt = ((k + 1 : Nat) : Int) := by
      rw [add_lit (k := 1) h4 (by decide) (by unfold FL; omega) (by unfold FH; omega)]; push_cast; rfl
    have hin : inR x4 3 = true := inR_ok (by clear hx4; omega) (by clear hx4; omega)
    have eo := oth_ex h1 h4 hp (by clear hx4; omega)
    generalize (((x1 + (1 : Int32)) + x4) - ((x1 + (1 : Int32)) + x4) / (4 : Int32) * (4 : Int32)) = o at eo ⊢
    rw [cn_of h4]
    have g1 : Gl mdBegin σ0 (s1 σ 130 k o) := wrG (κ := 86) (a := 0) (b := 2) (vl := 0) (vh := 3) rfl rfl hG rfl (Nat.zero_le _) (by clear hx4; omega) (by rw [eo]; clear hx4 eo; omega) (by rw [eo]; clear hx4 eo; omega)
    rw [s1_on]
    refine ⟨hin, hin, _, playedBy_OK g1.1 h2 hi, fun w2 σ1 hq => ⟨hin, ?_⟩⟩
    obtain ⟨rfl, hw2⟩ := hq
    have b127 : ∀ j, (s1 σ 130 k o).1 127 j = σ0.1 127 j := fun j => g1.get (q := 127) (κ := 83) rfl rfl
    have b126 : ∀ j, (s1 σ 130 k o).1 126 j = σ0.1 126 j := fun j => g1.get (q := 126) (κ := 82) rfl rfl
    have hw : pbP σ0 o i w2 := by
      unfold pbP at hw2 ⊢
      simp only [b127, b126] at hw2
      exact hw2
    clear hw2
    have hr2 := hw.2 hc
    have g2 := wrG (x := w2) (q := 131) (k := k) (κ := 87) (a := 0) (b := 2) (vl := 0) (vh := 65535) rfl rfl g1 rfl (Nat.zero_le _) (by clear hx4; omega) hr2.1 hr2.2
    have hP2 : pack N (s1 (s1 σ 130 k o) 131 k w2) := by
      have e18 : (s1 (s1 σ 130 k o) 131 k w2).1 97 18 = σ0.1 97 18 := g2.get (q := 97) (κ := 12) rfl rfl
      exact pack_of e18 (g2.get (q := 106) (κ := 62) rfl rfl) (g2.get (q := 107) (κ := 63) rfl rfl) hP
    refine ⟨_, handSize_OK g2.1 hP2, fun w4 σ3 hq => ⟨hin, ?_⟩⟩
    obtain ⟨rfl, hw4⟩ := hq
    refine ⟨_, bits_ok, fun w6 σ5 hq => ⟨hin, hin, ?_⟩⟩
    obtain ⟨rfl, hw6⟩ := hq
    rw [s1_on] at hw6 ⊢
    have e59 : (s1 (s1 σ 130 k o) 131 k w2).1 97 59 = σ.1 97 59 := by rw [s1_off (by omega), s1_off (by omega)]
    rw [e59]
    have hpl := pop_le w2
    have en : (w4 - w6).toInt = ((N / 4 : Nat) : Int) - ((pop w2 : Nat) : Int) := by
      rw [sub_ex (by rw [hw4, hw6]; unfold FL; clear hx4 eo; omega) (by rw [hw4, hw6]; unfold FH; clear hx4 eo; omega), hw4, hw6]
    have f59 := tyF hG.1 (q := 97) (κ := 12) (k := 59) (lo := 0) (hi := 65535) rfl rfl
    have hnn := and_nn (y := w2 ^^^ (-1 : Int32)) f59.1
    have g3 := wrG (x := w4 - w6) (q := 132) (k := k) (κ := 88) (a := 0) (b := 2) (vl := FL) (vh := FH) rfl rfl g2 rfl (Nat.zero_le _) (by clear hx4 eo; omega) (w_lo _) (w_hi _)
    have g4 := wrG (x := (σ.1 97 59) &&& (w2 ^^^ (-1 : Int32))) (q := 97) (k := 59) (κ := 12) (a := 59) (b := 59) (vl := 0) (vh := 65535) rfl rfl g3 rfl (Nat.le_refl _) (Nat.le_refl _) hnn.1 (by clear hx4 eo; omega)
    generalize hσ9 : s1 (s1 (s1 (s1 σ 130 k o) 131 k w2) 132 k (w4 - w6)) 97 59 ((σ.1 97 59) &&& (w2 ^^^ (-1 : Int32))) = σ9 at g4 ⊢
    have r130 : ∀ j, ¬ j = k → σ9.1 130 j = σ.1 130 j := fun j hj => by rw [← hσ9, s1_off (by omega), s1_off (by omega), s1_off (by omega), s1_off (fun h => hj h.2)]
    have r131 : ∀ j, ¬ j = k → σ9.1 131 j = σ.1 131 j := fun j hj => by rw [← hσ9, s1_off (by omega), s1_off (by omega), s1_off (fun h => hj h.2), s1_off (by omega)]
    have r132 : ∀ j, ¬ j = k → σ9.1 132 j = σ.1 132 j := fun j hj => by rw [← hσ9, s1_off (by omega), s1_off (fun h => hj h.2), s1_off (by omega), s1_off (by omega)]
    have q130 : σ9.1 130 k = o := by rw [← hσ9, s1_off (by omega), s1_off (by omega), s1_off (by omega), s1_on]
    have q131 : σ9.1 131 k = w2 := by rw [← hσ9, s1_off (by omega), s1_off (by omega), s1_on]
    have q132 : σ9.1 132 k = w4 - w6 := by rw [← hσ9, s1_off (by omega), s1_on]
    have q59 : σ9.1 97 59 = ((σ.1 97 59) &&& (w2 ^^^ (-1 : Int32))) := by rw [← hσ9, s1_on]
    have q129 : ∀ j, σ9.1 129 j = σ.1 129 j := fun j => by rw [← hσ9, s1_off (by omega), s1_off (by omega), s1_off (by omega), s1_off (by omega)]
    refine ih (k + 1) _ σ9 (by omega) hx4 g4 ?_ (fun j hj => ?_) (fun b hb => ?_)
    · have gg : Gl [(86, 0, 2)] σ (s1 σ 130 k o) := wrG (κ := 86) (a := 0) (b := 2) (vl := 0) (vh := 3) rfl rfl (Gl.refl hG.1) rfl (Nat.zero_le _) (by clear hx4 eo; omega) (by rw [eo]; clear hx4 eo; omega) (by rw [eo]; clear hx4 eo; omega)
      have i1 := hI.keep gg rfl
      have gg2 : Gl [(87, 0, 2)] (s1 σ 130 k o) (s1 (s1 σ 130 k o) 131 k w2) := wrG (κ := 87) (a := 0) (b := 2) (vl := 0) (vh := 65535) rfl rfl (Gl.refl gg.1) rfl (Nat.zero_le _) (by clear hx4 eo; omega) hr2.1 hr2.2
      have i2 := i1.keep gg2 rfl
      have gg3 : Gl [(88, 0, 2)] (s1 (s1 σ 130 k o) 131 k w2) (s1 (s1 (s1 σ 130 k o) 131 k w2) 132 k (w4 - w6)) := wrG (κ := 88) (a := 0) (b := 2) (vl := FL) (vh := FH) rfl rfl (Gl.refl gg2.1) rfl (Nat.zero_le _) (by clear hx4 eo; omega) (w_lo _) (w_hi _)
      have i3 := i2.keep gg3 rfl
      have gg4 : Gl [(12, 59, 59)] (s1 (s1 (s1 σ 130 k o) 131 k w2) 132 k (w4 - w6)) σ9 := by
        rw [← hσ9]
        exact wrG (κ := 12) (a := 59) (b := 59) (vl := 0) (vh := 65535) rfl rfl (Gl.refl gg3.1) rfl (Nat.le_refl _) (Nat.le_refl _) hnn.1 (by clear hx4 eo; omega)
      exact i3.keep gg4 rfl
    · by_cases hjk : j = k
      · subst hjk
        unfold knP
        rw [q130, q131, q132]
        exact ⟨eo, hw, en⟩
      · unfold knP
        rw [r130 j hjk, r131 j hjk, r132 j hjk]
        exact hK j (by omega)
    · rw [q59, bt_and, bt_not _ hb, hF b hb, q129, List.range_succ, List.any_append]
      have ea : (List.range k).any (fun j => bt (σ9.1 131 j) b) = (List.range k).any (fun j => bt (σ.1 131 j) b) := by
        apply any_cong
        intro j hj
        rw [List.mem_range] at hj
        rw [r131 j (by omega)]
      rw [ea]
      simp only [List.any_cons, List.any_nil, Bool.or_false, q131, Bool.not_or, Bool.and_assoc]
theorem beginDeals_OK {N p i : Nat} {x1 x2 x3 : Int32} {σ : Sg} (ht : typed TYP σ) (hI : I2 σ) (hP : pack N σ) (h1 : x1.toInt = (p : Int)) (hp : p ≤ 3) (h2 : x2.toInt = (i : Int)) (hi : i ≤ 16) (hc : ∀ k, k < i → 0 ≤ (σ.1 126 k).toInt) : OkV PRG 6 257 [.ref 97, .int x1, .int x2, .int x3] σ (bdP N p i σ) := by
  have hin : inR x1 4 = true := inR_ok (by omega) (by omega)
  have g1 : Gl mdBegin σ (s1 σ 97 53 x1) := wrG (κ := 12) (a := 53) (b := 53) (vl := 0) (vh := 3) rfl rfl (Gl.refl ht) rfl (Nat.le_refl _) (Nat.le_refl _) (by omega) (by omega)
  have g2 := wrG (x := x2) (q := 97) (k := 54) (κ := 12) (a := 54) (b := 54) (vl := 0) (vh := 16) rfl rfl g1 rfl (Nat.le_refl _) (Nat.le_refl _) (by omega) (by omega)
  have g3 := wrG (x := x3) (q := 97) (k := 55) (κ := 12) (a := 55) (b := 55) (vl := FL) (vh := FH) rfl rfl g2 rfl (Nat.le_refl _) (Nat.le_refl _) (w_lo _) (w_hi _)
  have m1 : Gl [(12, 53, 55)] σ (s1 σ 97 53 x1) := wrG (κ := 12) (a := 53) (b := 53) (vl := 0) (vh := 3) rfl rfl (Gl.refl ht) rfl (Nat.le_refl _) (Nat.le_refl _) (by omega) (by omega)
  have m2 := wrG (x := x2) (q := 97) (k := 54) (κ := 12) (a := 54) (b := 54) (vl := 0) (vh := 16) rfl rfl m1 rfl (Nat.le_refl _) (Nat.le_refl _) (by omega) (by omega)
  have m3 := wrG (x := x3) (q := 97) (k := 55) (κ := 12) (a := 55) (b := 55) (vl := FL) (vh := FH) rfl rfl m2 rfl (Nat.le_refl _) (Nat.le_refl _) (w_lo _) (w_hi _)
  have hI3 := hI.keep m3 rfl
  have e129 : ∀ k, (s1 (s1 (s1 σ 97 53 x1) 97 54 x2) 97 55 x3).1 129 k = σ.1 129 k := fun k => by rw [s1_off (by omega), s1_off (by omega), s1_off (by omega)]
  have hP3 : pack N (s1 (s1 (s1 σ 97 53 x1) 97 54 x2) 97 55 x3) := pack_of (g3.get (q := 97) (κ := 12) rfl rfl) (g3.get (q := 106) (κ := 62) rfl rfl) (g3.get (q := 107) (κ := 63) rfl rfl) hP
  refine ⟨M_257, rfl, Nat.le_of_ble_eq_true rfl, w_257_0 σ x1 x2 x3 ⟨_, cards_OK g3.1 hP3, fun w2 σ1 hq => ⟨hin, ?_⟩⟩⟩
  obtain ⟨rfl, hw⟩ := hq
  rw [cn_of h1, e129]
  have ew : w2 = nI N := i_nI hw (by have := hP.le; omega)
  subst ew
  obtain ⟨a1, a2, a3⟩ := all_bt N hP.1
  have hnn := and_nn (y := (σ.1 129 p) ^^^ (-1 : Int32)) a2
  have g4 := wrG (x := (((1 : Int32) <<< (nI N &&& 31)) - (1 : Int32)) &&& ((σ.1 129 p) ^^^ (-1 : Int32))) (q := 97) (k := 59) (κ := 12) (a := 59) (b := 59) (vl := 0) (vh := 65535) rfl rfl g3 rfl (Nat.le_refl _) (Nat.le_refl _) hnn.1 (by omega)
  have g5 : Gl [(12, 59, 59)] (s1 (s1 (s1 σ 97 53 x1) 97 54 x2) 97 55 x3) (s1 (s1 (s1 (s1 σ 97 53 x1) 97 54 x2) 97 55 x3) 97 59 ((((1 : Int32) <<< (nI N &&& 31)) - (1 : Int32)) &&& ((σ.1 129 p) ^^^ (-1 : Int32)))) := wrG (κ := 12) (a := 59) (b := 59) (vl := 0) (vh := 65535) rfl rfl (Gl.refl g3.1) rfl (Nat.le_refl _) (Nat.le_refl _) hnn.1 (by omega)
  refine bd_39 hP h1 hp h2 hi hc 3 0 0 _ rfl rfl g4 (hI3.keep g5 rfl) (fun j hj => absurd hj (by omega)) (fun b hb => ?_)
  rw [s1_on, bt_and, bt_not _ hb, a1 b hb, s1_off (by omega), e129]
  simp
