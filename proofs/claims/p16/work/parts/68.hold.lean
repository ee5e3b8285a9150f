/-! hold, restore: what must hold -/
set_option maxRecDepth 100000 in
theorem w_321_0 {d : Nat} {Q : Option Value → Sg → Prop} (σ : Sg) (x1 : Int32) (h : (∃ Qc : Int32 → Sg → Prop, OkI PRG d 195 [.int x1, .int (0 : Int32), .int (1 : Int32)] σ Qc ∧ ∀ w2 σ1, Qc w2 σ1 → ((w2 = 0 → Q (some (.int (0 : Int32))) σ1) ∧ (¬ w2 = 0 → (((σ1.1 97 45) = 0 → Q (some (.int (0 : Int32))) σ1) ∧ (¬ (σ1.1 97 45) = 0 → (inR x1 2 = true ∧ (inR x1 2 = true ∧ (inR x1 2 = true ∧ Rn PRG (d + 1) 321 47 [(0, .ref 97), (1, .int x1), (2, .int (0 : Int32))] [] (s1 (s1 (s1 σ1 152 x1.toNatClampNeg (vp_nar .boolean (1 : Int32))) 154 x1.toNatClampNeg (σ1.1 97 47)) 155 x1.toNatClampNeg (σ1.1 97 48)) Q))))))))) : Rn PRG (d + 1) 321 0 [(0, .ref 97), (1, .int x1)] [] σ Q := by
  have hM : PRG[321]? = some M_321 := rfl
  refine Rn.seg (pc' := 3) (ls' := [(0, .ref 97), (1, .int x1)]) (st' := [.int (1 : Int32), .int (0 : Int32), .int x1]) (σ' := σ) hM 3 rfl ?_
  obtain ⟨Qc, hq, h⟩ := h
  refine Rn.cI hM rfl rfl (by decide) hq (fun w2 σ1 hw => ?_)
  replace h := h w2 σ1 hw
  refine Rn.br (c := w2 = 0) (a := 16) (b := 9) (ls' := [(0, .ref 97), (1, .int x1)]) (st' := []) (σ' := σ1) hM 1 rfl (fun c => ?_) (fun c => ?_)
  · replace h := h.1 c
    refine Rn.seg (pc' := 17) (ls' := [(0, .ref 97), (1, .int x1)]) (st' := [.int (0 : Int32)]) (σ' := σ1) hM 1 rfl ?_
    exact Rn.ret hM rfl rfl h
  · replace h := h.2 c
    refine Rn.brN (c := (σ1.1 97 45) = 0) (a := 18) (b := 16) (ls' := [(0, .ref 97), (1, .int x1)]) (st' := []) (σ' := σ1) hM 3 rfl (fun c => ?_) (fun c => ?_)
    · replace h := h.2 c
      refine Rn.seg (pc' := 24) (ls' := [(0, .ref 97), (1, .int x1)]) (st' := [.int (1 : Int32), .int x1, .ref 152]) (σ' := σ1) hM 4 rfl ?_
      refine Rn.bast3 hM rfl rfl h.1 ?_
      refine Rn.seg (pc' := 34) (ls' := [(0, .ref 97), (1, .int x1)]) (st' := [.int (σ1.1 97 47), .int x1, .ref 154]) (σ' := (s1 σ1 152 x1.toNatClampNeg (vp_nar .boolean (1 : Int32)))) hM 5 rfl ?_
      refine Rn.iast hM rfl rfl h.2.1 ?_
      refine Rn.seg (pc' := 44) (ls' := [(0, .ref 97), (1, .int x1)]) (st' := [.int (σ1.1 97 48), .int x1, .ref 155]) (σ' := (s1 (s1 σ1 152 x1.toNatClampNeg (vp_nar .boolean (1 : Int32))) 154 x1.toNatClampNeg (σ1.1 97 47))) hM 5 rfl ?_
      refine Rn.iast hM rfl rfl h.2.2.1 ?_
      refine Rn.seg (pc' := 47) (ls' := [(2, .int (0 : Int32)), (0, .ref 97), (1, .int x1)]) (st' := []) (σ' := (s1 (s1 (s1 σ1 152 x1.toNatClampNeg (vp_nar .boolean (1 : Int32))) 154 x1.toNatClampNeg (σ1.1 97 47)) 155 x1.toNatClampNeg (σ1.1 97 48))) hM 2 rfl ?_
      exact Rn.sub h.2.2.2 (subL_cons rfl (subL_cons rfl (subL_cons rfl subL_nil))) (show ndL _ from (by decide : List.Nodup ([0, 1, 2] : List Nat)))
    · replace h := h.1 c
      refine Rn.seg (pc' := 17) (ls' := [(0, .ref 97), (1, .int x1)]) (st' := [.int (0 : Int32)]) (σ' := σ1) hM 1 rfl ?_
      exact Rn.ret hM rfl rfl h
set_option maxRecDepth 100000 in
theorem w_321_47 {d : Nat} {Q : Option Value → Sg → Prop} (σ : Sg) (x1 x2 : Int32) (h : (((4 : Int32) ≤ x2 → Rn PRG (d + 1) 321 76 [(0, .ref 97), (1, .int x1), (2, .int (0 : Int32))] [] σ Q) ∧ (¬ (4 : Int32) ≤ x2 → (inR x2 4 = true ∧ (inR (((4 : Int32) * x1) + x2) 8 = true ∧ Rn PRG (d + 1) 321 47 [(0, .ref 97), (1, .int x1), (2, .int (x2 + (1 : Int32)))] [] (s1 σ 153 (((4 : Int32) * x1) + x2).toNatClampNeg (σ.1 125 x2.toNatClampNeg)) Q))))) : Rn PRG (d + 1) 321 47 [(0, .ref 97), (1, .int x1), (2, .int x2)] [] σ Q := by
  have hM : PRG[321]? = some M_321 := rfl
  refine Rn.br (c := (4 : Int32) ≤ x2) (a := 74) (b := 52) (ls' := [(0, .ref 97), (1, .int x1), (2, .int x2)]) (st' := []) (σ' := σ) hM 3 rfl (fun c => ?_) (fun c => ?_)
  · replace h := h.1 c
    refine Rn.seg (pc' := 76) (ls' := [(2, .int (0 : Int32)), (0, .ref 97), (1, .int x1)]) (st' := []) (σ' := σ) hM 2 rfl ?_
    exact Rn.sub h (subL_cons rfl (subL_cons rfl (subL_cons rfl subL_nil))) (show ndL _ from (by decide : List.Nodup ([0, 1, 2] : List Nat)))
  · replace h := h.2 c
    refine Rn.seg (pc' := 66) (ls' := [(0, .ref 97), (1, .int x1), (2, .int x2)]) (st' := [.int x2, .ref 125, .int (((4 : Int32) * x1) + x2), .ref 153]) (σ' := σ) hM 10 rfl ?_
    refine Rn.iald hM rfl rfl h.1 ?_
    refine Rn.seg (pc' := 67) (ls' := [(0, .ref 97), (1, .int x1), (2, .int x2)]) (st' := [.int (σ.1 125 x2.toNatClampNeg), .int (((4 : Int32) * x1) + x2), .ref 153]) (σ' := σ) hM 0 rfl ?_
    refine Rn.iast hM rfl rfl h.2.1 ?_
    refine Rn.seg (pc' := 47) (ls' := [(2, .int (x2 + (1 : Int32))), (0, .ref 97), (1, .int x1)]) (st' := []) (σ' := (s1 σ 153 (((4 : Int32) * x1) + x2).toNatClampNeg (σ.1 125 x2.toNatClampNeg))) hM 2 rfl ?_
    exact Rn.sub h.2.2 (subL_cons rfl (subL_cons rfl (subL_cons rfl subL_nil))) (show ndL _ from (by decide : List.Nodup ([0, 1, 2] : List Nat)))
set_option maxRecDepth 100000 in
theorem w_321_76 {d : Nat} {Q : Option Value → Sg → Prop} (σ : Sg) (x1 x2 : Int32) (h : (((σ.1 97 48) ≤ x2 → Q (some (.int (1 : Int32))) σ) ∧ (¬ (σ.1 97 48) ≤ x2 → (inR x2 16 = true ∧ (inR (((16 : Int32) * x1) + x2) 32 = true ∧ (inR x2 16 = true ∧ (inR (((16 : Int32) * x1) + x2) 32 = true ∧ Rn PRG (d + 1) 321 76 [(0, .ref 97), (1, .int x1), (2, .int (x2 + (1 : Int32)))] [] (s1 (s1 σ 156 (((16 : Int32) * x1) + x2).toNatClampNeg (σ.1 126 x2.toNatClampNeg)) 157 (((16 : Int32) * x1) + x2).toNatClampNeg (σ.1 127 x2.toNatClampNeg)) Q))))))) : Rn PRG (d + 1) 321 76 [(0, .ref 97), (1, .int x1), (2, .int x2)] [] σ Q := by
  have hM : PRG[321]? = some M_321 := rfl
  refine Rn.br (c := (σ.1 97 48) ≤ x2) (a := 124) (b := 84) (ls' := [(0, .ref 97), (1, .int x1), (2, .int x2)]) (st' := []) (σ' := σ) hM 4 rfl (fun c => ?_) (fun c => ?_)
  · replace h := h.1 c
    refine Rn.seg (pc' := 125) (ls' := [(0, .ref 97), (1, .int x1), (2, .int x2)]) (st' := [.int (1 : Int32)]) (σ' := σ) hM 1 rfl ?_
    exact Rn.ret hM rfl rfl h
  · replace h := h.2 c
    refine Rn.seg (pc' := 99) (ls' := [(0, .ref 97), (1, .int x1), (2, .int x2)]) (st' := [.int x2, .ref 126, .int (((16 : Int32) * x1) + x2), .ref 156]) (σ' := σ) hM 10 rfl ?_
    refine Rn.iald hM rfl rfl h.1 ?_
    refine Rn.seg (pc' := 100) (ls' := [(0, .ref 97), (1, .int x1), (2, .int x2)]) (st' := [.int (σ.1 126 x2.toNatClampNeg), .int (((16 : Int32) * x1) + x2), .ref 156]) (σ' := σ) hM 0 rfl ?_
    refine Rn.iast hM rfl rfl h.2.1 ?_
    refine Rn.seg (pc' := 116) (ls' := [(0, .ref 97), (1, .int x1), (2, .int x2)]) (st' := [.int x2, .ref 127, .int (((16 : Int32) * x1) + x2), .ref 157]) (σ' := (s1 σ 156 (((16 : Int32) * x1) + x2).toNatClampNeg (σ.1 126 x2.toNatClampNeg))) hM 10 rfl ?_
    refine Rn.iald hM rfl rfl h.2.2.1 ?_
    refine Rn.seg (pc' := 117) (ls' := [(0, .ref 97), (1, .int x1), (2, .int x2)]) (st' := [.int (σ.1 127 x2.toNatClampNeg), .int (((16 : Int32) * x1) + x2), .ref 157]) (σ' := (s1 σ 156 (((16 : Int32) * x1) + x2).toNatClampNeg (σ.1 126 x2.toNatClampNeg))) hM 0 rfl ?_
    refine Rn.iast hM rfl rfl h.2.2.2.1 ?_
    refine Rn.seg (pc' := 76) (ls' := [(2, .int (x2 + (1 : Int32))), (0, .ref 97), (1, .int x1)]) (st' := []) (σ' := (s1 (s1 σ 156 (((16 : Int32) * x1) + x2).toNatClampNeg (σ.1 126 x2.toNatClampNeg)) 157 (((16 : Int32) * x1) + x2).toNatClampNeg (σ.1 127 x2.toNatClampNeg))) hM 2 rfl ?_
    exact Rn.sub h.2.2.2.2 (subL_cons rfl (subL_cons rfl (subL_cons rfl subL_nil))) (show ndL _ from (by decide : List.Nodup ([0, 1, 2] : List Nat)))
set_option maxRecDepth 100000 in
theorem w_322_0 {d : Nat} {Q : Option Value → Sg → Prop} (σ : Sg) (x1 : Int32) (h : (∃ Qc : Int32 → Sg → Prop, OkI PRG d 195 [.int x1, .int (0 : Int32), .int (1 : Int32)] σ Qc ∧ ∀ w2 σ1, Qc w2 σ1 → ((w2 = 0 → Q (some (.int (0 : Int32))) σ1) ∧ (¬ w2 = 0 → (inR x1 2 = true ∧ (((σ1.1 152 x1.toNatClampNeg) = 0 → Q (some (.int (0 : Int32))) σ1) ∧ (¬ (σ1.1 152 x1.toNatClampNeg) = 0 → (inR x1 2 = true ∧ (inR x1 2 = true ∧ Rn PRG (d + 1) 322 47 [(0, .ref 97), (1, .int x1), (2, .int (0 : Int32))] [] (s1 (s1 (s1 σ1 97 45 (1 : Int32)) 97 47 (σ1.1 154 x1.toNatClampNeg)) 97 48 (σ1.1 155 x1.toNatClampNeg)) Q))))))))) : Rn PRG (d + 1) 322 0 [(0, .ref 97), (1, .int x1)] [] σ Q := by
  have hM : PRG[322]? = some M_322 := rfl
  refine Rn.seg (pc' := 3) (ls' := [(0, .ref 97), (1, .int x1)]) (st' := [.int (1 : Int32), .int (0 : Int32), .int x1]) (σ' := σ) hM 3 rfl ?_
  obtain ⟨Qc, hq, h⟩ := h
  refine Rn.cI hM rfl rfl (by decide) hq (fun w2 σ1 hw => ?_)
  replace h := h w2 σ1 hw
  refine Rn.br (c := w2 = 0) (a := 18) (b := 9) (ls' := [(0, .ref 97), (1, .int x1)]) (st' := []) (σ' := σ1) hM 1 rfl (fun c => ?_) (fun c => ?_)
  · replace h := h.1 c
    refine Rn.seg (pc' := 19) (ls' := [(0, .ref 97), (1, .int x1)]) (st' := [.int (0 : Int32)]) (σ' := σ1) hM 1 rfl ?_
    exact Rn.ret hM rfl rfl h
  · replace h := h.2 c
    refine Rn.seg (pc' := 14) (ls' := [(0, .ref 97), (1, .int x1)]) (st' := [.int x1, .ref 152]) (σ' := σ1) hM 3 rfl ?_
    refine Rn.bald3 hM rfl rfl h.1 ?_
    refine Rn.brN (c := (σ1.1 152 x1.toNatClampNeg) = 0) (a := 20) (b := 18) (ls' := [(0, .ref 97), (1, .int x1)]) (st' := []) (σ' := σ1) hM 1 rfl (fun c => ?_) (fun c => ?_)
    · replace h := h.2.2 c
      refine Rn.seg (pc' := 31) (ls' := [(0, .ref 97), (1, .int x1)]) (st' := [.int x1, .ref 154, .ref 97]) (σ' := (s1 σ1 97 45 (1 : Int32))) hM 7 rfl ?_
      refine Rn.iald hM rfl rfl h.1 ?_
      refine Rn.seg (pc' := 41) (ls' := [(0, .ref 97), (1, .int x1)]) (st' := [.int x1, .ref 155, .ref 97]) (σ' := (s1 (s1 σ1 97 45 (1 : Int32)) 97 47 (σ1.1 154 x1.toNatClampNeg))) hM 5 rfl ?_
      refine Rn.iald hM rfl rfl h.2.1 ?_
      refine Rn.seg (pc' := 47) (ls' := [(2, .int (0 : Int32)), (0, .ref 97), (1, .int x1)]) (st' := []) (σ' := (s1 (s1 (s1 σ1 97 45 (1 : Int32)) 97 47 (σ1.1 154 x1.toNatClampNeg)) 97 48 (σ1.1 155 x1.toNatClampNeg))) hM 3 rfl ?_
      exact Rn.sub h.2.2 (subL_cons rfl (subL_cons rfl (subL_cons rfl subL_nil))) (show ndL _ from (by decide : List.Nodup ([0, 1, 2] : List Nat)))
    · replace h := h.2.1 c
      refine Rn.seg (pc' := 19) (ls' := [(0, .ref 97), (1, .int x1)]) (st' := [.int (0 : Int32)]) (σ' := σ1) hM 1 rfl ?_
      exact Rn.ret hM rfl rfl h
set_option maxRecDepth 100000 in
theorem w_322_47 {d : Nat} {Q : Option Value → Sg → Prop} (σ : Sg) (x1 x2 : Int32) (h : (((4 : Int32) ≤ x2 → Rn PRG (d + 1) 322 76 [(0, .ref 97), (1, .int x1), (2, .int (0 : Int32))] [] σ Q) ∧ (¬ (4 : Int32) ≤ x2 → (inR (((4 : Int32) * x1) + x2) 8 = true ∧ (inR x2 4 = true ∧ Rn PRG (d + 1) 322 47 [(0, .ref 97), (1, .int x1), (2, .int (x2 + (1 : Int32)))] [] (s1 σ 125 x2.toNatClampNeg (σ.1 153 (((4 : Int32) * x1) + x2).toNatClampNeg)) Q))))) : Rn PRG (d + 1) 322 47 [(0, .ref 97), (1, .int x1), (2, .int x2)] [] σ Q := by
  have hM : PRG[322]? = some M_322 := rfl
  refine Rn.br (c := (4 : Int32) ≤ x2) (a := 74) (b := 52) (ls' := [(0, .ref 97), (1, .int x1), (2, .int x2)]) (st' := []) (σ' := σ) hM 3 rfl (fun c => ?_) (fun c => ?_)
  · replace h := h.1 c
    refine Rn.seg (pc' := 76) (ls' := [(2, .int (0 : Int32)), (0, .ref 97), (1, .int x1)]) (st' := []) (σ' := σ) hM 2 rfl ?_
    exact Rn.sub h (subL_cons rfl (subL_cons rfl (subL_cons rfl subL_nil))) (show ndL _ from (by decide : List.Nodup ([0, 1, 2] : List Nat)))
  · replace h := h.2 c
    refine Rn.seg (pc' := 66) (ls' := [(0, .ref 97), (1, .int x1), (2, .int x2)]) (st' := [.int (((4 : Int32) * x1) + x2), .ref 153, .int x2, .ref 125]) (σ' := σ) hM 10 rfl ?_
    refine Rn.iald hM rfl rfl h.1 ?_
    refine Rn.seg (pc' := 67) (ls' := [(0, .ref 97), (1, .int x1), (2, .int x2)]) (st' := [.int (σ.1 153 (((4 : Int32) * x1) + x2).toNatClampNeg), .int x2, .ref 125]) (σ' := σ) hM 0 rfl ?_
    refine Rn.iast hM rfl rfl h.2.1 ?_
    refine Rn.seg (pc' := 47) (ls' := [(2, .int (x2 + (1 : Int32))), (0, .ref 97), (1, .int x1)]) (st' := []) (σ' := (s1 σ 125 x2.toNatClampNeg (σ.1 153 (((4 : Int32) * x1) + x2).toNatClampNeg))) hM 2 rfl ?_
    exact Rn.sub h.2.2 (subL_cons rfl (subL_cons rfl (subL_cons rfl subL_nil))) (show ndL _ from (by decide : List.Nodup ([0, 1, 2] : List Nat)))
set_option maxRecDepth 100000 in
theorem w_322_76 {d : Nat} {Q : Option Value → Sg → Prop} (σ : Sg) (x1 x2 : Int32) (h : (((σ.1 97 48) ≤ x2 → Q (some (.int (1 : Int32))) σ) ∧ (¬ (σ.1 97 48) ≤ x2 → (inR (((16 : Int32) * x1) + x2) 32 = true ∧ (inR x2 16 = true ∧ (inR (((16 : Int32) * x1) + x2) 32 = true ∧ (inR x2 16 = true ∧ Rn PRG (d + 1) 322 76 [(0, .ref 97), (1, .int x1), (2, .int (x2 + (1 : Int32)))] [] (s1 (s1 σ 126 x2.toNatClampNeg (σ.1 156 (((16 : Int32) * x1) + x2).toNatClampNeg)) 127 x2.toNatClampNeg (σ.1 157 (((16 : Int32) * x1) + x2).toNatClampNeg)) Q))))))) : Rn PRG (d + 1) 322 76 [(0, .ref 97), (1, .int x1), (2, .int x2)] [] σ Q := by
  have hM : PRG[322]? = some M_322 := rfl
  refine Rn.br (c := (σ.1 97 48) ≤ x2) (a := 124) (b := 84) (ls' := [(0, .ref 97), (1, .int x1), (2, .int x2)]) (st' := []) (σ' := σ) hM 4 rfl (fun c => ?_) (fun c => ?_)
  · replace h := h.1 c
    refine Rn.seg (pc' := 125) (ls' := [(0, .ref 97), (1, .int x1), (2, .int x2)]) (st' := [.int (1 : Int32)]) (σ' := σ) hM 1 rfl ?_
    exact Rn.ret hM rfl rfl h
  · replace h := h.2 c
    refine Rn.seg (pc' := 99) (ls' := [(0, .ref 97), (1, .int x1), (2, .int x2)]) (st' := [.int (((16 : Int32) * x1) + x2), .ref 156, .int x2, .ref 126]) (σ' := σ) hM 10 rfl ?_
    refine Rn.iald hM rfl rfl h.1 ?_
    refine Rn.seg (pc' := 100) (ls' := [(0, .ref 97), (1, .int x1), (2, .int x2)]) (st' := [.int (σ.1 156 (((16 : Int32) * x1) + x2).toNatClampNeg), .int x2, .ref 126]) (σ' := σ) hM 0 rfl ?_
    refine Rn.iast hM rfl rfl h.2.1 ?_
    refine Rn.seg (pc' := 116) (ls' := [(0, .ref 97), (1, .int x1), (2, .int x2)]) (st' := [.int (((16 : Int32) * x1) + x2), .ref 157, .int x2, .ref 127]) (σ' := (s1 σ 126 x2.toNatClampNeg (σ.1 156 (((16 : Int32) * x1) + x2).toNatClampNeg))) hM 10 rfl ?_
    refine Rn.iald hM rfl rfl h.2.2.1 ?_
    refine Rn.seg (pc' := 117) (ls' := [(0, .ref 97), (1, .int x1), (2, .int x2)]) (st' := [.int (σ.1 157 (((16 : Int32) * x1) + x2).toNatClampNeg), .int x2, .ref 127]) (σ' := (s1 σ 126 x2.toNatClampNeg (σ.1 156 (((16 : Int32) * x1) + x2).toNatClampNeg))) hM 0 rfl ?_
    refine Rn.iast hM rfl rfl h.2.2.2.1 ?_
    refine Rn.seg (pc' := 76) (ls' := [(2, .int (x2 + (1 : Int32))), (0, .ref 97), (1, .int x1)]) (st' := []) (σ' := (s1 (s1 σ 126 x2.toNatClampNeg (σ.1 156 (((16 : Int32) * x1) + x2).toNatClampNeg)) 127 x2.toNatClampNeg (σ.1 157 (((16 : Int32) * x1) + x2).toNatClampNeg))) hM 2 rfl ?_
    exact Rn.sub h.2.2.2.2 (subL_cons rfl (subL_cons rfl (subL_cons rfl subL_nil))) (show ndL _ from (by decide : List.Nodup ([0, 1, 2] : List Nat)))
/-! hold, restore -/
def mdHold : List (Nat × Nat × Nat) := [(108, 0, 1), (109, 0, 7), (110, 0, 1), (111, 0, 1), (112, 0, 31), (113, 0, 31)]
theorem sl_ix {x y : Int32} {s k c : Nat} {C : Int32} (hC : C.toInt = (c : Int)) (hc : c ≤ 16) (hx : x.toInt = (s : Int)) (hy : y.toInt = (k : Int)) (hs : s ≤ 1) (hk : k ≤ 15) : ((C * x) + y).toInt = ((c * s + k : Nat) : Int) := by
  have hcs : c * s ≤ 16 := by
    have : s = 0 ∨ s = 1 := by omega
    rcases this with rfl | rfl <;> omega
  have e1 : (C * x).toInt = ((c * s : Nat) : Int) := by
    rw [mul_ex (by rw [hC, hx]; unfold FL; have : ((c : Int) * (s : Int)) = ((c * s : Nat) : Int) := by push_cast; rfl
                   rw [this]; omega) (by rw [hC, hx]; unfold FH; have : ((c : Int) * (s : Int)) = ((c * s : Nat) : Int) := by push_cast; rfl
                                         rw [this]; omega), hC, hx]
    push_cast; rfl
  rw [add_ex (by rw [e1, hy]; unfold FL; omega) (by rw [e1, hy]; unfold FH; omega), e1, hy]
  push_cast; rfl
/-- what stands in slot s so far: i hands, j cards; the other slot is as it was -/
def hdI (s i j : Nat) (σ0 σ : Sg) : Prop := (∀ p, p < i → σ.1 153 (4 * s + p) = σ0.1 125 p) ∧ (∀ k, k < j → σ.1 156 (16 * s + k) = σ0.1 126 k ∧ σ.1 157 (16 * s + k) = σ0.1 127 k) ∧ σ.1 155 s = σ0.1 97 48 ∧ (∀ t, ¬ t = s → σ.1 152 t = σ0.1 152 t ∧ σ.1 155 t = σ0.1 155 t) ∧ (∀ m, ¬ (4 * s ≤ m ∧ m < 4 * s + 4) → σ.1 153 m = σ0.1 153 m) ∧ (∀ m, ¬ (16 * s ≤ m ∧ m < 16 * s + 16) → σ.1 156 m = σ0.1 156 m ∧ σ.1 157 m = σ0.1 157 m)
theorem hold_76 {d N n s : Nat} {x1 : Int32} {σ0 : Sg} (h : GI N σ0) (hd : ¬ (σ0.1 97 45) = 0) (hn : (σ0.1 97 48).toInt = (n : Int)) (hn16 : n ≤ 16) (h1 : x1.toInt = (s : Int)) (hs : s ≤ 1) : ∀ (m k : Nat) (x2 : Int32) (σ : Sg), k + m = n → x2.toInt = (k : Int) → Gl mdHold σ0 σ → hdI s 4 k σ0 σ → Rn PRG (d + 1) 321 76 [(0, .ref 97), (1, .int x1), (2, .int x2)] [] σ (fun v σ' => ∃ w : Int32, v = some (.int w) ∧ GI N σ') := by
  obtain ⟨ht, hI, hP, hT, hS, hH⟩ := h
  have hN := hP.le
  have hwn : wn (σ0.1 97 48) = n := by unfold wn; omega
  have fin : ∀ σ : Sg, Gl mdHold σ0 σ → hdI s 4 n σ0 σ → GI N σ := by
    intro σ hG hh
    obtain ⟨a1, a2, a3, a4, a5, a6⟩ := hh
    have e45 : σ.1 97 45 = σ0.1 97 45 := hG.get (q := 97) (κ := 12) rfl rfl
    have e48 : σ.1 97 48 = σ0.1 97 48 := hG.get (q := 97) (κ := 12) rfl rfl
    have e125 : ∀ k, σ.1 125 k = σ0.1 125 k := fun k => hG.get (q := 125) (κ := 81) rfl rfl
    have e126 : ∀ k, σ.1 126 k = σ0.1 126 k := fun k => hG.get (q := 126) (κ := 82) rfl rfl
    have e127 : ∀ k, σ.1 127 k = σ0.1 127 k := fun k => hG.get (q := 127) (κ := 83) rfl rfl
    refine ⟨hG.1, hI.keep hG rfl, pack_of (hG.get (q := 97) (κ := 12) rfl rfl) (hG.get (q := 106) (κ := 62) rfl rfl) (hG.get (q := 107) (κ := 63) rfl rfl) hP, hT.keep hG rfl, ⟨by rw [e45, e48]; exact hS.1, fun h0 => ?_⟩, fun t ht2 h0 => ?_⟩
    · rw [e45] at h0
      rw [e48]
      exact (hS.2 h0).congr (fun p _ => e125 p) (fun k _ => e126 k) (fun k _ => e127 k)
    · by_cases hts : t = s
      · subst hts
        rw [a3, hwn]
        have hpl := hS.2 hd
        rw [hwn] at hpl
        exact hpl.congr (fun p hp => a1 p (by omega)) (fun k hk => (a2 k hk).1) (fun k hk => (a2 k hk).2)
      · rw [(a4 t hts).1] at h0
        rw [(a4 t hts).2]
        have hpl := hH t ht2 h0
        have := hpl.1
        exact hpl.congr (fun p hp => a5 _ (by omega)) (fun k hk => (a6 _ (by omega)).1) (fun k hk => (a6 _ (by omega)).2)
  intro m
  induction m with
  | zero =>
    intro k x2 σ hk h2 hG hh
    have e48 : σ.1 97 48 = σ0.1 97 48 := hG.get (q := 97) (κ := 12) rfl rfl
    have hkn : k = n := by omega
    subst hkn
    exact w_321_76 σ x1 x2 ⟨fun _ => ⟨_, rfl, fin σ hG hh⟩, fun c => absurd (by rw [e48, le_i hn h2]; omega) c⟩
  | succ m ih =>
    intro k x2 σ hk h2 hG hh
    have e48 : σ.1 97 48 = σ0.1 97 48 := hG.get (q := 97) (κ := 12) rfl rfl
    have e126 : ∀ k, σ.1 126 k = σ0.1 126 k := fun k => hG.get (q := 126) (κ := 82) rfl rfl
    have e127 : ∀ k, σ.1 127 k = σ0.1 127 k := fun k => hG.get (q := 127) (κ := 83) rfl rfl
    have hx2 : (x2 + (1 : Int32)).toInt = ((k + 1 : Nat) : Int) := by
      rw [add_lit (k := 1) h2 (by decide) (by unfold FL; omega) (by unfold FH; omega)]; push_cast; rfl
    have ei := sl_ix (C := 16) (c := 16) (by decide) (by omega) h1 h2 hs (by clear hx2; omega)
    have hin : inR x2 16 = true := inR_ok (by clear hx2 ei; omega) (by clear hx2 ei; omega)
    have hin2 : inR (((16 : Int32) * x1) + x2) 32 = true := inR_ok (by rw [ei]; clear hx2 ei; omega) (by rw [ei]; clear hx2 ei; omega)
    refine w_321_76 σ x1 x2 ⟨fun c => ?_, fun _ => ⟨hin, hin2, hin, hin2, ?_⟩⟩
    · rw [e48, le_i hn h2] at c; clear hx2 ei; omega
    rw [cn_of ei, cn_of h2, e126, e127]
    clear ei hin2
    have hc := tyA ht (q := 126) (κ := 82) (k := k) (a := 0) (b := 15) (lo := -1) (hi := 15) rfl rfl (by omega) (by clear hx2; omega)
    have hw := tyA ht (q := 127) (κ := 83) (k := k) (a := 0) (b := 15) (lo := 0) (hi := 3) rfl rfl (by omega) (by clear hx2; omega)
    have g1 : Gl mdHold σ0 (s1 σ 156 (16 * s + k) (σ0.1 126 k)) := wrG (κ := 112) (a := 0) (b := 31) (vl := -1) (vh := 15) rfl rfl hG rfl (Nat.zero_le _) (by clear hx2; omega) hc.1 hc.2
    have g2 := wrG (x := σ0.1 127 k) (q := 157) (k := 16 * s + k) (κ := 113) (a := 0) (b := 31) (vl := 0) (vh := 3) rfl rfl g1 rfl (Nat.zero_le _) (by clear hx2; omega) hw.1 hw.2
    obtain ⟨a1, a2, a3, a4, a5, a6⟩ := hh
    refine ih (k + 1) _ _ (by omega) hx2 g2 ⟨fun p hp => ?_, fun j hj => ?_, ?_, fun t ht2 => ?_, fun q hq => ?_, fun q hq => ?_⟩
    · rw [s1_off (by omega), s1_off (by omega)]; exact a1 p hp
    · by_cases hjk : j = k
      · subst hjk
        exact ⟨by rw [s1_off (by omega), s1_on], by rw [s1_on]⟩
      · have := a2 j (by omega)
        exact ⟨by rw [s1_off (by omega), s1_off (by omega)]; exact this.1, by rw [s1_off (by omega), s1_off (by omega)]; exact this.2⟩
    · rw [s1_off (by omega), s1_off (by omega)]; exact a3
    · have := a4 t ht2
      exact ⟨by rw [s1_off (by omega), s1_off (by omega)]; exact this.1, by rw [s1_off (by omega), s1_off (by omega)]; exact this.2⟩
    · rw [s1_off (by omega), s1_off (by omega)]; exact a5 q hq
    · have := a6 q hq
      clear hx2
      exact ⟨by rw [s1_off (by omega), s1_off (by omega)]; exact this.1, by rw [s1_off (by omega), s1_off (by omega)]; exact this.2⟩
theorem hold_47 {d N n s : Nat} {x1 : Int32} {σ0 : Sg} (h : GI N σ0) (hd : ¬ (σ0.1 97 45) = 0) (hn : (σ0.1 97 48).toInt = (n : Int)) (hn16 : n ≤ 16) (h1 : x1.toInt = (s : Int)) (hs : s ≤ 1) : ∀ (m k : Nat) (x2 : Int32) (σ : Sg), k + m = 4 → x2.toInt = (k : Int) → Gl mdHold σ0 σ → hdI s k 0 σ0 σ → Rn PRG (d + 1) 321 47 [(0, .ref 97), (1, .int x1), (2, .int x2)] [] σ (fun v σ' => ∃ w : Int32, v = some (.int w) ∧ GI N σ') := by
  have four : (4 : Int32).toInt = 4 := by decide
  intro m
  induction m with
  | zero =>
    intro k x2 σ hk h2 hG hh
    have : k = 4 := by omega
    subst this
    exact w_321_47 σ x1 x2 ⟨fun _ => hold_76 h hd hn hn16 h1 hs n 0 0 σ (by omega) rfl hG hh, fun c => absurd (by rw [le_i four h2]; omega) c⟩
  | succ m ih =>
    intro k x2 σ hk h2 hG hh
    have e125 : ∀ k, σ.1 125 k = σ0.1 125 k := fun k => hG.get (q := 125) (κ := 81) rfl rfl
    have hx2 : (x2 + (1 : Int32)).toInt = ((k + 1 : Nat) : Int) := by
      rw [add_lit (k := 1) h2 (by decide) (by unfold FL; omega) (by unfold FH; omega)]; push_cast; rfl
    have ei := sl_ix (C := 4) (c := 4) (by decide) (by omega) h1 h2 hs (by clear hx2; omega)
    have hin : inR x2 4 = true := inR_ok (by clear hx2 ei; omega) (by clear hx2 ei; omega)
    have hin2 : inR (((4 : Int32) * x1) + x2) 8 = true := inR_ok (by rw [ei]; clear hx2 ei; omega) (by rw [ei]; clear hx2 ei; omega)
    refine w_321_47 σ x1 x2 ⟨fun c => ?_, fun _ => ⟨hin, hin2, ?_⟩⟩
    · rw [le_i four h2] at c; clear hx2 ei; omega
    rw [cn_of ei, cn_of h2, e125]
    clear ei hin2
    have hc := tyA h.1 (q := 125) (κ := 81) (k := k) (a := 0) (b := 3) (lo := 0) (hi := 65535) rfl rfl (by omega) (by clear hx2; omega)
    obtain ⟨a1, a2, a3, a4, a5, a6⟩ := hh
    refine ih (k + 1) _ _ (by omega) hx2 (wrG (κ := 109) (a := 0) (b := 7) (vl := 0) (vh := 65535) rfl rfl hG rfl (Nat.zero_le _) (by clear hx2; omega) hc.1 hc.2) ⟨fun p hp => ?_, fun j hj => absurd hj (by omega), ?_, fun t ht2 => ?_, fun q hq => ?_, fun q hq => ?_⟩
    · by_cases hpk : p = k
      · subst hpk; rw [s1_on]
      · rw [s1_off (by omega)]; exact a1 p (by omega)
    · rw [s1_off (by omega)]; exact a3
    · have := a4 t ht2
      exact ⟨by rw [s1_off (by omega)]; exact this.1, by rw [s1_off (by omega)]; exact this.2⟩
    · clear hx2
      rw [s1_off (by omega)]; exact a5 q hq
    · have := a6 q hq
      exact ⟨by rw [s1_off (by omega)]; exact this.1, by rw [s1_off (by omega)]; exact this.2⟩
theorem hold_OK {d N : Nat} {x1 : Int32} {σ : Sg} (h : GI N σ) : OkI PRG (d + 1) 321 [.ref 97, .int x1] σ (fun _ σ' => GI N σ') := by
  have ht := h.1
  obtain ⟨n, hn, hn16⟩ := played_rg ht
  refine ⟨M_321, rfl, Nat.le_of_ble_eq_true rfl, w_321_0 σ x1 ⟨_, in_OK, fun w2 σ1 hq => ?_⟩⟩
  obtain ⟨rfl, hw⟩ := hq
  refine ⟨fun _ => ⟨_, rfl, h⟩, fun hne => ⟨fun _ => ⟨_, rfl, h⟩, fun hd => ?_⟩⟩
  have hr : 0 ≤ x1.toInt ∧ x1.toInt ≤ 1 := by
    rcases hw with ⟨-, a, b⟩ | ⟨e, -⟩
    · exact ⟨a, b⟩
    · exact absurd e hne
  have h1 : x1.toInt = ((x1.toInt.toNat : Nat) : Int) := by omega
  have hs : x1.toInt.toNat ≤ 1 := by omega
  have hin : inR x1 2 = true := inR_ok hr.1 (by omega)
  refine ⟨hin, hin, hin, ?_⟩
  rw [cn_of h1]
  generalize x1.toInt.toNat = s at h1 hs ⊢
  have z1 : (vp_nar .boolean (1 : Int32)).toInt = 1 := by decide
  have hl := tyF ht (q := 97) (κ := 12) (k := 47) (lo := 0) (hi := 3) rfl rfl
  have hp := tyF ht (q := 97) (κ := 12) (k := 48) (lo := 0) (hi := 16) rfl rfl
  have g1 : Gl mdHold σ1 (s1 σ1 152 s (vp_nar .boolean (1 : Int32))) := wrG (κ := 108) (a := 0) (b := 1) (vl := 1) (vh := 1) rfl rfl (Gl.refl ht) rfl (Nat.zero_le _) hs (by rw [z1]; omega) (by rw [z1]; omega)
  have g2 := wrG (x := σ1.1 97 47) (q := 154) (k := s) (κ := 110) (a := 0) (b := 1) (vl := 0) (vh := 3) rfl rfl g1 rfl (Nat.zero_le _) hs hl.1 hl.2
  have g3 := wrG (x := σ1.1 97 48) (q := 155) (k := s) (κ := 111) (a := 0) (b := 1) (vl := 0) (vh := 16) rfl rfl g2 rfl (Nat.zero_le _) hs hp.1 hp.2
  refine hold_47 h hd hn hn16 h1 hs 4 0 0 _ rfl rfl g3 ⟨fun p hp => absurd hp (by omega), fun j hj => absurd hj (by omega), s1_on, fun t ht2 => ⟨?_, ?_⟩, fun q hq => ?_, fun q hq => ⟨?_, ?_⟩⟩
  · rw [s1_off (by omega), s1_off (by omega), s1_off (fun e => ht2 e.2)]
  · rw [s1_off (fun e => ht2 e.2), s1_off (by omega), s1_off (by omega)]
  · rw [s1_off (by omega), s1_off (by omega), s1_off (by omega)]
  · rw [s1_off (by omega), s1_off (by omega), s1_off (by omega)]
  · rw [s1_off (by omega), s1_off (by omega), s1_off (by omega)]
def mdRes : List (Nat × Nat × Nat) := [(12, 45, 45), (12, 47, 48), (81, 0, 3), (82, 0, 15), (83, 0, 15)]
/-- what is taken up of slot s so far -/
def rsI (s i j : Nat) (σ0 σ : Sg) : Prop := (∀ p, p < i → σ.1 125 p = σ0.1 153 (4 * s + p)) ∧ (∀ k, k < j → σ.1 126 k = σ0.1 156 (16 * s + k) ∧ σ.1 127 k = σ0.1 157 (16 * s + k)) ∧ σ.1 97 48 = σ0.1 155 s ∧ ¬ σ.1 97 45 = 0
theorem res_76 {d N n s : Nat} {x1 : Int32} {σ0 : Sg} (h : GI N σ0) (hd : ¬ (σ0.1 152 s) = 0) (hn : (σ0.1 155 s).toInt = (n : Int)) (hn16 : n ≤ 16) (h1 : x1.toInt = (s : Int)) (hs : s ≤ 1) : ∀ (m k : Nat) (x2 : Int32) (σ : Sg), k + m = n → x2.toInt = (k : Int) → Gl mdRes σ0 σ → rsI s 4 k σ0 σ → Rn PRG (d + 1) 322 76 [(0, .ref 97), (1, .int x1), (2, .int x2)] [] σ (fun v σ' => ∃ w : Int32, v = some (.int w) ∧ GI N σ') := by
  obtain ⟨ht, hI, hP, hT, hS, hH⟩ := h
  have hN := hP.le
  have hwn : wn (σ0.1 155 s) = n := by unfold wn; omega
  have fin : ∀ σ : Sg, Gl mdRes σ0 σ → rsI s 4 n σ0 σ → GI N σ := by
    intro σ hG hh
    obtain ⟨a1, a2, a3, a4⟩ := hh
    refine ⟨hG.1, hI.keep hG rfl, pack_of (hG.get (q := 97) (κ := 12) rfl rfl) (hG.get (q := 106) (κ := 62) rfl rfl) (hG.get (q := 107) (κ := 63) rfl rfl) hP, hT.keep hG rfl, ⟨fun h0 => absurd h0 a4, fun _ => ?_⟩, hH.keep hN.2 hG rfl⟩
    rw [a3, hwn]
    have hpl := hH s hs hd
    rw [hwn] at hpl
    exact hpl.congr (fun p hp => a1 p (by omega)) (fun k hk => (a2 k hk).1) (fun k hk => (a2 k hk).2)
  intro m
  induction m with
  | zero =>
    intro k x2 σ hk h2 hG hh
    have hkn : k = n := by omega
    subst hkn
    exact w_322_76 σ x1 x2 ⟨fun _ => ⟨_, rfl, fin σ hG hh⟩, fun c => absurd (by rw [hh.2.2.1, le_i hn h2]; omega) c⟩
  | succ m ih =>
    intro k x2 σ hk h2 hG hh
    obtain ⟨a1, a2, a3, a4⟩ := hh
    have e156 : ∀ k, σ.1 156 k = σ0.1 156 k := fun k => hG.get (q := 156) (κ := 112) rfl rfl
    have e157 : ∀ k, σ.1 157 k = σ0.1 157 k := fun k => hG.get (q := 157) (κ := 113) rfl rfl
    have hx2 : (x2 + (1 : Int32)).toInt = ((k + 1 : Nat) : Int) := by
      rw [add_lit (k := 1) h2 (by decide) (by unfold FL; omega) (by unfold FH; omega)]; push_cast; rfl
    have ei := sl_ix (C := 16) (c := 16) (by decide) (by omega) h1 h2 hs (by clear hx2; omega)
    have hin : inR x2 16 = true := inR_ok (by clear hx2 ei; omega) (by clear hx2 ei; omega)
    have hin2 : inR (((16 : Int32) * x1) + x2) 32 = true := inR_ok (by rw [ei]; clear hx2 ei; omega) (by rw [ei]; clear hx2 ei; omega)
    refine w_322_76 σ x1 x2 ⟨fun c => ?_, fun _ => ⟨hin2, hin, hin2, hin, ?_⟩⟩
    · rw [a3, le_i hn h2] at c; clear hx2 ei; omega
    rw [cn_of ei, cn_of h2, e156, e157]
    clear ei hin2
    have hc := tyA ht (q := 156) (κ := 112) (k := 16 * s + k) (a := 0) (b := 31) (lo := -1) (hi := 15) rfl rfl (by omega) (by clear hx2; omega)
    have hw := tyA ht (q := 157) (κ := 113) (k := 16 * s + k) (a := 0) (b := 31) (lo := 0) (hi := 3) rfl rfl (by omega) (by clear hx2; omega)
    have g1 : Gl mdRes σ0 (s1 σ 126 k (σ0.1 156 (16 * s + k))) := wrG (κ := 82) (a := 0) (b := 15) (vl := -1) (vh := 15) rfl rfl hG rfl (Nat.zero_le _) (by clear hx2; omega) hc.1 hc.2
    have g2 := wrG (x := σ0.1 157 (16 * s + k)) (q := 127) (k := k) (κ := 83) (a := 0) (b := 15) (vl := 0) (vh := 3) rfl rfl g1 rfl (Nat.zero_le _) (by clear hx2; omega) hw.1 hw.2
    refine ih (k + 1) _ _ (by omega) hx2 g2 ⟨fun p hp => ?_, fun j hj => ?_, ?_, ?_⟩
    · rw [s1_off (by omega), s1_off (by omega)]; exact a1 p hp
    · by_cases hjk : j = k
      · subst hjk
        exact ⟨by rw [s1_off (by omega), s1_on], by rw [s1_on]⟩
      · have := a2 j (by omega)
        exact ⟨by rw [s1_off (by omega), s1_off (fun e => hjk e.2)]; exact this.1, by rw [s1_off (fun e => hjk e.2), s1_off (by omega)]; exact this.2⟩
    · rw [s1_off (by omega), s1_off (by omega)]; exact a3
    · rw [s1_off (by omega), s1_off (by omega)]; exact a4
theorem res_47 {d N n s : Nat} {x1 : Int32} {σ0 : Sg} (h : GI N σ0) (hd : ¬ (σ0.1 152 s) = 0) (hn : (σ0.1 155 s).toInt = (n : Int)) (hn16 : n ≤ 16) (h1 : x1.toInt = (s : Int)) (hs : s ≤ 1) : ∀ (m k : Nat) (x2 : Int32) (σ : Sg), k + m = 4 → x2.toInt = (k : Int) → Gl mdRes σ0 σ → rsI s k 0 σ0 σ → Rn PRG (d + 1) 322 47 [(0, .ref 97), (1, .int x1), (2, .int x2)] [] σ (fun v σ' => ∃ w : Int32, v = some (.int w) ∧ GI N σ') := by
  have four : (4 : Int32).toInt = 4 := by decide
  intro m
  induction m with
  | zero =>
    intro k x2 σ hk h2 hG hh
    have : k = 4 := by omega
    subst this
    exact w_322_47 σ x1 x2 ⟨fun _ => res_76 h hd hn hn16 h1 hs n 0 0 σ (by omega) rfl hG hh, fun c => absurd (by rw [le_i four h2]; omega) c⟩
  | succ m ih =>
    intro k x2 σ hk h2 hG hh
    have e153 : ∀ k, σ.1 153 k = σ0.1 153 k := fun k => hG.get (q := 153) (κ := 109) rfl rfl
    have hx2 : (x2 + (1 : Int32)).toInt = ((k + 1 : Nat) : Int) := by
      rw [add_lit (k := 1) h2 (by decide) (by unfold FL; omega) (by unfold FH; omega)]; push_cast; rfl
    have ei := sl_ix (C := 4) (c := 4) (by decide) (by omega) h1 h2 hs (by clear hx2; omega)
    have hin : inR x2 4 = true := inR_ok (by clear hx2 ei; omega) (by clear hx2 ei; omega)
    have hin2 : inR (((4 : Int32) * x1) + x2) 8 = true := inR_ok (by rw [ei]; clear hx2 ei; omega) (by rw [ei]; clear hx2 ei; omega)
    refine w_322_47 σ x1 x2 ⟨fun c => ?_, fun _ => ⟨hin2, hin, ?_⟩⟩
    · rw [le_i four h2] at c; clear hx2 ei; omega
    rw [cn_of ei, cn_of h2, e153]
    clear ei hin2
    have hc := tyA h.1 (q := 153) (κ := 109) (k := 4 * s + k) (a := 0) (b := 7) (lo := 0) (hi := 65535) rfl rfl (by omega) (by clear hx2; omega)
    obtain ⟨a1, a2, a3, a4⟩ := hh
    refine ih (k + 1) _ _ (by omega) hx2 (wrG (κ := 81) (a := 0) (b := 3) (vl := 0) (vh := 65535) rfl rfl hG rfl (Nat.zero_le _) (by clear hx2; omega) hc.1 hc.2) ⟨fun p hp => ?_, fun j hj => absurd hj (by omega), ?_, ?_⟩
    · by_cases hpk : p = k
      · subst hpk; rw [s1_on]
      · rw [s1_off (fun e => hpk e.2)]; exact a1 p (by omega)
    · rw [s1_off (by omega)]; exact a3
    · rw [s1_off (by omega)]; exact a4
theorem restore_OK {d N : Nat} {x1 : Int32} {σ : Sg} (h : GI N σ) : OkI PRG (d + 1) 322 [.ref 97, .int x1] σ (fun _ σ' => GI N σ') := by
  have ht := h.1
  refine ⟨M_322, rfl, Nat.le_of_ble_eq_true rfl, w_322_0 σ x1 ⟨_, in_OK, fun w2 σ1 hq => ?_⟩⟩
  obtain ⟨rfl, hw⟩ := hq
  refine ⟨fun _ => ⟨_, rfl, h⟩, fun hne => ?_⟩
  have hr : 0 ≤ x1.toInt ∧ x1.toInt ≤ 1 := by
    rcases hw with ⟨-, a, b⟩ | ⟨e, -⟩
    · exact ⟨a, b⟩
    · exact absurd e hne
  have h1 : x1.toInt = ((x1.toInt.toNat : Nat) : Int) := by omega
  have hs : x1.toInt.toNat ≤ 1 := by omega
  have hin : inR x1 2 = true := inR_ok hr.1 (by omega)
  rw [cn_of h1]
  generalize x1.toInt.toNat = s at h1 hs ⊢
  refine ⟨hin, fun _ => ⟨_, rfl, h⟩, fun hd => ⟨hin, hin, ?_⟩⟩
  have hl := tyA ht (q := 154) (κ := 110) (k := s) (a := 0) (b := 1) (lo := 0) (hi := 3) rfl rfl (by omega) hs
  have hp := tyA ht (q := 155) (κ := 111) (k := s) (a := 0) (b := 1) (lo := 0) (hi := 16) rfl rfl (by omega) hs
  have g1 : Gl mdRes σ1 (s1 σ1 97 45 (1 : Int32)) := wrG (κ := 12) (a := 45) (b := 45) (vl := 1) (vh := 1) rfl rfl (Gl.refl ht) rfl (Nat.le_refl _) (Nat.le_refl _) (by decide) (by decide)
  have g2 := wrG (x := σ1.1 154 s) (q := 97) (k := 47) (κ := 12) (a := 47) (b := 47) (vl := 0) (vh := 3) rfl rfl g1 rfl (Nat.le_refl _) (Nat.le_refl _) hl.1 hl.2
  have g3 := wrG (x := σ1.1 155 s) (q := 97) (k := 48) (κ := 12) (a := 48) (b := 48) (vl := 0) (vh := 16) rfl rfl g2 rfl (Nat.le_refl _) (Nat.le_refl _) hp.1 hp.2
  refine res_47 h hd (n := (σ1.1 155 s).toInt.toNat) (by omega) (by omega) h1 hs 4 0 0 _ rfl rfl g3 ⟨fun p hp => absurd hp (by omega), fun j hj => absurd hj (by omega), s1_on, ?_⟩
  rw [s1_off (by omega), s1_off (by omega), s1_on]
  decide
