/-! fillMeans and its answers: what must hold -/
set_option maxRecDepth 100000 in
theorem w_287_0 {d : Nat} {Q : Option Value → Sg → Prop} (σ : Sg) (x0 x1 x2 : Int32) (h : (((x0 - x0 / (2 : Int32) * (2 : Int32)) = 0 → Q (some (.int x1)) σ) ∧ (¬ (x0 - x0 / (2 : Int32) * (2 : Int32)) = 0 → Q (some (.int (x2 - x1))) σ))) : Rn PRG d 287 0 [(0, .int x0), (1, .int x1), (2, .int x2)] [] σ Q := by
  have hM : PRG[287]? = some M_287 := rfl
  refine Rn.brN (c := (x0 - x0 / (2 : Int32) * (2 : Int32)) = 0) (a := 10) (b := 6) (ls' := [(0, .int x0), (1, .int x1), (2, .int x2)]) (st' := []) (σ' := σ) hM 4 rfl (fun c => ?_) (fun c => ?_)
  · replace h := h.2 c
    refine Rn.seg (pc' := 13) (ls' := [(0, .int x0), (1, .int x1), (2, .int x2)]) (st' := [.int (x2 - x1)]) (σ' := σ) hM 3 rfl ?_
    exact Rn.ret hM rfl rfl h
  · replace h := h.1 c
    refine Rn.seg (pc' := 13) (ls' := [(0, .int x0), (1, .int x1), (2, .int x2)]) (st' := [.int x1]) (σ' := σ) hM 2 rfl ?_
    exact Rn.ret hM rfl rfl h
set_option maxRecDepth 100000 in
theorem w_288_0 {d : Nat} {Q : Option Value → Sg → Prop} (σ : Sg) (h : (∃ Qc : Int32 → Sg → Prop, OkI PRG d 211 [.ref 97] σ Qc ∧ ∀ w2 σ1, Qc w2 σ1 → Q (some (.int (w2 - ((σ1.1 97 48) / (4 : Int32))))) σ1)) : Rn PRG (d + 1) 288 0 [(0, .ref 97)] [] σ Q := by
  have hM : PRG[288]? = some M_288 := rfl
  refine Rn.seg (pc' := 1) (ls' := [(0, .ref 97)]) (st' := [.ref 97]) (σ' := σ) hM 1 rfl ?_
  obtain ⟨Qc, hq, h⟩ := h
  refine Rn.cI hM rfl rfl (by decide) hq (fun w2 σ1 hw => ?_)
  replace h := h w2 σ1 hw
  refine Rn.seg (pc' := 11) (ls' := [(0, .ref 97)]) (st' := [.int (w2 - ((σ1.1 97 48) / (4 : Int32)))]) (σ' := σ1) hM 5 rfl ?_
  exact Rn.ret hM rfl rfl h
set_option maxRecDepth 100000 in
theorem w_289_0 {d : Nat} {Q : Option Value → Sg → Prop} (σ : Sg) (x1 : Int32) (h : (∃ Qc : Int32 → Sg → Prop, OkI PRG d 230 [.ref 97] σ Qc ∧ ∀ w2 σ1, Qc w2 σ1 → (∃ Qc : Int32 → Sg → Prop, OkI PRG d 233 [.ref 97] σ1 Qc ∧ ∀ w4 σ3, Qc w4 σ3 → Rn PRG (d + 1) 289 20 [(0, .ref 97), (1, .int x1), (2, .int w2), (3, .int (0 : Int32))] [] (s1 (s1 σ3 97 78 w4) 97 79 (0 : Int32)) Q))) : Rn PRG (d + 1) 289 0 [(0, .ref 97), (1, .int x1)] [] σ Q := by
  have hM : PRG[289]? = some M_289 := rfl
  refine Rn.seg (pc' := 1) (ls' := [(0, .ref 97), (1, .int x1)]) (st' := [.ref 97]) (σ' := σ) hM 1 rfl ?_
  obtain ⟨Qc, hq, h⟩ := h
  refine Rn.cI hM rfl rfl (by decide) hq (fun w2 σ1 hw => ?_)
  replace h := h w2 σ1 hw
  refine Rn.seg (pc' := 7) (ls' := [(2, .int w2), (0, .ref 97), (1, .int x1)]) (st' := [.ref 97, .ref 97]) (σ' := σ1) hM 3 rfl ?_
  obtain ⟨Qc, hq, h⟩ := h
  refine Rn.cI hM rfl rfl (by decide) hq (fun w4 σ3 hw => ?_)
  replace h := h w4 σ3 hw
  refine Rn.seg (pc' := 20) (ls' := [(3, .int (0 : Int32)), (2, .int w2), (0, .ref 97), (1, .int x1)]) (st' := []) (σ' := (s1 (s1 σ3 97 78 w4) 97 79 (0 : Int32))) hM 6 rfl ?_
  exact Rn.sub h (subL_cons rfl (subL_cons rfl (subL_cons rfl (subL_cons rfl subL_nil)))) (show ndL _ from (by decide : List.Nodup ([0, 1, 2, 3] : List Nat)))
set_option maxRecDepth 100000 in
theorem w_289_20 {d : Nat} {Q : Option Value → Sg → Prop} (σ : Sg) (x1 x2 x3 : Int32) (h : (((16 : Int32) ≤ x3 → (inR x2 4 = true ∧ (inR x2 4 = true ∧ (∃ Qc : Sg → Prop, OkV PRG d 257 [.ref 97, .int x2, .int (σ.1 97 48), .int x1] (s1 σ 129 x2.toNatClampNeg (σ.1 125 x2.toNatClampNeg)) Qc ∧ ∀ σ1, Qc σ1 → Rn PRG (d + 1) 289 96 [(0, .ref 97), (2, .int x2)] [] σ1 Q)))) ∧ (¬ (16 : Int32) ≤ x3 → (inR x3 16 = true ∧ (inR x3 16 = true ∧ Rn PRG (d + 1) 289 44 [(0, .ref 97), (1, .int x1), (2, .int x2), (3, .int x3), (4, .int (0 : Int32))] [] (s1 (s2 σ 144 x3.toNatClampNeg (0 : Int64)) 145 x3.toNatClampNeg (99 : Int32)) Q))))) : Rn PRG (d + 1) 289 20 [(0, .ref 97), (1, .int x1), (2, .int x2), (3, .int x3)] [] σ Q := by
  have hM : PRG[289]? = some M_289 := rfl
  refine Rn.br (c := (16 : Int32) ≤ x3) (a := 74) (b := 26) (ls' := [(0, .ref 97), (1, .int x1), (2, .int x2), (3, .int x3)]) (st' := []) (σ' := σ) hM 3 rfl (fun c => ?_) (fun c => ?_)
  · replace h := h.1 c
    refine Rn.seg (pc' := 84) (ls' := [(0, .ref 97), (1, .int x1), (2, .int x2), (3, .int x3)]) (st' := [.int x2, .ref 125, .int x2, .ref 129]) (σ' := σ) hM 6 rfl ?_
    refine Rn.iald hM rfl rfl h.1 ?_
    refine Rn.seg (pc' := 85) (ls' := [(0, .ref 97), (1, .int x1), (2, .int x2), (3, .int x3)]) (st' := [.int (σ.1 125 x2.toNatClampNeg), .int x2, .ref 129]) (σ' := σ) hM 0 rfl ?_
    refine Rn.iast hM rfl rfl h.2.1 ?_
    refine Rn.seg (pc' := 93) (ls' := [(0, .ref 97), (1, .int x1), (2, .int x2), (3, .int x3)]) (st' := [.int x1, .int (σ.1 97 48), .int x2, .ref 97]) (σ' := (s1 σ 129 x2.toNatClampNeg (σ.1 125 x2.toNatClampNeg))) hM 5 rfl ?_
    obtain ⟨Qc, hq, h⟩ := h.2.2
    refine Rn.cV hM rfl rfl (by decide) hq (fun σ1 hw => ?_)
    replace h := h σ1 hw
    refine Rn.seg (pc' := 96) (ls' := [(0, .ref 97), (1, .int x1), (2, .int x2), (3, .int x3)]) (st' := []) (σ' := σ1) hM 0 rfl ?_
    exact Rn.sub h (subL_cons rfl (subL_cons rfl subL_nil)) (show ndL _ from (by decide : List.Nodup ([0, 2] : List Nat)))
  · replace h := h.2 c
    refine Rn.seg (pc' := 32) (ls' := [(0, .ref 97), (1, .int x1), (2, .int x2), (3, .int x3)]) (st' := [.long (0 : Int64), .int x3, .ref 144]) (σ' := σ) hM 4 rfl ?_
    refine Rn.last hM rfl rfl h.1 ?_
    refine Rn.seg (pc' := 40) (ls' := [(0, .ref 97), (1, .int x1), (2, .int x2), (3, .int x3)]) (st' := [.int (99 : Int32), .int x3, .ref 145]) (σ' := (s2 σ 144 x3.toNatClampNeg (0 : Int64))) hM 4 rfl ?_
    refine Rn.iast hM rfl rfl h.2.1 ?_
    refine Rn.seg (pc' := 44) (ls' := [(4, .int (0 : Int32)), (0, .ref 97), (1, .int x1), (2, .int x2), (3, .int x3)]) (st' := []) (σ' := (s1 (s2 σ 144 x3.toNatClampNeg (0 : Int64)) 145 x3.toNatClampNeg (99 : Int32))) hM 2 rfl ?_
    exact Rn.sub h.2.2 (subL_cons rfl (subL_cons rfl (subL_cons rfl (subL_cons rfl (subL_cons rfl subL_nil))))) (show ndL _ from (by decide : List.Nodup ([0, 1, 2, 3, 4] : List Nat)))
set_option maxRecDepth 100000 in
theorem w_289_96 {d : Nat} {Q : Option Value → Sg → Prop} (σ : Sg) (x2 : Int32) (h : (∃ Qc : Int32 → Sg → Prop, OkI PRG d 262 [.ref 97] σ Qc ∧ ∀ w2 σ1, Qc w2 σ1 → ((w2 = 0 → Q none σ1) ∧ (¬ w2 = 0 → (∃ Qc : Sg → Prop, OkV PRG d 281 [.ref 97] σ1 Qc ∧ ∀ σ3, Qc σ3 → Rn PRG (d + 1) 289 119 [(0, .ref 97), (2, .int x2), (3, .int (0 : Int32))] [] (s1 σ3 97 79 ((σ3.1 97 79) + (1 : Int32))) Q))))) : Rn PRG (d + 1) 289 96 [(0, .ref 97), (2, .int x2)] [] σ Q := by
  have hM : PRG[289]? = some M_289 := rfl
  refine Rn.seg (pc' := 97) (ls' := [(0, .ref 97), (2, .int x2)]) (st' := [.ref 97]) (σ' := σ) hM 1 rfl ?_
  obtain ⟨Qc, hq, h⟩ := h
  refine Rn.cI hM rfl rfl (by decide) hq (fun w2 σ1 hw => ?_)
  replace h := h w2 σ1 hw
  refine Rn.br (c := w2 = 0) (a := 211) (b := 103) (ls' := [(0, .ref 97), (2, .int x2)]) (st' := []) (σ' := σ1) hM 1 rfl (fun c => ?_) (fun c => ?_)
  · replace h := h.1 c
    refine Rn.seg (pc' := 211) (ls' := [(0, .ref 97), (2, .int x2)]) (st' := []) (σ' := σ1) hM 0 rfl ?_
    exact Rn.ret hM rfl rfl h
  · replace h := h.2 c
    refine Rn.seg (pc' := 104) (ls' := [(0, .ref 97), (2, .int x2)]) (st' := [.ref 97]) (σ' := σ1) hM 1 rfl ?_
    obtain ⟨Qc, hq, h⟩ := h
    refine Rn.cV hM rfl rfl (by decide) hq (fun σ3 hw => ?_)
    replace h := h σ3 hw
    refine Rn.seg (pc' := 119) (ls' := [(3, .int (0 : Int32)), (0, .ref 97), (2, .int x2)]) (st' := []) (σ' := (s1 σ3 97 79 ((σ3.1 97 79) + (1 : Int32)))) hM 8 rfl ?_
    exact Rn.sub h (subL_cons rfl (subL_cons rfl (subL_cons rfl subL_nil))) (show ndL _ from (by decide : List.Nodup ([0, 2, 3] : List Nat)))
set_option maxRecDepth 100000 in
theorem w_289_44 {d : Nat} {Q : Option Value → Sg → Prop} (σ : Sg) (x1 x2 x3 x4 : Int32) (h : (((5 : Int32) ≤ x4 → Rn PRG (d + 1) 289 20 [(0, .ref 97), (1, .int x1), (2, .int x2), (3, .int (x3 + (1 : Int32)))] [] σ Q) ∧ (¬ (5 : Int32) ≤ x4 → (inR (((5 : Int32) * x3) + x4) 80 = true ∧ Rn PRG (d + 1) 289 44 [(0, .ref 97), (1, .int x1), (2, .int x2), (3, .int x3), (4, .int (x4 + (1 : Int32)))] [] (s1 σ 146 (((5 : Int32) * x3) + x4).toNatClampNeg (0 : Int32)) Q)))) : Rn PRG (d + 1) 289 44 [(0, .ref 97), (1, .int x1), (2, .int x2), (3, .int x3), (4, .int x4)] [] σ Q := by
  have hM : PRG[289]? = some M_289 := rfl
  refine Rn.br (c := (5 : Int32) ≤ x4) (a := 68) (b := 50) (ls' := [(0, .ref 97), (1, .int x1), (2, .int x2), (3, .int x3), (4, .int x4)]) (st' := []) (σ' := σ) hM 3 rfl (fun c => ?_) (fun c => ?_)
  · replace h := h.1 c
    refine Rn.seg (pc' := 20) (ls' := [(3, .int (x3 + (1 : Int32))), (0, .ref 97), (1, .int x1), (2, .int x2), (4, .int x4)]) (st' := []) (σ' := σ) hM 2 rfl ?_
    exact Rn.sub h (subL_cons rfl (subL_cons rfl (subL_cons rfl (subL_cons rfl subL_nil)))) (show ndL _ from (by decide : List.Nodup ([0, 1, 2, 3] : List Nat)))
  · replace h := h.2 c
    refine Rn.seg (pc' := 61) (ls' := [(0, .ref 97), (1, .int x1), (2, .int x2), (3, .int x3), (4, .int x4)]) (st' := [.int (0 : Int32), .int (((5 : Int32) * x3) + x4), .ref 146]) (σ' := σ) hM 8 rfl ?_
    refine Rn.iast hM rfl rfl h.1 ?_
    refine Rn.seg (pc' := 44) (ls' := [(4, .int (x4 + (1 : Int32))), (0, .ref 97), (1, .int x1), (2, .int x2), (3, .int x3)]) (st' := []) (σ' := (s1 σ 146 (((5 : Int32) * x3) + x4).toNatClampNeg (0 : Int32))) hM 2 rfl ?_
    exact Rn.sub h.2 (subL_cons rfl (subL_cons rfl (subL_cons rfl (subL_cons rfl (subL_cons rfl subL_nil))))) (show ndL _ from (by decide : List.Nodup ([0, 1, 2, 3, 4] : List Nat)))
set_option maxRecDepth 100000 in
theorem w_289_119 {d : Nat} {Q : Option Value → Sg → Prop} (σ : Sg) (x2 x3 : Int32) (h : (∃ Qc : Int32 → Sg → Prop, OkI PRG d 210 [.ref 97] σ Qc ∧ ∀ w2 σ1, Qc w2 σ1 → ((w2 ≤ x3 → Rn PRG (d + 1) 289 96 [(0, .ref 97), (2, .int x2)] [] σ1 Q) ∧ (¬ w2 ≤ x3 → (((((σ1.1 97 78) >>> (x3 &&& 31)) &&& (1 : Int32)) = 0 → Rn PRG (d + 1) 289 119 [(0, .ref 97), (2, .int x2), (3, .int (x3 + (1 : Int32)))] [] σ1 Q) ∧ (¬ (((σ1.1 97 78) >>> (x3 &&& 31)) &&& (1 : Int32)) = 0 → (∃ Qc : Int32 → Sg → Prop, OkI PRG d 285 [.ref 97, .int x3] σ1 Qc ∧ ∀ w4 σ3, Qc w4 σ3 → (∃ Qc : Int32 → Sg → Prop, OkI PRG d 288 [.ref 97] σ3 Qc ∧ ∀ w6 σ5, Qc w6 σ5 → (∃ Qc : Int32 → Sg → Prop, OkI PRG d 287 [.int x2, .int w4, .int w6] σ5 Qc ∧ ∀ w8 σ7, Qc w8 σ7 → (inR x3 16 = true ∧ (inR x3 16 = true ∧ (inR x3 16 = true ∧ (((σ7.1 145 x3.toNatClampNeg) ≤ w8 → (inR (((5 : Int32) * x3) + w8) 80 = true ∧ (inR (((5 : Int32) * x3) + w8) 80 = true ∧ Rn PRG (d + 1) 289 119 [(0, .ref 97), (2, .int x2), (3, .int (x3 + (1 : Int32)))] [] (s1 (s2 σ7 144 x3.toNatClampNeg ((σ7.2 144 x3.toNatClampNeg) + w8.toInt64)) 146 (((5 : Int32) * x3) + w8).toNatClampNeg ((σ7.1 146 (((5 : Int32) * x3) + w8).toNatClampNeg) + (1 : Int32))) Q))) ∧ (¬ (σ7.1 145 x3.toNatClampNeg) ≤ w8 → (inR x3 16 = true ∧ (inR (((5 : Int32) * x3) + w8) 80 = true ∧ (inR (((5 : Int32) * x3) + w8) 80 = true ∧ Rn PRG (d + 1) 289 119 [(0, .ref 97), (2, .int x2), (3, .int (x3 + (1 : Int32)))] [] (s1 (s1 (s2 σ7 144 x3.toNatClampNeg ((σ7.2 144 x3.toNatClampNeg) + w8.toInt64)) 145 x3.toNatClampNeg w8) 146 (((5 : Int32) * x3) + w8).toNatClampNeg ((σ7.1 146 (((5 : Int32) * x3) + w8).toNatClampNeg) + (1 : Int32))) Q))))))))))))))))) : Rn PRG (d + 1) 289 119 [(0, .ref 97), (2, .int x2), (3, .int x3)] [] σ Q := by
  have hM : PRG[289]? = some M_289 := rfl
  refine Rn.seg (pc' := 121) (ls' := [(0, .ref 97), (2, .int x2), (3, .int x3)]) (st' := [.ref 97, .int x3]) (σ' := σ) hM 2 rfl ?_
  obtain ⟨Qc, hq, h⟩ := h
  refine Rn.cI hM rfl rfl (by decide) hq (fun w2 σ1 hw => ?_)
  replace h := h w2 σ1 hw
  refine Rn.br (c := w2 ≤ x3) (a := 208) (b := 127) (ls' := [(0, .ref 97), (2, .int x2), (3, .int x3)]) (st' := []) (σ' := σ1) hM 1 rfl (fun c => ?_) (fun c => ?_)
  · replace h := h.1 c
    refine Rn.seg (pc' := 96) (ls' := [(0, .ref 97), (2, .int x2), (3, .int x3)]) (st' := []) (σ' := σ1) hM 1 rfl ?_
    exact Rn.sub h (subL_cons rfl (subL_cons rfl subL_nil)) (show ndL _ from (by decide : List.Nodup ([0, 2] : List Nat)))
  · replace h := h.2 c
    refine Rn.brN (c := (((σ1.1 97 78) >>> (x3 &&& 31)) &&& (1 : Int32)) = 0) (a := 141) (b := 138) (ls' := [(0, .ref 97), (2, .int x2), (3, .int x3)]) (st' := []) (σ' := σ1) hM 7 rfl (fun c => ?_) (fun c => ?_)
    · replace h := h.2 c
      refine Rn.seg (pc' := 144) (ls' := [(0, .ref 97), (2, .int x2), (3, .int x3)]) (st' := [.int x3, .ref 97, .int x2]) (σ' := σ1) hM 3 rfl ?_
      obtain ⟨Qc, hq, h⟩ := h
      refine Rn.cI hM rfl rfl (by decide) hq (fun w4 σ3 hw => ?_)
      replace h := h w4 σ3 hw
      refine Rn.seg (pc' := 148) (ls' := [(0, .ref 97), (2, .int x2), (3, .int x3)]) (st' := [.ref 97, .int w4, .int x2]) (σ' := σ3) hM 1 rfl ?_
      obtain ⟨Qc, hq, h⟩ := h
      refine Rn.cI hM rfl rfl (by decide) hq (fun w6 σ5 hw => ?_)
      replace h := h w6 σ5 hw
      refine Rn.seg (pc' := 151) (ls' := [(0, .ref 97), (2, .int x2), (3, .int x3)]) (st' := [.int w6, .int w4, .int x2]) (σ' := σ5) hM 0 rfl ?_
      obtain ⟨Qc, hq, h⟩ := h
      refine Rn.cI hM rfl rfl (by decide) hq (fun w8 σ7 hw => ?_)
      replace h := h w8 σ7 hw
      refine Rn.seg (pc' := 162) (ls' := [(4, .int w8), (0, .ref 97), (2, .int x2), (3, .int x3)]) (st' := [.int x3, .ref 144, .int x3, .ref 144]) (σ' := σ7) hM 5 rfl ?_
      refine Rn.lald hM rfl rfl h.1 ?_
      refine Rn.seg (pc' := 167) (ls' := [(4, .int w8), (0, .ref 97), (2, .int x2), (3, .int x3)]) (st' := [.long ((σ7.2 144 x3.toNatClampNeg) + w8.toInt64), .int x3, .ref 144]) (σ' := σ7) hM 3 rfl ?_
      refine Rn.last hM rfl rfl h.2.1 ?_
      refine Rn.seg (pc' := 175) (ls' := [(4, .int w8), (0, .ref 97), (2, .int x2), (3, .int x3)]) (st' := [.int x3, .ref 145, .int w8]) (σ' := (s2 σ7 144 x3.toNatClampNeg ((σ7.2 144 x3.toNatClampNeg) + w8.toInt64))) hM 4 rfl ?_
      refine Rn.iald hM rfl rfl h.2.2.1 ?_
      refine Rn.br (c := (σ7.1 145 x3.toNatClampNeg) ≤ w8) (a := 187) (b := 179) (ls' := [(4, .int w8), (0, .ref 97), (2, .int x2), (3, .int x3)]) (st' := []) (σ' := (s2 σ7 144 x3.toNatClampNeg ((σ7.2 144 x3.toNatClampNeg) + w8.toInt64))) hM 1 rfl (fun c => ?_) (fun c => ?_)
      · replace h := h.2.2.2.1 c
        refine Rn.seg (pc' := 198) (ls' := [(4, .int w8), (0, .ref 97), (2, .int x2), (3, .int x3)]) (st' := [.int (((5 : Int32) * x3) + w8), .ref 146, .int (((5 : Int32) * x3) + w8), .ref 146]) (σ' := (s2 σ7 144 x3.toNatClampNeg ((σ7.2 144 x3.toNatClampNeg) + w8.toInt64))) hM 8 rfl ?_
        refine Rn.iald hM rfl rfl h.1 ?_
        refine Rn.seg (pc' := 201) (ls' := [(4, .int w8), (0, .ref 97), (2, .int x2), (3, .int x3)]) (st' := [.int ((σ7.1 146 (((5 : Int32) * x3) + w8).toNatClampNeg) + (1 : Int32)), .int (((5 : Int32) * x3) + w8), .ref 146]) (σ' := (s2 σ7 144 x3.toNatClampNeg ((σ7.2 144 x3.toNatClampNeg) + w8.toInt64))) hM 2 rfl ?_
        refine Rn.iast hM rfl rfl h.2.1 ?_
        refine Rn.seg (pc' := 119) (ls' := [(3, .int (x3 + (1 : Int32))), (4, .int w8), (0, .ref 97), (2, .int x2)]) (st' := []) (σ' := (s1 (s2 σ7 144 x3.toNatClampNeg ((σ7.2 144 x3.toNatClampNeg) + w8.toInt64)) 146 (((5 : Int32) * x3) + w8).toNatClampNeg ((σ7.1 146 (((5 : Int32) * x3) + w8).toNatClampNeg) + (1 : Int32)))) hM 2 rfl ?_
        exact Rn.sub h.2.2 (subL_cons rfl (subL_cons rfl (subL_cons rfl subL_nil))) (show ndL _ from (by decide : List.Nodup ([0, 2, 3] : List Nat)))
      · replace h := h.2.2.2.2 c
        refine Rn.seg (pc' := 186) (ls' := [(4, .int w8), (0, .ref 97), (2, .int x2), (3, .int x3)]) (st' := [.int w8, .int x3, .ref 145]) (σ' := (s2 σ7 144 x3.toNatClampNeg ((σ7.2 144 x3.toNatClampNeg) + w8.toInt64))) hM 4 rfl ?_
        refine Rn.iast hM rfl rfl h.1 ?_
        refine Rn.seg (pc' := 198) (ls' := [(4, .int w8), (0, .ref 97), (2, .int x2), (3, .int x3)]) (st' := [.int (((5 : Int32) * x3) + w8), .ref 146, .int (((5 : Int32) * x3) + w8), .ref 146]) (σ' := (s1 (s2 σ7 144 x3.toNatClampNeg ((σ7.2 144 x3.toNatClampNeg) + w8.toInt64)) 145 x3.toNatClampNeg w8)) hM 8 rfl ?_
        refine Rn.iald hM rfl rfl h.2.1 ?_
        refine Rn.seg (pc' := 201) (ls' := [(4, .int w8), (0, .ref 97), (2, .int x2), (3, .int x3)]) (st' := [.int ((σ7.1 146 (((5 : Int32) * x3) + w8).toNatClampNeg) + (1 : Int32)), .int (((5 : Int32) * x3) + w8), .ref 146]) (σ' := (s1 (s2 σ7 144 x3.toNatClampNeg ((σ7.2 144 x3.toNatClampNeg) + w8.toInt64)) 145 x3.toNatClampNeg w8)) hM 2 rfl ?_
        refine Rn.iast hM rfl rfl h.2.2.1 ?_
        refine Rn.seg (pc' := 119) (ls' := [(3, .int (x3 + (1 : Int32))), (4, .int w8), (0, .ref 97), (2, .int x2)]) (st' := []) (σ' := (s1 (s1 (s2 σ7 144 x3.toNatClampNeg ((σ7.2 144 x3.toNatClampNeg) + w8.toInt64)) 145 x3.toNatClampNeg w8) 146 (((5 : Int32) * x3) + w8).toNatClampNeg ((σ7.1 146 (((5 : Int32) * x3) + w8).toNatClampNeg) + (1 : Int32)))) hM 2 rfl ?_
        exact Rn.sub h.2.2.2 (subL_cons rfl (subL_cons rfl (subL_cons rfl subL_nil))) (show ndL _ from (by decide : List.Nodup ([0, 2, 3] : List Nat)))
    · replace h := h.1 c
      refine Rn.seg (pc' := 119) (ls' := [(3, .int (x3 + (1 : Int32))), (0, .ref 97), (2, .int x2)]) (st' := []) (σ' := σ1) hM 3 rfl ?_
      exact Rn.sub h (subL_cons rfl (subL_cons rfl (subL_cons rfl subL_nil))) (show ndL _ from (by decide : List.Nodup ([0, 2, 3] : List Nat)))
/-! own, tricksLeft -/
/-- the trick's own answers, and the tricks that are left -/
theorem own_OK {d : Nat} {x y z : Int32} {σ : Sg} : OkI PRG d 287 [.int x, .int y, .int z] σ (fun w σ' => σ' = σ ∧ (w = y ∨ w = z - y)) :=
  ⟨M_287, rfl, Nat.le_of_ble_eq_true rfl, w_287_0 σ x y z ⟨fun _ => ⟨_, rfl, rfl, Or.inl rfl⟩, fun _ => ⟨_, rfl, rfl, Or.inr rfl⟩⟩⟩
theorem tricksLeft_OK {d N n : Nat} {σ : Sg} (ht : typed TYP σ) (hp : pack N σ) (hn : (σ.1 97 48).toInt = (n : Int)) (hn16 : n ≤ 16) : OkI PRG (d + 1 + 1) 288 [.ref 97] σ (fun w σ' => σ' = σ ∧ w.toInt = ((N / 4 : Nat) : Int) - ((n / 4 : Nat) : Int)) := by
  have hN := hp.le
  have four : (4 : Int32).toInt = 4 := by decide
  refine ⟨M_288, rfl, Nat.le_of_ble_eq_true rfl, w_288_0 σ ⟨_, handSize_OK ht hp, fun w2 σ1 hq => ?_⟩⟩
  obtain ⟨rfl, hw⟩ := hq
  have d4 : ((σ1.1 97 48) / (4 : Int32)).toInt = ((n / 4 : Nat) : Int) := by
    rw [div_ex (by decide), hn, four, Int.tdiv_eq_ediv_of_nonneg (by omega)]; omega
  refine ⟨_, rfl, rfl, ?_⟩
  rw [sub_ex (by rw [hw, d4]; unfold FL; clear d4; omega) (by rw [hw, d4]; unfold FH; clear d4; omega), hw, d4]
