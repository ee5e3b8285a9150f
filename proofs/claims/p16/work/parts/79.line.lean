/-! the line: what must hold -/
set_option maxRecDepth 100000 in
theorem w_286_0 {d : Nat} {Q : Option Value → Sg → Prop} (σ : Sg) (x1 : Int32) (h : (((σ.1 97 45) = 0 → Q (some (.int (-1 : Int32))) σ) ∧ (¬ (σ.1 97 45) = 0 → ((x1 < 0 → Q (some (.int (-1 : Int32))) σ) ∧ (¬ x1 < 0 → (∃ Qc : Int32 → Sg → Prop, OkI PRG d 210 [.ref 97] σ Qc ∧ ∀ w2 σ1, Qc w2 σ1 → ((x1 < (w2 - (σ1.1 97 48)) → Rn PRG (d + 1) 286 36 [(0, .ref 97), (1, .int x1), (2, .int (σ1.1 97 48)), (3, .int (-1 : Int32)), (4, .int (0 : Int32))] [] σ1 Q) ∧ (¬ x1 < (w2 - (σ1.1 97 48)) → Q (some (.int (-1 : Int32))) σ1)))))))) : Rn PRG (d + 1) 286 0 [(0, .ref 97), (1, .int x1)] [] σ Q := by
  have hM : PRG[286]? = some M_286 := rfl
  refine Rn.br (c := (σ.1 97 45) = 0) (a := 24) (b := 7) (ls' := [(0, .ref 97), (1, .int x1)]) (st' := []) (σ' := σ) hM 3 rfl (fun c => ?_) (fun c => ?_)
  · replace h := h.1 c
    refine Rn.seg (pc' := 25) (ls' := [(0, .ref 97), (1, .int x1)]) (st' := [.int (-1 : Int32)]) (σ' := σ) hM 1 rfl ?_
    exact Rn.ret hM rfl rfl h
  · replace h := h.2 c
    refine Rn.br (c := x1 < 0) (a := 24) (b := 11) (ls' := [(0, .ref 97), (1, .int x1)]) (st' := []) (σ' := σ) hM 2 rfl (fun c => ?_) (fun c => ?_)
    · replace h := h.1 c
      refine Rn.seg (pc' := 25) (ls' := [(0, .ref 97), (1, .int x1)]) (st' := [.int (-1 : Int32)]) (σ' := σ) hM 1 rfl ?_
      exact Rn.ret hM rfl rfl h
    · replace h := h.2 c
      refine Rn.seg (pc' := 13) (ls' := [(0, .ref 97), (1, .int x1)]) (st' := [.ref 97, .int x1]) (σ' := σ) hM 2 rfl ?_
      obtain ⟨Qc, hq, h⟩ := h
      refine Rn.cI hM rfl rfl (by decide) hq (fun w2 σ1 hw => ?_)
      replace h := h w2 σ1 hw
      refine Rn.br (c := x1 < (w2 - (σ1.1 97 48))) (a := 26) (b := 24) (ls' := [(0, .ref 97), (1, .int x1)]) (st' := []) (σ' := σ1) hM 4 rfl (fun c => ?_) (fun c => ?_)
      · replace h := h.1 c
        refine Rn.seg (pc' := 36) (ls' := [(4, .int (0 : Int32)), (3, .int (-1 : Int32)), (2, .int (σ1.1 97 48)), (0, .ref 97), (1, .int x1)]) (st' := []) (σ' := σ1) hM 7 rfl ?_
        exact Rn.sub h (subL_cons rfl (subL_cons rfl (subL_cons rfl (subL_cons rfl (subL_cons rfl subL_nil))))) (show ndL _ from (by decide : List.Nodup ([0, 1, 2, 3, 4] : List Nat)))
      · replace h := h.2 c
        refine Rn.seg (pc' := 25) (ls' := [(0, .ref 97), (1, .int x1)]) (st' := [.int (-1 : Int32)]) (σ' := σ1) hM 1 rfl ?_
        exact Rn.ret hM rfl rfl h
set_option maxRecDepth 100000 in
theorem w_286_36 {d : Nat} {Q : Option Value → Sg → Prop} (σ : Sg) (x1 x2 x3 x4 : Int32) (h : ((x1 < x4 → Q (some (.int x3)) (s1 σ 97 48 x2)) ∧ (¬ x1 < x4 → (∃ Qc : Int32 → Sg → Prop, OkI PRG d 283 [.ref 97] σ Qc ∧ ∀ w2 σ1, Qc w2 σ1 → (∃ Qc : Int32 → Sg → Prop, OkI PRG d 233 [.ref 97] σ1 Qc ∧ ∀ w4 σ3, Qc w4 σ3 → Rn PRG (d + 1) 286 59 [(0, .ref 97), (1, .int x1), (2, .int x2), (3, .int (-1 : Int32)), (4, .int x4), (5, .int w2), (6, .int w4), (7, .int (0 : Int32))] [] σ3 Q))))) : Rn PRG (d + 1) 286 36 [(0, .ref 97), (1, .int x1), (2, .int x2), (3, .int x3), (4, .int x4)] [] σ Q := by
  have hM : PRG[286]? = some M_286 := rfl
  refine Rn.br (c := x1 < x4) (a := 120) (b := 42) (ls' := [(0, .ref 97), (1, .int x1), (2, .int x2), (3, .int x3), (4, .int x4)]) (st' := []) (σ' := σ) hM 3 rfl (fun c => ?_) (fun c => ?_)
  · replace h := h.1 c
    refine Rn.seg (pc' := 126) (ls' := [(0, .ref 97), (1, .int x1), (2, .int x2), (3, .int x3), (4, .int x4)]) (st' := [.int x3]) (σ' := (s1 σ 97 48 x2)) hM 4 rfl ?_
    exact Rn.ret hM rfl rfl h
  · replace h := h.2 c
    refine Rn.seg (pc' := 43) (ls' := [(0, .ref 97), (1, .int x1), (2, .int x2), (3, .int x3), (4, .int x4)]) (st' := [.ref 97]) (σ' := σ) hM 1 rfl ?_
    obtain ⟨Qc, hq, h⟩ := h
    refine Rn.cI hM rfl rfl (by decide) hq (fun w2 σ1 hw => ?_)
    replace h := h w2 σ1 hw
    refine Rn.seg (pc' := 49) (ls' := [(5, .int w2), (0, .ref 97), (1, .int x1), (2, .int x2), (3, .int x3), (4, .int x4)]) (st' := [.ref 97]) (σ' := σ1) hM 2 rfl ?_
    obtain ⟨Qc, hq, h⟩ := h
    refine Rn.cI hM rfl rfl (by decide) hq (fun w4 σ3 hw => ?_)
    replace h := h w4 σ3 hw
    refine Rn.seg (pc' := 59) (ls' := [(7, .int (0 : Int32)), (3, .int (-1 : Int32)), (6, .int w4), (5, .int w2), (0, .ref 97), (1, .int x1), (2, .int x2), (4, .int x4)]) (st' := []) (σ' := σ3) hM 5 rfl ?_
    exact Rn.sub h (subL_cons rfl (subL_cons rfl (subL_cons rfl (subL_cons rfl (subL_cons rfl (subL_cons rfl (subL_cons rfl (subL_cons rfl subL_nil)))))))) (show ndL _ from (by decide : List.Nodup ([0, 1, 2, 3, 4, 5, 6, 7] : List Nat)))
set_option maxRecDepth 100000 in
theorem w_286_59 {d : Nat} {Q : Option Value → Sg → Prop} (σ : Sg) (x1 x2 x3 x4 x5 x6 x7 : Int32) (h : (∃ Qc : Int32 → Sg → Prop, OkI PRG d 210 [.ref 97] σ Qc ∧ ∀ w2 σ1, Qc w2 σ1 → ((w2 ≤ x7 → (∃ Qc : Int32 → Sg → Prop, OkI PRG d 230 [.ref 97] σ1 Qc ∧ ∀ w4 σ3, Qc w4 σ3 → (∃ Qc : Int32 → Sg → Prop, OkI PRG d 235 [.ref 97, .int w4, .int x3] σ3 Qc ∧ ∀ w6 σ5, Qc w6 σ5 → Rn PRG (d + 1) 286 36 [(0, .ref 97), (1, .int x1), (2, .int x2), (3, .int x3), (4, .int (x4 + (1 : Int32)))] [] σ5 Q))) ∧ (¬ w2 ≤ x7 → ((x3 = (-1 : Int32) → ((((x6 >>> (x7 &&& 31)) &&& (1 : Int32)) = (1 : Int32) → (∃ Qc : Int32 → Sg → Prop, OkI PRG d 285 [.ref 97, .int x7] σ1 Qc ∧ ∀ w12 σ11, Qc w12 σ11 → ((w12 = x5 → Rn PRG (d + 1) 286 59 [(0, .ref 97), (1, .int x1), (2, .int x2), (3, .int x7), (4, .int x4), (5, .int x5), (6, .int x6), (7, .int (x7 + (1 : Int32)))] [] σ11 Q) ∧ (¬ w12 = x5 → Rn PRG (d + 1) 286 59 [(0, .ref 97), (1, .int x1), (2, .int x2), (3, .int x3), (4, .int x4), (5, .int x5), (6, .int x6), (7, .int (x7 + (1 : Int32)))] [] σ11 Q)))) ∧ (¬ ((x6 >>> (x7 &&& 31)) &&& (1 : Int32)) = (1 : Int32) → Rn PRG (d + 1) 286 59 [(0, .ref 97), (1, .int x1), (2, .int x2), (3, .int x3), (4, .int x4), (5, .int x5), (6, .int x6), (7, .int (x7 + (1 : Int32)))] [] σ1 Q))) ∧ (¬ x3 = (-1 : Int32) → (∃ Qc : Int32 → Sg → Prop, OkI PRG d 230 [.ref 97] σ1 Qc ∧ ∀ w8 σ7, Qc w8 σ7 → (∃ Qc : Int32 → Sg → Prop, OkI PRG d 235 [.ref 97, .int w8, .int x3] σ7 Qc ∧ ∀ w10 σ9, Qc w10 σ9 → Rn PRG (d + 1) 286 36 [(0, .ref 97), (1, .int x1), (2, .int x2), (3, .int x3), (4, .int (x4 + (1 : Int32)))] [] σ9 Q)))))))) : Rn PRG (d + 1) 286 59 [(0, .ref 97), (1, .int x1), (2, .int x2), (3, .int x3), (4, .int x4), (5, .int x5), (6, .int x6), (7, .int x7)] [] σ Q := by
  have hM : PRG[286]? = some M_286 := rfl
  refine Rn.seg (pc' := 62) (ls' := [(0, .ref 97), (1, .int x1), (2, .int x2), (3, .int x3), (4, .int x4), (5, .int x5), (6, .int x6), (7, .int x7)]) (st' := [.ref 97, .int x7]) (σ' := σ) hM 2 rfl ?_
  obtain ⟨Qc, hq, h⟩ := h
  refine Rn.cI hM rfl rfl (by decide) hq (fun w2 σ1 hw => ?_)
  replace h := h w2 σ1 hw
  refine Rn.br (c := w2 ≤ x7) (a := 104) (b := 68) (ls' := [(0, .ref 97), (1, .int x1), (2, .int x2), (3, .int x3), (4, .int x4), (5, .int x5), (6, .int x6), (7, .int x7)]) (st' := []) (σ' := σ1) hM 1 rfl (fun c => ?_) (fun c => ?_)
  · replace h := h.1 c
    refine Rn.seg (pc' := 106) (ls' := [(0, .ref 97), (1, .int x1), (2, .int x2), (3, .int x3), (4, .int x4), (5, .int x5), (6, .int x6), (7, .int x7)]) (st' := [.ref 97, .ref 97]) (σ' := σ1) hM 2 rfl ?_
    obtain ⟨Qc, hq, h⟩ := h
    refine Rn.cI hM rfl rfl (by decide) hq (fun w4 σ3 hw => ?_)
    replace h := h w4 σ3 hw
    refine Rn.seg (pc' := 110) (ls' := [(0, .ref 97), (1, .int x1), (2, .int x2), (3, .int x3), (4, .int x4), (5, .int x5), (6, .int x6), (7, .int x7)]) (st' := [.int x3, .int w4, .ref 97]) (σ' := σ3) hM 1 rfl ?_
    obtain ⟨Qc, hq, h⟩ := h
    refine Rn.cI hM rfl rfl (by decide) hq (fun w6 σ5 hw => ?_)
    replace h := h w6 σ5 hw
    refine Rn.seg (pc' := 36) (ls' := [(4, .int (x4 + (1 : Int32))), (0, .ref 97), (1, .int x1), (2, .int x2), (3, .int x3), (5, .int x5), (6, .int x6), (7, .int x7)]) (st' := []) (σ' := σ5) hM 3 rfl ?_
    exact Rn.sub h (subL_cons rfl (subL_cons rfl (subL_cons rfl (subL_cons rfl (subL_cons rfl subL_nil))))) (show ndL _ from (by decide : List.Nodup ([0, 1, 2, 3, 4] : List Nat)))
  · replace h := h.2 c
    refine Rn.brN (c := x3 = (-1 : Int32)) (a := 104) (b := 73) (ls' := [(0, .ref 97), (1, .int x1), (2, .int x2), (3, .int x3), (4, .int x4), (5, .int x5), (6, .int x6), (7, .int x7)]) (st' := []) (σ' := σ1) hM 3 rfl (fun c => ?_) (fun c => ?_)
    · replace h := h.2 c
      refine Rn.seg (pc' := 106) (ls' := [(0, .ref 97), (1, .int x1), (2, .int x2), (3, .int x3), (4, .int x4), (5, .int x5), (6, .int x6), (7, .int x7)]) (st' := [.ref 97, .ref 97]) (σ' := σ1) hM 2 rfl ?_
      obtain ⟨Qc, hq, h⟩ := h
      refine Rn.cI hM rfl rfl (by decide) hq (fun w8 σ7 hw => ?_)
      replace h := h w8 σ7 hw
      refine Rn.seg (pc' := 110) (ls' := [(0, .ref 97), (1, .int x1), (2, .int x2), (3, .int x3), (4, .int x4), (5, .int x5), (6, .int x6), (7, .int x7)]) (st' := [.int x3, .int w8, .ref 97]) (σ' := σ7) hM 1 rfl ?_
      obtain ⟨Qc, hq, h⟩ := h
      refine Rn.cI hM rfl rfl (by decide) hq (fun w10 σ9 hw => ?_)
      replace h := h w10 σ9 hw
      refine Rn.seg (pc' := 36) (ls' := [(4, .int (x4 + (1 : Int32))), (0, .ref 97), (1, .int x1), (2, .int x2), (3, .int x3), (5, .int x5), (6, .int x6), (7, .int x7)]) (st' := []) (σ' := σ9) hM 3 rfl ?_
      exact Rn.sub h (subL_cons rfl (subL_cons rfl (subL_cons rfl (subL_cons rfl (subL_cons rfl subL_nil))))) (show ndL _ from (by decide : List.Nodup ([0, 1, 2, 3, 4] : List Nat)))
    · replace h := h.1 c
      refine Rn.brN (c := ((x6 >>> (x7 &&& 31)) &&& (1 : Int32)) = (1 : Int32)) (a := 98) (b := 84) (ls' := [(0, .ref 97), (1, .int x1), (2, .int x2), (3, .int x3), (4, .int x4), (5, .int x5), (6, .int x6), (7, .int x7)]) (st' := []) (σ' := σ1) hM 7 rfl (fun c => ?_) (fun c => ?_)
      · replace h := h.2 c
        refine Rn.seg (pc' := 59) (ls' := [(7, .int (x7 + (1 : Int32))), (0, .ref 97), (1, .int x1), (2, .int x2), (3, .int x3), (4, .int x4), (5, .int x5), (6, .int x6)]) (st' := []) (σ' := σ1) hM 2 rfl ?_
        exact Rn.sub h (subL_cons rfl (subL_cons rfl (subL_cons rfl (subL_cons rfl (subL_cons rfl (subL_cons rfl (subL_cons rfl (subL_cons rfl subL_nil)))))))) (show ndL _ from (by decide : List.Nodup ([0, 1, 2, 3, 4, 5, 6, 7] : List Nat)))
      · replace h := h.1 c
        refine Rn.seg (pc' := 87) (ls' := [(0, .ref 97), (1, .int x1), (2, .int x2), (3, .int x3), (4, .int x4), (5, .int x5), (6, .int x6), (7, .int x7)]) (st' := [.int x7, .ref 97]) (σ' := σ1) hM 2 rfl ?_
        obtain ⟨Qc, hq, h⟩ := h
        refine Rn.cI hM rfl rfl (by decide) hq (fun w12 σ11 hw => ?_)
        replace h := h w12 σ11 hw
        refine Rn.brN (c := w12 = x5) (a := 98) (b := 95) (ls' := [(0, .ref 97), (1, .int x1), (2, .int x2), (3, .int x3), (4, .int x4), (5, .int x5), (6, .int x6), (7, .int x7)]) (st' := []) (σ' := σ11) hM 2 rfl (fun c => ?_) (fun c => ?_)
        · replace h := h.2 c
          refine Rn.seg (pc' := 59) (ls' := [(7, .int (x7 + (1 : Int32))), (0, .ref 97), (1, .int x1), (2, .int x2), (3, .int x3), (4, .int x4), (5, .int x5), (6, .int x6)]) (st' := []) (σ' := σ11) hM 2 rfl ?_
          exact Rn.sub h (subL_cons rfl (subL_cons rfl (subL_cons rfl (subL_cons rfl (subL_cons rfl (subL_cons rfl (subL_cons rfl (subL_cons rfl subL_nil)))))))) (show ndL _ from (by decide : List.Nodup ([0, 1, 2, 3, 4, 5, 6, 7] : List Nat)))
        · replace h := h.1 c
          refine Rn.seg (pc' := 59) (ls' := [(7, .int (x7 + (1 : Int32))), (3, .int x7), (0, .ref 97), (1, .int x1), (2, .int x2), (4, .int x4), (5, .int x5), (6, .int x6)]) (st' := []) (σ' := σ11) hM 4 rfl ?_
          exact Rn.sub h (subL_cons rfl (subL_cons rfl (subL_cons rfl (subL_cons rfl (subL_cons rfl (subL_cons rfl (subL_cons rfl (subL_cons rfl subL_nil)))))))) (show ndL _ from (by decide : List.Nodup ([0, 1, 2, 3, 4, 5, 6, 7] : List Nat)))
set_option maxRecDepth 100000 in
theorem w_284_0 {d : Nat} {Q : Option Value → Sg → Prop} (σ : Sg) (h : (((σ.1 97 45) = 0 → Q (some (.int (-2 : Int32))) σ) ∧ (¬ (σ.1 97 45) = 0 → (∃ Qc : Int32 → Sg → Prop, OkI PRG d 283 [.ref 97] σ Qc ∧ ∀ w2 σ1, Qc w2 σ1 → Q (some (.int w2)) σ1)))) : Rn PRG (d + 1) 284 0 [(0, .ref 97)] [] σ Q := by
  have hM : PRG[284]? = some M_284 := rfl
  refine Rn.br (c := (σ.1 97 45) = 0) (a := 14) (b := 7) (ls' := [(0, .ref 97)]) (st' := []) (σ' := σ) hM 3 rfl (fun c => ?_) (fun c => ?_)
  · replace h := h.1 c
    refine Rn.seg (pc' := 16) (ls' := [(0, .ref 97)]) (st' := [.int (-2 : Int32)]) (σ' := σ) hM 1 rfl ?_
    exact Rn.ret hM rfl rfl h
  · replace h := h.2 c
    refine Rn.seg (pc' := 8) (ls' := [(0, .ref 97)]) (st' := [.ref 97]) (σ' := σ) hM 1 rfl ?_
    obtain ⟨Qc, hq, h⟩ := h
    refine Rn.cI hM rfl rfl (by decide) hq (fun w2 σ1 hw => ?_)
    replace h := h w2 σ1 hw
    refine Rn.seg (pc' := 16) (ls' := [(0, .ref 97)]) (st' := [.int w2]) (σ' := σ1) hM 1 rfl ?_
    exact Rn.ret hM rfl rfl h
/-! the line -/
theorem open_OK {N : Nat} {σ : Sg} (h : GI N σ) : OkI PRG 9 284 [.ref 97] σ (fun _ σ' => GI N σ') := by
  obtain ⟨n, hn, hn16⟩ := played_rg h.1
  refine ⟨M_284, rfl, Nat.le_of_ble_eq_true rfl, w_284_0 σ ⟨fun _ => ⟨_, rfl, h⟩, fun hd => ?_⟩⟩
  have hN := h.2.2.1.le
  have hle := h.le hd hn
  have hpl := h.2.2.2.2.1.2 hd
  refine ⟨_, openNow_OK (d := 0) h.1 h.2.2.1 h.2.2.2.1 hd hn hle (fun p hp => by rw [hpl.2.1 p hp]; omega), fun w2 σ1 hq => ⟨_, rfl, ?_⟩⟩
  rcases hq with ⟨-, e, -⟩ | ⟨-, ⟨g, σs, -, -, -, hst⟩, -⟩
  · rw [e]; exact h
  · exact h.keep g rfl (h.2.1.keep g rfl) hst.1
def mdLine : List (Nat × Nat × Nat) := [(85, 0, 3), (93, 0, 3), (94, 0, 15), (95, 0, 3), (12, 69, 69), (12, 71, 71), (96, 0, 3), (97, 0, 3), (98, 0, 3), (99, 0, 3), (92, 0, 262143), (82, 0, 15), (83, 0, 15), (12, 48, 48)]
/-- n cards lie, the first n0 as before -/
def LN (n0 n : Nat) (σ0 σ : Sg) : Prop := Gl mdLine σ0 σ ∧ TB σ ∧ (σ.1 97 48).toInt = (n : Int) ∧ ∀ k, k < n0 → σ.1 126 k = σ0.1 126 k ∧ σ.1 127 k = σ0.1 127 k
theorem LN.fin {N n0 n : Nat} {x2 : Int32} {σ0 σ : Sg} (h : GI N σ0) (hd : ¬ σ0.1 97 45 = 0) (hn0 : (σ0.1 97 48).toInt = (n0 : Int)) (h2 : x2.toInt = (n0 : Int)) (hL : LN n0 n σ0 σ) : GI N (s1 σ 97 48 x2) := by
  obtain ⟨hG, hT, hn, hk⟩ := hL
  have hle := h.le hd hn0
  obtain ⟨ht, hI, hP, hT0, ⟨g1, g2⟩, hH⟩ := h
  have hN := hP.le
  have k1 : Gl [(12, 48, 48)] σ (s1 σ 97 48 x2) := wrG (κ := 12) (a := 48) (b := 48) (vl := 0) (vh := 16) rfl rfl (Gl.refl hG.1) rfl (Nat.le_refl _) (Nat.le_refl _) (by omega) (by omega)
  have k2 : Gl mdLine σ0 (s1 σ 97 48 x2) := hG.trans k1 rfl
  have e45 : (s1 σ 97 48 x2).1 97 45 = σ0.1 97 45 := k2.get (q := 97) (κ := 12) rfl rfl
  have hwn : wn (σ0.1 97 48) = n0 := by unfold wn; omega
  have hpl := g2 hd
  rw [hwn] at hpl
  refine ⟨k2.1, hI.keep k2 rfl, pack_of (k2.get (q := 97) (κ := 12) rfl rfl) (k2.get (q := 106) (κ := 62) rfl rfl) (k2.get (q := 107) (κ := 63) rfl rfl) hP, hT.keep k1 rfl, ⟨fun h0 => absurd (by rw [e45] at h0; exact h0) hd, fun _ => ?_⟩, hH.keep hN.2 k2 rfl⟩
  have f48 : wn ((s1 σ 97 48 x2).1 97 48) = n0 := by rw [s1_on]; unfold wn; omega
  rw [f48]
  exact hpl.congr (fun p _ => k2.get (q := 125) (κ := 81) rfl rfl) (fun k hk0 => by rw [s1_off (by omega)]; exact (hk k hk0).1) (fun k hk0 => by rw [s1_off (by omega)]; exact (hk k hk0).2)
theorem line_59 {N r L : Nat} {x1 x2 x4 x5 x6 : Int32} {σ1 : Sg} {Q : Option Value → Sg → Prop} (hP : pack N σ1) (hL3 : L ≤ 3) (hr3 : r ≤ 3) (K : ∀ (x3 : Int32) (σ' : Sg), Gl mdOB σ1 σ' → TB σ' → -1 ≤ x3.toInt → x3.toInt ≤ 15 → ∃ Qc : Int32 → Sg → Prop, OkI PRG 9 230 [.ref 97] σ' Qc ∧ ∀ w4 σ3, Qc w4 σ3 → (∃ Qc : Int32 → Sg → Prop, OkI PRG 9 235 [.ref 97, .int w4, .int x3] σ3 Qc ∧ ∀ w6 σ5, Qc w6 σ5 → Rn PRG (9 + 1) 286 36 [(0, .ref 97), (1, .int x1), (2, .int x2), (3, .int x3), (4, .int (x4 + (1 : Int32)))] [] σ5 Q)) : ∀ (m k : Nat) (x3 x7 : Int32) (σ : Sg), k + m = N → x7.toInt = (k : Int) → -1 ≤ x3.toInt → x3.toInt ≤ 15 → Gl mdOB σ1 σ → TB σ → mk15 σ → (σ.1 97 71).toInt = (L : Int) → (σ.1 97 69).toInt = (r : Int) → Rn PRG (9 + 1) 286 59 [(0, .ref 97), (1, .int x1), (2, .int x2), (3, .int x3), (4, .int x4), (5, .int x5), (6, .int x6), (7, .int x7)] [] σ Q := by
  have hN := hP.le
  have pk : ∀ {σ' : Sg}, Gl mdOB σ1 σ' → pack N σ' := fun hG => pack_of (hG.get (q := 97) (κ := 12) rfl rfl) (hG.get (q := 106) (κ := 62) rfl rfl) (hG.get (q := 107) (κ := 63) rfl rfl) hP
  intro m
  induction m with
  | zero =>
    intro k x3 x7 σ hk h7 h3 h3' hG hT hm hL hr
    refine w_286_59 σ x1 x2 x3 x4 x5 x6 x7 ⟨_, cards_OK hG.1 (pk hG), fun w2 σ2 hq => ?_⟩
    obtain ⟨e1, hw⟩ := hq
    rw [e1]
    exact ⟨fun _ => K x3 σ hG hT h3 h3', fun c => absurd (by rw [le_i hw h7]; omega) c⟩
  | succ m ih =>
    intro k x3 x7 σ hk h7 h3 h3' hG hT hm hL hr
    refine w_286_59 σ x1 x2 x3 x4 x5 x6 x7 ⟨_, cards_OK hG.1 (pk hG), fun w2 σ2 hq => ?_⟩
    obtain ⟨e1, hw⟩ := hq
    rw [e1]
    have hx7 : (x7 + (1 : Int32)).toInt = ((k + 1 : Nat) : Int) := by
      rw [add_lit (k := 1) h7 (by decide) (by unfold FL; omega) (by unfold FH; omega)]; push_cast; rfl
    refine ⟨fun c => ?_, fun _ => ⟨fun _ => ⟨fun _ => ?_, fun _ => ih (k + 1) x3 _ σ (by omega) hx7 h3 h3' hG hT hm hL hr⟩, fun _ => K x3 σ hG hT h3 h3'⟩⟩
    · rw [le_i hw h7] at c; omega
    refine ⟨_, openBehind_OK (d := 5) (L := L) (r := r) hG.1 (pk hG).pk hT hm hL hL3 hr hr3 (by clear hx7; omega), fun w12 σ11 hq => ?_⟩
    obtain ⟨o1, o2, o3, o4, -⟩ := hq
    have m11 : mk15 σ11 := fun p hp => by rw [o3 p hp]; exact hm p hp
    have l11 : (σ11.1 97 71).toInt = (L : Int) := by rw [o1.get (q := 97) (κ := 12) rfl rfl]; exact hL
    exact ⟨fun _ => ih (k + 1) x7 _ σ11 (by omega) hx7 (by clear hx7; omega) (by clear hx7; omega) (hG.trans o1 rfl) o2 m11 l11 o4, fun _ => ih (k + 1) x3 _ σ11 (by omega) hx7 h3 h3' (hG.trans o1 rfl) o2 m11 l11 o4⟩
theorem line_36 {N n0 : Nat} {x1 x2 : Int32} {σ0 : Sg} (h : GI N σ0) (hd : ¬ σ0.1 97 45 = 0) (hn0 : (σ0.1 97 48).toInt = (n0 : Int)) (h2 : x2.toInt = (n0 : Int)) (hx1 : x1.toInt < (N : Int) - (n0 : Int)) : ∀ (m j : Nat) (x3 x4 : Int32) (σ : Sg), x4.toInt = (j : Int) → (x1.toInt + 1 - (j : Int)).toNat ≤ m → LN n0 (n0 + j) σ0 σ → n0 + j ≤ N → Rn PRG (9 + 1) 286 36 [(0, .ref 97), (1, .int x1), (2, .int x2), (3, .int x3), (4, .int x4)] [] σ (fun v σ' => ∃ w : Int32, v = some (.int w) ∧ GI N σ') := by
  have hN := h.2.2.1.le
  have hpl := h.2.2.2.2.1.2 hd
  have pk : ∀ {σ' : Sg}, Gl mdLine σ0 σ' → pack N σ' := fun hG => pack_of (hG.get (q := 97) (κ := 12) rfl rfl) (hG.get (q := 106) (κ := 62) rfl rfl) (hG.get (q := 107) (κ := 63) rfl rfl) h.2.2.1
  have e45 : ∀ {σ' : Sg}, Gl mdLine σ0 σ' → ¬ σ'.1 97 45 = 0 := fun hG => by rw [hG.get (q := 97) (κ := 12) rfl rfl]; exact hd
  intro m
  induction m with
  | zero =>
    intro j x3 x4 σ h4 hm hL hle
    refine w_286_36 σ x1 x2 x3 x4 ⟨fun _ => ⟨_, rfl, hL.fin h hd hn0 h2⟩, fun c => ?_⟩
    rw [lt_i rfl h4] at c; omega
  | succ m ih =>
    intro j x3 x4 σ h4 hm hL hle
    refine w_286_36 σ x1 x2 x3 x4 ⟨fun _ => ⟨_, rfl, hL.fin h hd hn0 h2⟩, fun c => ?_⟩
    rw [lt_i rfl h4] at c
    obtain ⟨hG, hT, hn, hk⟩ := hL
    have hlt : n0 + j < N := by omega
    have hx4 : (x4 + (1 : Int32)).toInt = ((j + 1 : Nat) : Int) := by
      rw [add_lit (k := 1) h4 (by decide) (by unfold FL; omega) (by unfold FH; omega)]; push_cast; rfl
    refine ⟨_, openNow_OK (d := 1) hG.1 (pk hG) hT (e45 hG) hn hle (fun p hp => by rw [hG.get (q := 125) (κ := 81) rfl rfl, hpl.2.1 p hp]; clear hx4; omega), fun w2 σ1 hq => ?_⟩
    rcases hq with ⟨e, -, -⟩ | ⟨-, ⟨g, σs, gs, es, es97, hst⟩, -⟩
    · omega
    have hG1 : Gl mdLine σ0 σ1 := hG.trans g rfl
    have hn1 : (σ1.1 97 48).toInt = ((n0 + j : Nat) : Int) := by rw [g.get (q := 97) (κ := 12) rfl rfl]; exact hn
    obtain ⟨L, hL3, hLL, -⟩ := hst.lead gs.1 (by rw [es97]; exact e45 hG) (by rw [es97]; exact hn) hlt hN.2
    obtain ⟨w0, hw0, hTn⟩ := turn_fix hG1.1 (pk hG1)
    refine ⟨_, mayNow_OK (d := 5) hG1.1 (pk hG1) hw0 hTn, fun w4 σ3 hq => ?_⟩
    rw [hq.1]
    refine line_59 (pk hG1) hL3 (r := (n0 + j) % 4) (by clear hx4; omega) (fun x3 σ' gB hTB a b => ?_) N 0 _ 0 σ1 (by omega) rfl (by decide) (by decide) (Gl.refl hG1.1) hst.1 hst.m15 hLL hst.2.1
    have hG' : Gl mdLine σ0 σ' := hG1.trans gB rfl
    have hn' : (σ'.1 97 48).toInt = ((n0 + j : Nat) : Int) := by rw [gB.get (q := 97) (κ := 12) rfl rfl]; exact hn1
    obtain ⟨w1, hw1, hT1⟩ := turn_fix hG'.1 (pk hG')
    have hw : 0 ≤ w1.toInt ∧ w1.toInt ≤ 3 := by
      rcases hw1 with ⟨z | z, -⟩ | ⟨-, -, a, b, -⟩
      · exact absurd z (e45 hG')
      · rw [hn'] at z; clear hx4; omega
      · exact ⟨a, b⟩
    refine ⟨_, hT1 6, fun w6 σ5 hq => ?_⟩
    obtain ⟨e5, e6⟩ := hq
    rw [e5, e6]
    have hin : inR (σ'.1 97 48) 16 = true := inR_ok (by clear hx4; omega) (by clear hx4; omega)
    have hcn : (σ'.1 97 48).toNatClampNeg = n0 + j := cn_of hn'
    have e1 : ((σ'.1 97 48) + (1 : Int32)).toInt = ((n0 + (j + 1) : Nat) : Int) := by
      rw [add_lit hn' (k := 1) (by decide) (by unfold FL; clear hx4; omega) (by unfold FH; clear hx4; omega)]; push_cast; clear hx4; omega
    have k1 : Gl mdLine σ0 (s1 σ' 126 (n0 + j) x3) := wrG (κ := 82) (a := 0) (b := 15) (vl := -1) (vh := 15) rfl rfl hG' rfl (Nat.zero_le _) (by clear hx4 e1; omega) a b
    have k2 := wrG (x := w1) (q := 127) (k := n0 + j) (κ := 83) (a := 0) (b := 15) (vl := 0) (vh := 3) rfl rfl k1 rfl (Nat.zero_le _) (by clear hx4 e1; omega) hw.1 hw.2
    have k3 := wrG (x := (σ'.1 97 48) + (1 : Int32)) (q := 97) (k := 48) (κ := 12) (a := 48) (b := 48) (vl := 0) (vh := 16) rfl rfl k2 rfl (Nat.le_refl _) (Nat.le_refl _) (by rw [e1]; clear hx4 e1; omega) (by rw [e1]; clear hx4 e1; omega)
    refine ⟨fun _ σ9 => LN n0 (n0 + (j + 1)) σ0 σ9, ⟨M_235, rfl, Nat.le_of_ble_eq_true rfl, w_235_0 σ' w1 x3 ⟨hin, hin, _, rfl, ?_⟩⟩, fun w8 σ7 hq => ih (j + 1) x3 _ σ7 hx4 (by clear hx4 e1; omega) hq (by clear hx4 e1; omega)⟩
    rw [hcn]
    refine ⟨k3, fun i hi => ?_, by rw [s1_on]; exact e1, fun k hk0 => ?_⟩
    · rw [s1_off (by omega), s1_off (by omega), s1_off (by omega)]; exact hTB i hi
    · have b1 := hk k hk0
      have c1 : σ'.1 126 k = σ.1 126 k := by rw [gB.get (q := 126) (κ := 82) rfl rfl, g.get (q := 126) (κ := 82) rfl rfl]
      have c2 : σ'.1 127 k = σ.1 127 k := by rw [gB.get (q := 127) (κ := 83) rfl rfl, g.get (q := 127) (κ := 83) rfl rfl]
      refine ⟨?_, ?_⟩
      · rw [s1_off (by omega), s1_off (by omega), s1_off (fun e => by have := e.2; omega), c1]; exact b1.1
      · rw [s1_off (by omega), s1_off (fun e => by have := e.2; omega), s1_off (by omega), c2]; exact b1.2
theorem line_OK {N : Nat} {x1 : Int32} {σ : Sg} (h : GI N σ) : OkI PRG 10 286 [.ref 97, .int x1] σ (fun _ σ' => GI N σ') := by
  obtain ⟨n, hn, hn16⟩ := played_rg h.1
  have hN := h.2.2.1.le
  refine ⟨M_286, rfl, Nat.le_of_ble_eq_true rfl, w_286_0 σ x1 ⟨fun _ => ⟨_, rfl, h⟩, fun hd => ⟨fun _ => ⟨_, rfl, h⟩, fun c => ⟨_, cards_OK h.1 h.2.2.1, fun w2 σ1 hq => ?_⟩⟩⟩⟩
  obtain ⟨e1, hw⟩ := hq
  rw [e1]
  have hle := h.le hd hn
  refine ⟨fun c2 => ?_, fun _ => ⟨_, rfl, h⟩⟩
  have es : (w2 - (σ.1 97 48)).toInt = (N : Int) - (n : Int) := by
    rw [sub_ex (by rw [hw, hn]; unfold FL; omega) (by rw [hw, hn]; unfold FH; omega), hw, hn]
  rw [lt_i rfl es] at c2
  exact line_36 h hd hn hn c2 _ 0 _ 0 σ rfl (Nat.le_refl _) ⟨Gl.refl h.1, h.2.2.2.1, hn, fun k _ => ⟨rfl, rfl⟩⟩ (by clear es; omega)
