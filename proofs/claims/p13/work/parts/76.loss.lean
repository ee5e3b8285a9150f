/-! losses: what must hold -/
set_option maxRecDepth 100000 in
theorem w_297_0 {d : Nat} {Q : Option Value → Sg → Prop} (σ : Sg) (x1 : Int32) (h : (∃ Qc : Int32 → Sg → Prop, OkI PRG d 230 [.ref 97] σ Qc ∧ ∀ w2 σ1, Qc w2 σ1 → (∃ Qc : Int32 → Sg → Prop, OkI PRG d 283 [.ref 97] σ1 Qc ∧ ∀ w4 σ3, Qc w4 σ3 → (∃ Qc : Int32 → Sg → Prop, OkI PRG d 288 [.ref 97] σ3 Qc ∧ ∀ w6 σ5, Qc w6 σ5 → (∃ Qc : Int32 → Sg → Prop, OkI PRG d 287 [.int w2, .int w4, .int w6] σ5 Qc ∧ ∀ w8 σ7, Qc w8 σ7 → (∃ Qc : Int32 → Sg → Prop, OkI PRG d 285 [.ref 97, .int x1] σ7 Qc ∧ ∀ w10 σ9, Qc w10 σ9 → (∃ Qc : Int32 → Sg → Prop, OkI PRG d 288 [.ref 97] σ9 Qc ∧ ∀ w12 σ11, Qc w12 σ11 → (∃ Qc : Int32 → Sg → Prop, OkI PRG d 287 [.int w2, .int w10, .int w12] σ11 Qc ∧ ∀ w14 σ13, Qc w14 σ13 → Q (some (.int (w8 - w14))) σ13)))))))) : Rn PRG (d + 1) 297 0 [(0, .ref 97), (1, .int x1)] [] σ Q := by
  have hM : PRG[297]? = some M_297 := rfl
  refine Rn.seg (pc' := 1) (ls' := [(0, .ref 97), (1, .int x1)]) (st' := [.ref 97]) (σ' := σ) hM 1 rfl ?_
  obtain ⟨Qc, hq, h⟩ := h
  refine Rn.cI hM rfl rfl (by decide) hq (fun w2 σ1 hw => ?_)
  replace h := h w2 σ1 hw
  refine Rn.seg (pc' := 7) (ls' := [(2, .int w2), (0, .ref 97), (1, .int x1)]) (st' := [.ref 97, .int w2]) (σ' := σ1) hM 3 rfl ?_
  obtain ⟨Qc, hq, h⟩ := h
  refine Rn.cI hM rfl rfl (by decide) hq (fun w4 σ3 hw => ?_)
  replace h := h w4 σ3 hw
  refine Rn.seg (pc' := 11) (ls' := [(2, .int w2), (0, .ref 97), (1, .int x1)]) (st' := [.ref 97, .int w4, .int w2]) (σ' := σ3) hM 1 rfl ?_
  obtain ⟨Qc, hq, h⟩ := h
  refine Rn.cI hM rfl rfl (by decide) hq (fun w6 σ5 hw => ?_)
  replace h := h w6 σ5 hw
  refine Rn.seg (pc' := 14) (ls' := [(2, .int w2), (0, .ref 97), (1, .int x1)]) (st' := [.int w6, .int w4, .int w2]) (σ' := σ5) hM 0 rfl ?_
  obtain ⟨Qc, hq, h⟩ := h
  refine Rn.cI hM rfl rfl (by decide) hq (fun w8 σ7 hw => ?_)
  replace h := h w8 σ7 hw
  refine Rn.seg (pc' := 22) (ls' := [(3, .int w8), (2, .int w2), (0, .ref 97), (1, .int x1)]) (st' := [.int x1, .ref 97, .int w2, .int w8]) (σ' := σ7) hM 5 rfl ?_
  obtain ⟨Qc, hq, h⟩ := h
  refine Rn.cI hM rfl rfl (by decide) hq (fun w10 σ9 hw => ?_)
  replace h := h w10 σ9 hw
  refine Rn.seg (pc' := 26) (ls' := [(3, .int w8), (2, .int w2), (0, .ref 97), (1, .int x1)]) (st' := [.ref 97, .int w10, .int w2, .int w8]) (σ' := σ9) hM 1 rfl ?_
  obtain ⟨Qc, hq, h⟩ := h
  refine Rn.cI hM rfl rfl (by decide) hq (fun w12 σ11 hw => ?_)
  replace h := h w12 σ11 hw
  refine Rn.seg (pc' := 29) (ls' := [(3, .int w8), (2, .int w2), (0, .ref 97), (1, .int x1)]) (st' := [.int w12, .int w10, .int w2, .int w8]) (σ' := σ11) hM 0 rfl ?_
  obtain ⟨Qc, hq, h⟩ := h
  refine Rn.cI hM rfl rfl (by decide) hq (fun w14 σ13 hw => ?_)
  replace h := h w14 σ13 hw
  refine Rn.seg (pc' := 33) (ls' := [(3, .int w8), (2, .int w2), (0, .ref 97), (1, .int x1)]) (st' := [.int (w8 - w14)]) (σ' := σ13) hM 1 rfl ?_
  exact Rn.ret hM rfl rfl h
set_option maxRecDepth 100000 in
theorem w_298_0 {d : Nat} {Q : Option Value → Sg → Prop} (σ : Sg) (x1 : Int32) (h : (∃ Qc : Int32 → Sg → Prop, OkI PRG d 291 [.ref 97, .int x1] σ Qc ∧ ∀ w2 σ1, Qc w2 σ1 → ((w2 = 0 → Q (some (.int (-1 : Int32))) σ1) ∧ (¬ w2 = 0 → (∃ Qc : Int32 → Sg → Prop, OkI PRG d 290 [.ref 97] σ1 Qc ∧ ∀ w4 σ3, Qc w4 σ3 → ((w4 = 0 → Q (some (.int (-2 : Int32))) σ3) ∧ (¬ w4 = 0 → (∃ Qc : Sg → Prop, OkV PRG d 289 [.ref 97, .int x1] σ3 Qc ∧ ∀ σ5, Qc σ5 → (∃ Qc : Int32 → Sg → Prop, OkI PRG d 293 [.ref 97, .int (σ5.1 97 78)] σ5 Qc ∧ ∀ w7 σ6, Qc w7 σ6 → (∃ Qc : Int32 → Sg → Prop, OkI PRG d 297 [.ref 97, .int w7] σ6 Qc ∧ ∀ w9 σ8, Qc w9 σ8 → Q (some (.int w9)) σ8)))))))))) : Rn PRG (d + 1) 298 0 [(0, .ref 97), (1, .int x1)] [] σ Q := by
  have hM : PRG[298]? = some M_298 := rfl
  refine Rn.seg (pc' := 2) (ls' := [(0, .ref 97), (1, .int x1)]) (st' := [.int x1, .ref 97]) (σ' := σ) hM 2 rfl ?_
  obtain ⟨Qc, hq, h⟩ := h
  refine Rn.cI hM rfl rfl (by decide) hq (fun w2 σ1 hw => ?_)
  replace h := h w2 σ1 hw
  refine Rn.brN (c := w2 = 0) (a := 10) (b := 8) (ls' := [(0, .ref 97), (1, .int x1)]) (st' := []) (σ' := σ1) hM 1 rfl (fun c => ?_) (fun c => ?_)
  · replace h := h.2 c
    refine Rn.seg (pc' := 11) (ls' := [(0, .ref 97), (1, .int x1)]) (st' := [.ref 97]) (σ' := σ1) hM 1 rfl ?_
    obtain ⟨Qc, hq, h⟩ := h
    refine Rn.cI hM rfl rfl (by decide) hq (fun w4 σ3 hw => ?_)
    replace h := h w4 σ3 hw
    refine Rn.brN (c := w4 = 0) (a := 20) (b := 17) (ls' := [(0, .ref 97), (1, .int x1)]) (st' := []) (σ' := σ3) hM 1 rfl (fun c => ?_) (fun c => ?_)
    · replace h := h.2 c
      refine Rn.seg (pc' := 22) (ls' := [(0, .ref 97), (1, .int x1)]) (st' := [.int x1, .ref 97]) (σ' := σ3) hM 2 rfl ?_
      obtain ⟨Qc, hq, h⟩ := h
      refine Rn.cV hM rfl rfl (by decide) hq (fun σ5 hw => ?_)
      replace h := h σ5 hw
      refine Rn.seg (pc' := 31) (ls' := [(0, .ref 97), (1, .int x1)]) (st' := [.int (σ5.1 97 78), .ref 97, .ref 97]) (σ' := σ5) hM 4 rfl ?_
      obtain ⟨Qc, hq, h⟩ := h
      refine Rn.cI hM rfl rfl (by decide) hq (fun w7 σ6 hw => ?_)
      replace h := h w7 σ6 hw
      refine Rn.seg (pc' := 34) (ls' := [(0, .ref 97), (1, .int x1)]) (st' := [.int w7, .ref 97]) (σ' := σ6) hM 0 rfl ?_
      obtain ⟨Qc, hq, h⟩ := h
      refine Rn.cI hM rfl rfl (by decide) hq (fun w9 σ8 hw => ?_)
      replace h := h w9 σ8 hw
      refine Rn.seg (pc' := 37) (ls' := [(0, .ref 97), (1, .int x1)]) (st' := [.int w9]) (σ' := σ8) hM 0 rfl ?_
      exact Rn.ret hM rfl rfl h
    · replace h := h.1 c
      refine Rn.seg (pc' := 19) (ls' := [(0, .ref 97), (1, .int x1)]) (st' := [.int (-2 : Int32)]) (σ' := σ3) hM 1 rfl ?_
      exact Rn.ret hM rfl rfl h
  · replace h := h.1 c
    refine Rn.seg (pc' := 9) (ls' := [(0, .ref 97), (1, .int x1)]) (st' := [.int (-1 : Int32)]) (σ' := σ1) hM 1 rfl ?_
    exact Rn.ret hM rfl rfl h
set_option maxRecDepth 100000 in
theorem w_299_0 {d : Nat} {Q : Option Value → Sg → Prop} (σ : Sg) (x1 : Int32) (h : (∃ Qc : Int32 → Sg → Prop, OkI PRG d 291 [.ref 97, .int x1] σ Qc ∧ ∀ w2 σ1, Qc w2 σ1 → ((w2 = 0 → Q (some (.int (-1 : Int32))) σ1) ∧ (¬ w2 = 0 → (∃ Qc : Int32 → Sg → Prop, OkI PRG d 290 [.ref 97] σ1 Qc ∧ ∀ w4 σ3, Qc w4 σ3 → ((w4 = 0 → Q (some (.int (-2 : Int32))) σ3) ∧ (¬ w4 = 0 → Rn PRG (d + 1) 299 28 [(0, .ref 97), (1, .int x1), (2, .int (σ3.1 97 48)), (3, .int (-3 : Int32))] [] σ3 Q))))))) : Rn PRG (d + 1) 299 0 [(0, .ref 97), (1, .int x1)] [] σ Q := by
  have hM : PRG[299]? = some M_299 := rfl
  refine Rn.seg (pc' := 2) (ls' := [(0, .ref 97), (1, .int x1)]) (st' := [.int x1, .ref 97]) (σ' := σ) hM 2 rfl ?_
  obtain ⟨Qc, hq, h⟩ := h
  refine Rn.cI hM rfl rfl (by decide) hq (fun w2 σ1 hw => ?_)
  replace h := h w2 σ1 hw
  refine Rn.brN (c := w2 = 0) (a := 10) (b := 8) (ls' := [(0, .ref 97), (1, .int x1)]) (st' := []) (σ' := σ1) hM 1 rfl (fun c => ?_) (fun c => ?_)
  · replace h := h.2 c
    refine Rn.seg (pc' := 11) (ls' := [(0, .ref 97), (1, .int x1)]) (st' := [.ref 97]) (σ' := σ1) hM 1 rfl ?_
    obtain ⟨Qc, hq, h⟩ := h
    refine Rn.cI hM rfl rfl (by decide) hq (fun w4 σ3 hw => ?_)
    replace h := h w4 σ3 hw
    refine Rn.brN (c := w4 = 0) (a := 20) (b := 17) (ls' := [(0, .ref 97), (1, .int x1)]) (st' := []) (σ' := σ3) hM 1 rfl (fun c => ?_) (fun c => ?_)
    · replace h := h.2 c
      refine Rn.seg (pc' := 28) (ls' := [(3, .int (-3 : Int32)), (2, .int (σ3.1 97 48)), (0, .ref 97), (1, .int x1)]) (st' := []) (σ' := σ3) hM 5 rfl ?_
      exact Rn.sub h (subL_cons rfl (subL_cons rfl (subL_cons rfl (subL_cons rfl subL_nil)))) (show ndL _ from (by decide : List.Nodup ([0, 1, 2, 3] : List Nat)))
    · replace h := h.1 c
      refine Rn.seg (pc' := 19) (ls' := [(0, .ref 97), (1, .int x1)]) (st' := [.int (-2 : Int32)]) (σ' := σ3) hM 1 rfl ?_
      exact Rn.ret hM rfl rfl h
  · replace h := h.1 c
    refine Rn.seg (pc' := 9) (ls' := [(0, .ref 97), (1, .int x1)]) (st' := [.int (-1 : Int32)]) (σ' := σ1) hM 1 rfl ?_
    exact Rn.ret hM rfl rfl h
set_option maxRecDepth 100000 in
theorem w_299_28 {d : Nat} {Q : Option Value → Sg → Prop} (σ : Sg) (x1 x2 x3 : Int32) (h : ((x3 = (-3 : Int32) → (∃ Qc : Int32 → Sg → Prop, OkI PRG d 210 [.ref 97] σ Qc ∧ ∀ w2 σ1, Qc w2 σ1 → ((w2 ≤ (σ.1 97 48) → Q (some (.int x3)) (s1 σ1 97 48 x2)) ∧ (¬ w2 ≤ (σ.1 97 48) → (∃ Qc : Sg → Prop, OkV PRG d 289 [.ref 97, .int x1] σ1 Qc ∧ ∀ σ3, Qc σ3 → (∃ Qc : Int32 → Sg → Prop, OkI PRG d 293 [.ref 97, .int (σ3.1 97 78)] σ3 Qc ∧ ∀ w5 σ4, Qc w5 σ4 → (∃ Qc : Int32 → Sg → Prop, OkI PRG d 297 [.ref 97, .int w5] σ4 Qc ∧ ∀ w7 σ6, Qc w7 σ6 → ((w7 ≤ 0 → (∃ Qc : Int32 → Sg → Prop, OkI PRG d 230 [.ref 97] σ6 Qc ∧ ∀ w9 σ8, Qc w9 σ8 → (∃ Qc : Int32 → Sg → Prop, OkI PRG d 235 [.ref 97, .int w9, .int w5] σ8 Qc ∧ ∀ w11 σ10, Qc w11 σ10 → Rn PRG (d + 1) 299 28 [(0, .ref 97), (1, .int x1), (2, .int x2), (3, .int x3)] [] σ10 Q))) ∧ (¬ w7 ≤ 0 → Rn PRG (d + 1) 299 28 [(0, .ref 97), (1, .int x1), (2, .int x2), (3, .int (σ6.1 97 48))] [] σ6 Q))))))))) ∧ (¬ x3 = (-3 : Int32) → Q (some (.int x3)) (s1 σ 97 48 x2)))) : Rn PRG (d + 1) 299 28 [(0, .ref 97), (1, .int x1), (2, .int x2), (3, .int x3)] [] σ Q := by
  have hM : PRG[299]? = some M_299 := rfl
  refine Rn.brN (c := x3 = (-3 : Int32)) (a := 91) (b := 34) (ls' := [(0, .ref 97), (1, .int x1), (2, .int x2), (3, .int x3)]) (st' := []) (σ' := σ) hM 3 rfl (fun c => ?_) (fun c => ?_)
  · replace h := h.2 c
    refine Rn.seg (pc' := 97) (ls' := [(0, .ref 97), (1, .int x1), (2, .int x2), (3, .int x3)]) (st' := [.int x3]) (σ' := (s1 σ 97 48 x2)) hM 4 rfl ?_
    exact Rn.ret hM rfl rfl h
  · replace h := h.1 c
    refine Rn.seg (pc' := 39) (ls' := [(0, .ref 97), (1, .int x1), (2, .int x2), (3, .int x3)]) (st' := [.ref 97, .int (σ.1 97 48)]) (σ' := σ) hM 3 rfl ?_
    obtain ⟨Qc, hq, h⟩ := h
    refine Rn.cI hM rfl rfl (by decide) hq (fun w2 σ1 hw => ?_)
    replace h := h w2 σ1 hw
    refine Rn.br (c := w2 ≤ (σ.1 97 48)) (a := 91) (b := 45) (ls' := [(0, .ref 97), (1, .int x1), (2, .int x2), (3, .int x3)]) (st' := []) (σ' := σ1) hM 1 rfl (fun c => ?_) (fun c => ?_)
    · replace h := h.1 c
      refine Rn.seg (pc' := 97) (ls' := [(0, .ref 97), (1, .int x1), (2, .int x2), (3, .int x3)]) (st' := [.int x3]) (σ' := (s1 σ1 97 48 x2)) hM 4 rfl ?_
      exact Rn.ret hM rfl rfl h
    · replace h := h.2 c
      refine Rn.seg (pc' := 47) (ls' := [(0, .ref 97), (1, .int x1), (2, .int x2), (3, .int x3)]) (st' := [.int x1, .ref 97]) (σ' := σ1) hM 2 rfl ?_
      obtain ⟨Qc, hq, h⟩ := h
      refine Rn.cV hM rfl rfl (by decide) hq (fun σ3 hw => ?_)
      replace h := h σ3 hw
      refine Rn.seg (pc' := 55) (ls' := [(0, .ref 97), (1, .int x1), (2, .int x2), (3, .int x3)]) (st' := [.int (σ3.1 97 78), .ref 97]) (σ' := σ3) hM 3 rfl ?_
      obtain ⟨Qc, hq, h⟩ := h
      refine Rn.cI hM rfl rfl (by decide) hq (fun w5 σ4 hw => ?_)
      replace h := h w5 σ4 hw
      refine Rn.seg (pc' := 63) (ls' := [(4, .int w5), (0, .ref 97), (1, .int x1), (2, .int x2), (3, .int x3)]) (st' := [.int w5, .ref 97]) (σ' := σ4) hM 3 rfl ?_
      obtain ⟨Qc, hq, h⟩ := h
      refine Rn.cI hM rfl rfl (by decide) hq (fun w7 σ6 hw => ?_)
      replace h := h w7 σ6 hw
      refine Rn.br (c := w7 ≤ 0) (a := 77) (b := 69) (ls' := [(4, .int w5), (0, .ref 97), (1, .int x1), (2, .int x2), (3, .int x3)]) (st' := []) (σ' := σ6) hM 1 rfl (fun c => ?_) (fun c => ?_)
      · replace h := h.1 c
        refine Rn.seg (pc' := 79) (ls' := [(4, .int w5), (0, .ref 97), (1, .int x1), (2, .int x2), (3, .int x3)]) (st' := [.ref 97, .ref 97]) (σ' := σ6) hM 2 rfl ?_
        obtain ⟨Qc, hq, h⟩ := h
        refine Rn.cI hM rfl rfl (by decide) hq (fun w9 σ8 hw => ?_)
        replace h := h w9 σ8 hw
        refine Rn.seg (pc' := 84) (ls' := [(4, .int w5), (0, .ref 97), (1, .int x1), (2, .int x2), (3, .int x3)]) (st' := [.int w5, .int w9, .ref 97]) (σ' := σ8) hM 1 rfl ?_
        obtain ⟨Qc, hq, h⟩ := h
        refine Rn.cI hM rfl rfl (by decide) hq (fun w11 σ10 hw => ?_)
        replace h := h w11 σ10 hw
        refine Rn.seg (pc' := 28) (ls' := [(4, .int w5), (0, .ref 97), (1, .int x1), (2, .int x2), (3, .int x3)]) (st' := []) (σ' := σ10) hM 2 rfl ?_
        exact Rn.sub h (subL_cons rfl (subL_cons rfl (subL_cons rfl (subL_cons rfl subL_nil)))) (show ndL _ from (by decide : List.Nodup ([0, 1, 2, 3] : List Nat)))
      · replace h := h.2 c
        refine Rn.seg (pc' := 28) (ls' := [(3, .int (σ6.1 97 48)), (4, .int w5), (0, .ref 97), (1, .int x1), (2, .int x2)]) (st' := []) (σ' := σ6) hM 5 rfl ?_
        exact Rn.sub h (subL_cons rfl (subL_cons rfl (subL_cons rfl (subL_cons rfl subL_nil)))) (show ndL _ from (by decide : List.Nodup ([0, 1, 2, 3] : List Nat)))
/-! losses -/
theorem TW.ld {N n : Nat} {w0 : Int32} {σ : Sg} (h : TW N n w0 σ) (h0 : 0 ≤ w0.toInt) (h4 : n % 4 = 0) : w0 = ldF σ n := by
  obtain ⟨hgi, hn, hn16, htn, hT⟩ := h
  obtain ⟨t1, t2, t3, t4⟩ := tn_play htn h0 hn
  have hle := hgi.le t1 hn
  obtain ⟨M, -, -, k, v, σ', -, w, -, ⟨-, e1⟩, -, e2⟩ := (turn_F (d := 0) hgi.1 hgi.2.2.1 t1 hn (by omega) h4).and (hT 0)
  rw [← e2, e1]
/-- a state between calls at which someone is to play -/
def RD (N n : Nat) (σ : Sg) : Prop := GI N σ ∧ (σ.1 97 48).toInt = (n : Int) ∧ ¬ σ.1 97 45 = 0 ∧ n < N
theorem RD.tf {N n : Nat} {σ : Sg} (h : RD N n σ) : ∃ w0, TW N n w0 σ ∧ 0 ≤ w0.toInt := by
  obtain ⟨hgi, hn, hd, hlt⟩ := h
  obtain ⟨n', w0, hF⟩ := TW.of hgi
  have e : n' = n := by have := hF.2.1; omega
  subst e
  refine ⟨w0, hF, ?_⟩
  rcases hF.2.2.2.1 with ⟨h1 | h1, -⟩ | ⟨-, -, a, -⟩
  · exact absurd h1 hd
  · rw [hn] at h1; omega
  · exact a
theorem TW.rd {N n : Nat} {w0 : Int32} {σ : Sg} (h : TW N n w0 σ) (h0 : 0 ≤ w0.toInt) : RD N n σ := by
  obtain ⟨t1, t2, t3, t4⟩ := tn_play h.2.2.2.1 h0 h.2.1
  have hle := h.1.le t1 h.2.1
  exact ⟨h.1, h.2.1, t1, by omega⟩
theorem RD.pl {N n : Nat} {σ : Sg} (h : RD N n σ) : PL N (σ.1 125) n (σ.1 126) (σ.1 127) := by
  have hwn : wn (σ.1 97 48) = n := by unfold wn; have := h.2.1; omega
  have := h.1.2.2.2.2.1.2 h.2.2.1
  rw [hwn] at this
  exact this
theorem RD.keep {N n : Nat} {σ σ' : Sg} (h : RD N n σ) (hG : Gl mdMeans σ σ') (hg : GI N σ') : RD N n σ' := by
  refine ⟨hg, ?_, ?_, h.2.2.2⟩
  · rw [hG.get (q := 97) (κ := 12) rfl rfl]; exact h.2.1
  · rw [hG.get (q := 97) (κ := 12) rfl rfl]; exact h.2.2.1
/-- who is to play doesn't change while means are filled -/
theorem TW.same {N n : Nat} {w0 w1 : Int32} {σ σ' : Sg} (h : TW N n w0 σ) (h' : TW N n w1 σ') (hG : Gl mdMeans σ σ') (h0 : 0 ≤ w0.toInt) (h1 : 0 ≤ w1.toInt) : w1 = w0 := by
  by_cases h4 : n % 4 = 0
  · rw [h.ld h0 h4, h'.ld h1 h4]
    exact ldF_frame (hG.get (q := 97) (κ := 12) rfl rfl) (hG.get (q := 97) (κ := 12) rfl rfl) (fun k => hG.get (q := 106) (κ := 62) rfl rfl) (fun k => hG.get (q := 107) (κ := 63) rfl rfl) (fun k => hG.get (q := 108) (κ := 64) rfl rfl) (fun k => hG.get (q := 126) (κ := 82) rfl rfl) (fun k => hG.get (q := 127) (κ := 83) rfl rfl)
  · have a := (tn_play h.2.2.2.1 h0 h.2.1).2.2.2 h4
    have b := (tn_play h'.2.2.2.1 h1 h'.2.1).2.2.2 h4
    rw [hG.get (q := 127) (κ := 83) rfl rfl] at b
    exact Int32.toInt_inj.mp (b.trans a.symm)
/-- what may be laid lies in the pack -/
theorem TW.lt {N n : Nat} {w0 w : Int32} {σ : Sg} (h : TW N n w0 σ) (h0 : 0 ≤ w0.toInt) (hm : myP σ w0 w) : ∀ i, bt w i = true → i < N := by
  have hPL := (h.rd h0).pl
  obtain ⟨p3, px⟩ := h.p3 h0
  intro i hbi
  rcases hm with ⟨hm, -⟩ | ⟨-, hand, z, ⟨y, hy, rfl⟩, hw⟩
  · omega
  apply Nat.lt_of_not_le
  intro hge
  have hz := hPL.2.2.1 (wn w0) p3 i hge
  rcases hw with rfl | ⟨-, rfl⟩
  · rw [bt_and, hz] at hbi
    simp at hbi
  · rw [bt_and, bt_and, hz] at hbi
    simp at hbi
theorem lossNow_OK {N n : Nat} {x1 : Int32} {σ : Sg} (h : RD N n σ) (hx : -1 ≤ x1.toInt ∧ x1.toInt ≤ 15) : OkI PRG 10 297 [.ref 97, .int x1] σ (fun _ σ' => GI N σ' ∧ Gl mdReal σ σ') := by
  obtain ⟨w0, hF, h0⟩ := h.tf
  have hPL := h.pl
  obtain ⟨hgi, hn, hd, hlt⟩ := h
  have hN := hgi.2.2.1.le
  refine ⟨M_297, rfl, Nat.le_of_ble_eq_true rfl, w_297_0 σ x1 ⟨_, hF.2.2.2.2 6, fun w2 σ1 hq => ?_⟩⟩
  obtain ⟨e1, e2⟩ := hq
  rw [e1]
  refine ⟨_, openNow_OK (d := 1) hgi.1 hgi.2.2.1 hgi.2.2.2.1 hd hn (by omega) (fun p hp => by rw [hPL.2.1 p hp]; omega), fun w4 σ3 hq => ?_⟩
  rcases hq with ⟨hz, -, -⟩ | ⟨-, ⟨g3, σs, gs, es, es97, hst⟩, hw4⟩
  · omega
  have pk : ∀ {σ' : Sg}, Gl mdReal σ σ' → pack N σ' := fun hG => pack_of (hG.get (q := 97) (κ := 12) rfl rfl) (hG.get (q := 106) (κ := 62) rfl rfl) (hG.get (q := 107) (κ := 63) rfl rfl) hgi.2.2.1
  have e48 : ∀ {σ' : Sg}, Gl mdReal σ σ' → (σ'.1 97 48).toInt = (n : Int) := fun hG => by rw [hG.get (q := 97) (κ := 12) rfl rfl]; exact hn
  refine ⟨_, tricksLeft_OK (d := 7) g3.1 (pk g3) (e48 g3) (by omega), fun w6 σ5 hq => ?_⟩
  rw [hq.1]
  refine ⟨_, own_OK, fun w8 σ7 hq => ?_⟩
  rw [hq.1]
  obtain ⟨L, hL3, hL, -⟩ := hst.lead gs.1 (by rw [es97]; exact hd) (by rw [es97]; exact hn) hlt hN.2
  refine ⟨_, openBehind_OK (d := 5) (L := L) (r := n % 4) g3.1 (pk g3).pk hst.1 hst.m15 hL hL3 hst.2.1 (by omega) hx, fun w10 σ9 hq => ?_⟩
  have g9 : Gl mdReal σ σ9 := g3.trans hq.1 rfl
  have hg9 : GI N σ9 := hgi.keep g9 rfl (hgi.2.1.keep g9 rfl) hq.2.1
  refine ⟨_, tricksLeft_OK (d := 7) g9.1 (pk g9) (e48 g9) (by omega), fun w12 σ11 hq => ?_⟩
  rw [hq.1]
  refine ⟨_, own_OK, fun w14 σ13 hq => ?_⟩
  rw [hq.1]
  exact ⟨_, rfl, hg9, g9⟩
theorem bs_card {N : Nat} {x w : Int32} (h : bsP N x w) (hs : ∃ c, c < N ∧ bt x c = true) : ∃ c : Nat, c < N ∧ w.toInt = (c : Int) ∧ bt x c = true := by
  rcases h with ⟨-, h⟩ | h
  · obtain ⟨c, c1, c2⟩ := hs
    rw [h c c1] at c2
    cases c2
  · exact h
theorem loss_OK {N : Nat} {x1 : Int32} {σ : Sg} (h : GI N σ) : OkI PRG 11 298 [.ref 97, .int x1] σ (fun _ σ' => GI N σ') := by
  obtain ⟨n, w0, hF⟩ := TW.of h
  have hN := h.2.2.1.le
  refine ⟨M_298, rfl, Nat.le_of_ble_eq_true rfl, w_298_0 σ x1 ⟨_, canMean_OK (d := 6) hF, fun w2 σ1 hq => ?_⟩⟩
  obtain ⟨e1, c0⟩ := hq
  rw [e1]
  refine ⟨fun _ => ⟨_, rfl, h⟩, fun hne => ⟨_, isLate_OK (d := 6) hF (c0 hne), fun w4 σ3 hq => ?_⟩⟩
  rw [hq]
  refine ⟨fun _ => ⟨_, rfl, h⟩, fun _ => ⟨_, fillMeans_OK h hF.2.1 hF.2.2.2.1 hF.2.2.2.2 (c0 hne), fun σ5 hq => ?_⟩⟩
  obtain ⟨g5, hg5, hm5⟩ := hq
  refine ⟨_, bestOf_OK (d := 9) hg5.1 hg5.2.2.1, fun w7 σ6 hq => ?_⟩
  obtain ⟨e6, hb⟩ := hq
  rw [e6]
  obtain ⟨c, c1, c2, -⟩ := bs_card hb (hF.some (c0 hne) hm5)
  exact ⟨_, lossNow_OK ((hF.rd (c0 hne)).keep g5 hg5) (by omega), fun w9 σ8 hq => ⟨_, rfl, hq.1⟩⟩
theorem PL.cut {N n n0 : Nat} {dl cd wh : Nat → Int32} (h : PL N dl n cd wh) (h0 : n0 ≤ n) : PL N dl n0 cd wh := by
  obtain ⟨a0, a1, a2, a3, a4, a5, a6⟩ := h
  exact ⟨by omega, a1, a2, a3, fun k hk => a4 k (by omega), fun j k hjk hk => a5 j k hjk (by omega), fun k hk h4 => a6 k (by omega) h4⟩
/-- cards are taken back -/
theorem GI.rewind {N n n0 : Nat} {x : Int32} {σ : Sg} (h : GI N σ) (hd : ¬ (σ.1 97 45) = 0) (hn : (σ.1 97 48).toInt = (n : Int)) (h0 : n0 ≤ n) (hx : x.toInt = (n0 : Int)) : GI N (s1 σ 97 48 x) := by
  have hle := h.le hd hn
  obtain ⟨ht, hI, hP, hT, ⟨g1, g2⟩, hH⟩ := h
  have hN := hP.le
  have k3 : Gl [(12, 48, 48)] σ (s1 σ 97 48 x) := wrG (κ := 12) (a := 48) (b := 48) (vl := 0) (vh := 16) rfl rfl (Gl.refl ht) rfl (Nat.le_refl _) (Nat.le_refl _) (by omega) (by omega)
  have hwn : wn (σ.1 97 48) = n := by unfold wn; omega
  have hpl := g2 hd
  rw [hwn] at hpl
  have f48 : wn ((s1 σ 97 48 x).1 97 48) = n0 := by
    rw [s1_on]; unfold wn; omega
  refine ⟨k3.1, hI.keep k3 rfl, pack_of (k3.get (q := 97) (κ := 12) rfl rfl) (k3.get (q := 106) (κ := 62) rfl rfl) (k3.get (q := 107) (κ := 63) rfl rfl) hP, hT.keep k3 rfl, ⟨fun h0 => absurd (by rw [s1_off (by omega)] at h0; exact h0) hd, fun _ => ?_⟩, fun s hs hs0 => ?_⟩
  · rw [f48]
    exact (hpl.cut h0).congr (fun p _ => s1_off (by omega)) (fun k _ => s1_off (by omega)) (fun k _ => s1_off (by omega))
  · rw [s1_off (by omega)] at hs0
    rw [s1_off (by omega)]
    exact (hH s hs hs0).congr (fun p _ => s1_off (by omega)) (fun k _ => s1_off (by omega)) (fun k _ => s1_off (by omega))
def mdPlay : List (Nat × Nat × Nat) := [(82, 0, 15), (83, 0, 15), (12, 48, 48)]
/-- whoever is to play lays a card of his hand -/
theorem plays_OK {d N n c : Nat} {w0 x : Int32} {σ : Sg} (h : TW N n w0 σ) (h0 : 0 ≤ w0.toInt) (hx : x.toInt = (c : Int)) (hc : c < N) (hb : bt (σ.1 125 (wn w0)) c = true ∧ ¬ ∃ k : Nat, k < n ∧ (σ.1 127 k).toInt = ((wn w0 : Nat) : Int) ∧ (σ.1 126 k).toInt = (c : Int)) : OkI PRG d 235 [.ref 97, .int w0, .int x] σ (fun _ σ' => GI N σ' ∧ (σ'.1 97 48).toInt = ((n + 1 : Nat) : Int) ∧ ¬ σ'.1 97 45 = 0 ∧ Gl mdPlay σ σ') := by
  obtain ⟨hgi, hn, hn16, htn, hT⟩ := id h
  obtain ⟨t1, t2, t3, t4⟩ := tn_play htn h0 hn
  have hle := hgi.le t1 hn
  have hN := hgi.2.2.1.le
  have hwn : wn (σ.1 97 48) = n := by unfold wn; omega
  obtain ⟨M, -, -, k, v, σ', -, y, -, -, hy⟩ := playedBy_OK (d := 0) (x1 := w0) hgi.1 hn hn16
  have hh : hnP σ w0 ((σ.1 125 (wn w0)) &&& (y ^^^ (-1 : Int32))) := ⟨y, by rw [hwn]; exact hy, rfl⟩
  have hbit : bt ((σ.1 125 (wn w0)) &&& (y ^^^ (-1 : Int32))) x.toInt.toNat = true := by
    rw [show x.toInt.toNat = c by omega, bt_and, hb.1, bt_not _ (by omega)]
    cases hyc : bt y c with
    | false => rfl
    | true =>
      obtain ⟨k, k1, k2, k3⟩ := (hy.1 c (by omega)).mp hyc
      exact absurd ⟨k, k1, by rw [k2]; unfold wn; omega, k3⟩ hb.2
  have hin : inR (σ.1 97 48) 16 = true := inR_ok (by omega) (by omega)
  have hcn : (σ.1 97 48).toNatClampNeg = n := cn_of hn
  have hgp := hgi.plays t1 hn (by omega) h0 t3 t4 (by omega) (by omega) hh hbit
  refine ⟨M_235, rfl, Nat.le_of_ble_eq_true rfl, w_235_0 σ w0 x ⟨hin, hin, _, rfl, ?_⟩⟩
  rw [hcn]
  have e1 : ((σ.1 97 48) + (1 : Int32)).toInt = ((n + 1 : Nat) : Int) := by
    rw [add_lit hn (k := 1) (by decide) (by unfold FL; omega) (by unfold FH; omega)]; push_cast; rfl
  have k1 : Gl mdPlay σ (s1 σ 126 n x) := wrG (κ := 82) (a := 0) (b := 15) (vl := 0) (vh := 15) rfl rfl (Gl.refl hgi.1) rfl (Nat.zero_le _) (by clear e1; omega) (by clear e1; omega) (by clear e1; omega)
  have k2 := wrG (x := w0) (q := 127) (k := n) (κ := 83) (a := 0) (b := 15) (vl := 0) (vh := 3) rfl rfl k1 rfl (Nat.zero_le _) (by clear e1; omega) h0 t3
  have k3 := wrG (x := (σ.1 97 48) + (1 : Int32)) (q := 97) (k := 48) (κ := 12) (a := 48) (b := 48) (vl := 0) (vh := 16) rfl rfl k2 rfl (Nat.le_refl _) (Nat.le_refl _) (by rw [e1]; clear e1; omega) (by rw [e1]; clear e1; omega)
  refine ⟨hgp, ?_, ?_, k3⟩
  · rw [s1_on]; exact e1
  · rw [s1_off (by omega), s1_off (by omega), s1_off (by omega)]; exact t1
/-- differs: each plays his choice -/
theorem differs_end {d N n n0 : Nat} {x1 x2 x3 : Int32} {σ : Sg} (h2 : x2.toInt = (n0 : Int)) (hg : GI N σ) (hn : (σ.1 97 48).toInt = (n : Int)) (hd : ¬ (σ.1 97 45) = 0) (h0 : n0 ≤ n) (h3 : ¬ x3 = (-3 : Int32)) : Rn PRG (d + 1) 299 28 [(0, .ref 97), (1, .int x1), (2, .int x2), (3, .int x3)] [] σ (fun v σ' => ∃ w : Int32, v = some (.int w) ∧ GI N σ') :=
  w_299_28 σ x1 x2 x3 ⟨fun h => absurd h h3, fun _ => ⟨_, rfl, hg.rewind hd hn h0 h2⟩⟩
theorem differs_go {N n0 : Nat} {x1 x2 : Int32} (h2 : x2.toInt = (n0 : Int)) : ∀ (m n : Nat) (x3 : Int32) (σ : Sg), n + m = N → GI N σ → (σ.1 97 48).toInt = (n : Int) → ¬ (σ.1 97 45) = 0 → n0 ≤ n → Rn PRG (10 + 1) 299 28 [(0, .ref 97), (1, .int x1), (2, .int x2), (3, .int x3)] [] σ (fun v σ' => ∃ w : Int32, v = some (.int w) ∧ GI N σ') := by
  intro m
  induction m with
  | zero =>
    intro n x3 σ hm hg hn hd h0
    refine w_299_28 σ x1 x2 x3 ⟨fun _ => ⟨_, cards_OK hg.1 hg.2.2.1, fun w2 σ1 hq => ?_⟩, fun _ => ⟨_, rfl, hg.rewind hd hn h0 h2⟩⟩
    obtain ⟨e1, hw⟩ := hq
    rw [e1]
    exact ⟨fun _ => ⟨_, rfl, hg.rewind hd hn h0 h2⟩, fun c => absurd (by rw [le_i hw hn]; omega) c⟩
  | succ m ih =>
    intro n x3 σ hm hg hn hd h0
    have hN := hg.2.2.1.le
    refine w_299_28 σ x1 x2 x3 ⟨fun _ => ⟨_, cards_OK hg.1 hg.2.2.1, fun w2 σ1 hq => ?_⟩, fun _ => ⟨_, rfl, hg.rewind hd hn h0 h2⟩⟩
    obtain ⟨e1, hw⟩ := hq
    rw [e1]
    refine ⟨fun _ => ⟨_, rfl, hg.rewind hd hn h0 h2⟩, fun _ => ?_⟩
    have hR : RD N n σ := ⟨hg, hn, hd, by omega⟩
    obtain ⟨w0, hF, hp0⟩ := hR.tf
    refine ⟨_, fillMeans_OK hg hF.2.1 hF.2.2.2.1 hF.2.2.2.2 hp0, fun σ3 hq => ?_⟩
    obtain ⟨g3, hg3, hm3⟩ := hq
    refine ⟨_, bestOf_OK (d := 9) hg3.1 hg3.2.2.1, fun w5 σ4 hq => ?_⟩
    obtain ⟨e4, hb⟩ := hq
    rw [e4]
    obtain ⟨c, c1, c2, c3⟩ := bs_card hb (hF.some hp0 hm3)
    have hR3 := hR.keep g3 hg3
    refine ⟨_, lossNow_OK hR3 (by omega), fun w7 σ6 hq => ?_⟩
    obtain ⟨hg6, g6⟩ := hq
    have g36 : Gl mdMeans σ σ6 := g3.trans g6 rfl
    have hR6 := hR.keep g36 hg6
    obtain ⟨w6, hF6, hp6⟩ := hR6.tf
    have ew := hF.same hF6 g36 hp0 hp6
    subst ew
    refine ⟨fun _ => ⟨_, hF6.2.2.2.2 7, fun w9 σ8 hq => ?_⟩, fun _ => differs_end h2 hg6 hR6.2.1 hR6.2.2.1 h0 (fun e => ?_)⟩
    · obtain ⟨e8, e9⟩ := hq
      rw [e8, e9]
      have hbt := my_bt hn hp0 (by omega) hm3 c3
      refine ⟨_, plays_OK (d := 10) hF6 hp6 c2 c1 ⟨by rw [g36.get (q := 125) (κ := 81) rfl rfl]; exact hbt.1, fun ⟨k, k1, k2, k3⟩ => hbt.2 ⟨k, k1, ?_, ?_⟩⟩, fun w11 σ10 hq => ?_⟩
      · rw [← g36.get (q := 127) (κ := 83) (k := k) rfl rfl]; exact k2
      · rw [← g36.get (q := 126) (κ := 82) (k := k) rfl rfl]; exact k3
      · exact ih (n + 1) x3 σ10 (by omega) hq.1 hq.2.1 hq.2.2.1 (by omega)
    · have h6 := hR6.2.1
      rw [e] at h6
      have : (-3 : Int32).toInt = -3 := by decide
      omega
theorem differs_OK {N : Nat} {x1 : Int32} {σ : Sg} (h : GI N σ) : OkI PRG 11 299 [.ref 97, .int x1] σ (fun _ σ' => GI N σ') := by
  obtain ⟨n, w0, hF⟩ := TW.of h
  refine ⟨M_299, rfl, Nat.le_of_ble_eq_true rfl, w_299_0 σ x1 ⟨_, canMean_OK (d := 6) hF, fun w2 σ1 hq => ?_⟩⟩
  obtain ⟨e1, c0⟩ := hq
  rw [e1]
  refine ⟨fun _ => ⟨_, rfl, h⟩, fun hne => ⟨_, isLate_OK (d := 6) hF (c0 hne), fun w4 σ3 hq => ?_⟩⟩
  rw [hq]
  have hR := hF.rd (c0 hne)
  exact ⟨fun _ => ⟨_, rfl, h⟩, fun _ => differs_go hR.2.1 (N - n) n _ σ (by have := hR.2.2.2; omega) h hR.2.1 hR.2.2.1 (Nat.le_refl _)⟩
