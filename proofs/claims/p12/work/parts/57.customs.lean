/-! appliesTo, lieOf: what must hold -/
set_option maxRecDepth 100000 in
theorem w_253_0 {d : Nat} {Q : Option Value → Sg → Prop} (σ : Sg) (x1 x2 x3 x4 x5 x6 x7 : Int32) (h : (∃ Qc : Sg → Prop, OkV PRG d 248 [.ref 97, .int x4, .int x5, .int x6, .int x7] σ Qc ∧ ∀ σ1, Qc σ1 → Rn PRG (d + 1) 253 18 [(0, .ref 97), (1, .int x1), (2, .int x2), (3, .int x3), (8, .int (0 : Int32)), (9, .int (0 : Int32))] [] σ1 Q)) : Rn PRG (d + 1) 253 0 [(0, .ref 97), (1, .int x1), (2, .int x2), (3, .int x3), (4, .int x4), (5, .int x5), (6, .int x6), (7, .int x7)] [] σ Q := by
  have hM : PRG[253]? = some M_253 := rfl
  refine Rn.seg (pc' := 9) (ls' := [(0, .ref 97), (1, .int x1), (2, .int x2), (3, .int x3), (4, .int x4), (5, .int x5), (6, .int x6), (7, .int x7)]) (st' := [.int x7, .int x6, .int x5, .int x4, .ref 97]) (σ' := σ) hM 5 rfl ?_
  obtain ⟨Qc, hq, h⟩ := h
  refine Rn.cV hM rfl rfl (by decide) hq (fun σ1 hw => ?_)
  replace h := h σ1 hw
  refine Rn.seg (pc' := 18) (ls' := [(9, .int (0 : Int32)), (8, .int (0 : Int32)), (0, .ref 97), (1, .int x1), (2, .int x2), (3, .int x3), (4, .int x4), (5, .int x5), (6, .int x6), (7, .int x7)]) (st' := []) (σ' := σ1) hM 4 rfl ?_
  exact Rn.sub h (subL_cons rfl (subL_cons rfl (subL_cons rfl (subL_cons rfl (subL_cons rfl (subL_cons rfl subL_nil)))))) (show ndL _ from (by decide : List.Nodup ([0, 1, 2, 3, 8, 9] : List Nat)))
set_option maxRecDepth 100000 in
theorem w_253_18 {d : Nat} {Q : Option Value → Sg → Prop} (σ : Sg) (x1 x2 x3 x8 x9 : Int32) (h : (inR (σ.1 97 18) 2 = true ∧ (((σ.1 109 (σ.1 97 18).toNatClampNeg) ≤ x9 → Q (some (.int x8)) σ) ∧ (¬ (σ.1 109 (σ.1 97 18).toNatClampNeg) ≤ x9 → ((((x1 >>> (x9 &&& 31)) &&& (1 : Int32)) = (1 : Int32) → (∃ Qc : Int32 → Sg → Prop, OkI PRG d 250 [.ref 97, .int x9, .int x2, .int x3] σ Qc ∧ ∀ w2 σ1, Qc w2 σ1 → ((w2 = 0 → Rn PRG (d + 1) 253 18 [(0, .ref 97), (1, .int x1), (2, .int x2), (3, .int x3), (8, .int x8), (9, .int (x9 + (1 : Int32)))] [] σ1 Q) ∧ (¬ w2 = 0 → (∃ Qc : Int32 → Sg → Prop, OkI PRG d 251 [.ref 97, .int x9] σ1 Qc ∧ ∀ w4 σ3, Qc w4 σ3 → ((w4 = 0 → Rn PRG (d + 1) 253 18 [(0, .ref 97), (1, .int x1), (2, .int x2), (3, .int x3), (8, .int x8), (9, .int (x9 + (1 : Int32)))] [] σ3 Q) ∧ (¬ w4 = 0 → Rn PRG (d + 1) 253 18 [(0, .ref 97), (1, .int x1), (2, .int x2), (3, .int x3), (8, .int (x8 ||| ((1 : Int32) <<< (x9 &&& 31)))), (9, .int (x9 + (1 : Int32)))] [] σ3 Q))))))) ∧ (¬ ((x1 >>> (x9 &&& 31)) &&& (1 : Int32)) = (1 : Int32) → Rn PRG (d + 1) 253 18 [(0, .ref 97), (1, .int x1), (2, .int x2), (3, .int x3), (8, .int x8), (9, .int (x9 + (1 : Int32)))] [] σ Q)))))) : Rn PRG (d + 1) 253 18 [(0, .ref 97), (1, .int x1), (2, .int x2), (3, .int x3), (8, .int x8), (9, .int x9)] [] σ Q := by
  have hM : PRG[253]? = some M_253 := rfl
  refine Rn.seg (pc' := 28) (ls' := [(0, .ref 97), (1, .int x1), (2, .int x2), (3, .int x3), (8, .int x8), (9, .int x9)]) (st' := [.int (σ.1 97 18), .ref 109, .int x9]) (σ' := σ) hM 5 rfl ?_
  refine Rn.iald hM rfl rfl h.1 ?_
  refine Rn.br (c := (σ.1 109 (σ.1 97 18).toNatClampNeg) ≤ x9) (a := 77) (b := 32) (ls' := [(0, .ref 97), (1, .int x1), (2, .int x2), (3, .int x3), (8, .int x8), (9, .int x9)]) (st' := []) (σ' := σ) hM 1 rfl (fun c => ?_) (fun c => ?_)
  · replace h := h.2.1 c
    refine Rn.seg (pc' := 79) (ls' := [(0, .ref 97), (1, .int x1), (2, .int x2), (3, .int x3), (8, .int x8), (9, .int x9)]) (st' := [.int x8]) (σ' := σ) hM 1 rfl ?_
    exact Rn.ret hM rfl rfl h
  · replace h := h.2.2 c
    refine Rn.brN (c := ((x1 >>> (x9 &&& 31)) &&& (1 : Int32)) = (1 : Int32)) (a := 71) (b := 42) (ls' := [(0, .ref 97), (1, .int x1), (2, .int x2), (3, .int x3), (8, .int x8), (9, .int x9)]) (st' := []) (σ' := σ) hM 7 rfl (fun c => ?_) (fun c => ?_)
    · replace h := h.2 c
      refine Rn.seg (pc' := 18) (ls' := [(9, .int (x9 + (1 : Int32))), (0, .ref 97), (1, .int x1), (2, .int x2), (3, .int x3), (8, .int x8)]) (st' := []) (σ' := σ) hM 2 rfl ?_
      exact Rn.sub h (subL_cons rfl (subL_cons rfl (subL_cons rfl (subL_cons rfl (subL_cons rfl (subL_cons rfl subL_nil)))))) (show ndL _ from (by decide : List.Nodup ([0, 1, 2, 3, 8, 9] : List Nat)))
    · replace h := h.1 c
      refine Rn.seg (pc' := 47) (ls' := [(0, .ref 97), (1, .int x1), (2, .int x2), (3, .int x3), (8, .int x8), (9, .int x9)]) (st' := [.int x3, .int x2, .int x9, .ref 97]) (σ' := σ) hM 4 rfl ?_
      obtain ⟨Qc, hq, h⟩ := h
      refine Rn.cI hM rfl rfl (by decide) hq (fun w2 σ1 hw => ?_)
      replace h := h w2 σ1 hw
      refine Rn.br (c := w2 = 0) (a := 71) (b := 53) (ls' := [(0, .ref 97), (1, .int x1), (2, .int x2), (3, .int x3), (8, .int x8), (9, .int x9)]) (st' := []) (σ' := σ1) hM 1 rfl (fun c => ?_) (fun c => ?_)
      · replace h := h.1 c
        refine Rn.seg (pc' := 18) (ls' := [(9, .int (x9 + (1 : Int32))), (0, .ref 97), (1, .int x1), (2, .int x2), (3, .int x3), (8, .int x8)]) (st' := []) (σ' := σ1) hM 2 rfl ?_
        exact Rn.sub h (subL_cons rfl (subL_cons rfl (subL_cons rfl (subL_cons rfl (subL_cons rfl (subL_cons rfl subL_nil)))))) (show ndL _ from (by decide : List.Nodup ([0, 1, 2, 3, 8, 9] : List Nat)))
      · replace h := h.2 c
        refine Rn.seg (pc' := 56) (ls' := [(0, .ref 97), (1, .int x1), (2, .int x2), (3, .int x3), (8, .int x8), (9, .int x9)]) (st' := [.int x9, .ref 97]) (σ' := σ1) hM 2 rfl ?_
        obtain ⟨Qc, hq, h⟩ := h
        refine Rn.cI hM rfl rfl (by decide) hq (fun w4 σ3 hw => ?_)
        replace h := h w4 σ3 hw
        refine Rn.br (c := w4 = 0) (a := 71) (b := 62) (ls' := [(0, .ref 97), (1, .int x1), (2, .int x2), (3, .int x3), (8, .int x8), (9, .int x9)]) (st' := []) (σ' := σ3) hM 1 rfl (fun c => ?_) (fun c => ?_)
        · replace h := h.1 c
          refine Rn.seg (pc' := 18) (ls' := [(9, .int (x9 + (1 : Int32))), (0, .ref 97), (1, .int x1), (2, .int x2), (3, .int x3), (8, .int x8)]) (st' := []) (σ' := σ3) hM 2 rfl ?_
          exact Rn.sub h (subL_cons rfl (subL_cons rfl (subL_cons rfl (subL_cons rfl (subL_cons rfl (subL_cons rfl subL_nil)))))) (show ndL _ from (by decide : List.Nodup ([0, 1, 2, 3, 8, 9] : List Nat)))
        · replace h := h.2 c
          refine Rn.seg (pc' := 18) (ls' := [(9, .int (x9 + (1 : Int32))), (8, .int (x8 ||| ((1 : Int32) <<< (x9 &&& 31)))), (0, .ref 97), (1, .int x1), (2, .int x2), (3, .int x3)]) (st' := []) (σ' := σ3) hM 8 rfl ?_
          exact Rn.sub h (subL_cons rfl (subL_cons rfl (subL_cons rfl (subL_cons rfl (subL_cons rfl (subL_cons rfl subL_nil)))))) (show ndL _ from (by decide : List.Nodup ([0, 1, 2, 3, 8, 9] : List Nat)))
set_option maxRecDepth 100000 in
theorem w_254_0 {d : Nat} {Q : Option Value → Sg → Prop} (σ : Sg) (x1 x2 x3 : Int32) (h : (∃ Qc : Sg → Prop, OkV PRG d 249 [.ref 97, .int x2, .int x3] σ Qc ∧ ∀ σ1, Qc σ1 → Rn PRG (d + 1) 254 12 [(0, .ref 97), (1, .int x1), (4, .int (0 : Int32)), (5, .int (0 : Int32))] [] σ1 Q)) : Rn PRG (d + 1) 254 0 [(0, .ref 97), (1, .int x1), (2, .int x2), (3, .int x3)] [] σ Q := by
  have hM : PRG[254]? = some M_254 := rfl
  refine Rn.seg (pc' := 3) (ls' := [(0, .ref 97), (1, .int x1), (2, .int x2), (3, .int x3)]) (st' := [.int x3, .int x2, .ref 97]) (σ' := σ) hM 3 rfl ?_
  obtain ⟨Qc, hq, h⟩ := h
  refine Rn.cV hM rfl rfl (by decide) hq (fun σ1 hw => ?_)
  replace h := h σ1 hw
  refine Rn.seg (pc' := 12) (ls' := [(5, .int (0 : Int32)), (4, .int (0 : Int32)), (0, .ref 97), (1, .int x1), (2, .int x2), (3, .int x3)]) (st' := []) (σ' := σ1) hM 4 rfl ?_
  exact Rn.sub h (subL_cons rfl (subL_cons rfl (subL_cons rfl (subL_cons rfl subL_nil)))) (show ndL _ from (by decide : List.Nodup ([0, 1, 4, 5] : List Nat)))
set_option maxRecDepth 100000 in
theorem w_254_12 {d : Nat} {Q : Option Value → Sg → Prop} (σ : Sg) (x1 x4 x5 : Int32) (h : (inR (σ.1 97 18) 2 = true ∧ (((σ.1 109 (σ.1 97 18).toNatClampNeg) ≤ x5 → Q (some (.int x4)) σ) ∧ (¬ (σ.1 109 (σ.1 97 18).toNatClampNeg) ≤ x5 → ((((x1 >>> (x5 &&& 31)) &&& (1 : Int32)) = (1 : Int32) → (∃ Qc : Int32 → Sg → Prop, OkI PRG d 252 [.ref 97, .int x5] σ Qc ∧ ∀ w2 σ1, Qc w2 σ1 → ((w2 = 0 → Rn PRG (d + 1) 254 12 [(0, .ref 97), (1, .int x1), (4, .int (x4 ||| ((1 : Int32) <<< (x5 &&& 31)))), (5, .int (x5 + (1 : Int32)))] [] σ1 Q) ∧ (¬ w2 = 0 → Rn PRG (d + 1) 254 12 [(0, .ref 97), (1, .int x1), (4, .int x4), (5, .int (x5 + (1 : Int32)))] [] σ1 Q)))) ∧ (¬ ((x1 >>> (x5 &&& 31)) &&& (1 : Int32)) = (1 : Int32) → Rn PRG (d + 1) 254 12 [(0, .ref 97), (1, .int x1), (4, .int x4), (5, .int (x5 + (1 : Int32)))] [] σ Q)))))) : Rn PRG (d + 1) 254 12 [(0, .ref 97), (1, .int x1), (4, .int x4), (5, .int x5)] [] σ Q := by
  have hM : PRG[254]? = some M_254 := rfl
  refine Rn.seg (pc' := 22) (ls' := [(0, .ref 97), (1, .int x1), (4, .int x4), (5, .int x5)]) (st' := [.int (σ.1 97 18), .ref 109, .int x5]) (σ' := σ) hM 5 rfl ?_
  refine Rn.iald hM rfl rfl h.1 ?_
  refine Rn.br (c := (σ.1 109 (σ.1 97 18).toNatClampNeg) ≤ x5) (a := 60) (b := 26) (ls' := [(0, .ref 97), (1, .int x1), (4, .int x4), (5, .int x5)]) (st' := []) (σ' := σ) hM 1 rfl (fun c => ?_) (fun c => ?_)
  · replace h := h.2.1 c
    refine Rn.seg (pc' := 62) (ls' := [(0, .ref 97), (1, .int x1), (4, .int x4), (5, .int x5)]) (st' := [.int x4]) (σ' := σ) hM 1 rfl ?_
    exact Rn.ret hM rfl rfl h
  · replace h := h.2.2 c
    refine Rn.brN (c := ((x1 >>> (x5 &&& 31)) &&& (1 : Int32)) = (1 : Int32)) (a := 54) (b := 36) (ls' := [(0, .ref 97), (1, .int x1), (4, .int x4), (5, .int x5)]) (st' := []) (σ' := σ) hM 7 rfl (fun c => ?_) (fun c => ?_)
    · replace h := h.2 c
      refine Rn.seg (pc' := 12) (ls' := [(5, .int (x5 + (1 : Int32))), (0, .ref 97), (1, .int x1), (4, .int x4)]) (st' := []) (σ' := σ) hM 2 rfl ?_
      exact Rn.sub h (subL_cons rfl (subL_cons rfl (subL_cons rfl (subL_cons rfl subL_nil)))) (show ndL _ from (by decide : List.Nodup ([0, 1, 4, 5] : List Nat)))
    · replace h := h.1 c
      refine Rn.seg (pc' := 39) (ls' := [(0, .ref 97), (1, .int x1), (4, .int x4), (5, .int x5)]) (st' := [.int x5, .ref 97]) (σ' := σ) hM 2 rfl ?_
      obtain ⟨Qc, hq, h⟩ := h
      refine Rn.cI hM rfl rfl (by decide) hq (fun w2 σ1 hw => ?_)
      replace h := h w2 σ1 hw
      refine Rn.brN (c := w2 = 0) (a := 54) (b := 45) (ls' := [(0, .ref 97), (1, .int x1), (4, .int x4), (5, .int x5)]) (st' := []) (σ' := σ1) hM 1 rfl (fun c => ?_) (fun c => ?_)
      · replace h := h.2 c
        refine Rn.seg (pc' := 12) (ls' := [(5, .int (x5 + (1 : Int32))), (0, .ref 97), (1, .int x1), (4, .int x4)]) (st' := []) (σ' := σ1) hM 2 rfl ?_
        exact Rn.sub h (subL_cons rfl (subL_cons rfl (subL_cons rfl (subL_cons rfl subL_nil)))) (show ndL _ from (by decide : List.Nodup ([0, 1, 4, 5] : List Nat)))
      · replace h := h.1 c
        refine Rn.seg (pc' := 12) (ls' := [(5, .int (x5 + (1 : Int32))), (4, .int (x4 ||| ((1 : Int32) <<< (x5 &&& 31)))), (0, .ref 97), (1, .int x1)]) (st' := []) (σ' := σ1) hM 8 rfl ?_
        exact Rn.sub h (subL_cons rfl (subL_cons rfl (subL_cons rfl (subL_cons rfl subL_nil)))) (show ndL _ from (by decide : List.Nodup ([0, 1, 4, 5] : List Nat)))
/-! the customs stand: an invariant; appliesTo, lieOf -/
theorem avsN : avsOK [] [] := ⟨rfl, fun j t v h => by cases h⟩
theorem avsC {t : Nat × Int × Int} {ts : List (Nat × Int × Int)} {v : Value} {av : List Value} (h : avOK t v) (hs : avsOK ts av) : avsOK (t :: ts) (v :: av) := by
  refine ⟨by simp [hs.1], fun j t' v' hj hv => ?_⟩
  cases j with
  | zero => cases hj; cases hv; exact h
  | succ j => exact hs.2 j t' v' hj hv
theorem avI {w : Int32} {lo hi : Int} (h1 : lo ≤ w.toInt) (h2 : w.toInt ≤ hi) : avOK (0, lo, hi) (.int w) := ⟨w, rfl, h1, h2⟩
theorem avF {w : Int32} : avOK (0, -2147483648, 2147483647) (.int w) := ⟨w, rfl, w_lo w, w_hi w⟩
theorem avM : avOK (1, 12, 0) (.ref 97) := ⟨97, rfl, rfl⟩
/-- a promise without fields before it, at a state -/
theorem SpecOK.at {I : Sg → Prop} {mi : Nat} {sp : SP} (h : SpecOK PRG TYP I mi sp) {av : List Value} {σ : Sg} (ht : typed TYP σ) (hI : I σ) (hav : avsOK (spArgs sp) av) (hp : spPre sp = []) (hf : spPhi sp = []) : Ok PRG (spD sp) mi av σ (spQ TYP I sp av σ) :=
  h.2 av σ ht hI hav (fun p hp2 => by rw [hp] at hp2; cases hp2) (fun p hp2 => by rw [hf] at hp2; cases hp2)
theorem SpecOK.atV {I : Sg → Prop} {mi : Nat} {sp : SP} (h : SpecOK PRG TYP I mi sp) {av : List Value} {σ : Sg} (ht : typed TYP σ) (hI : I σ) (hav : avsOK (spArgs sp) av) (hp : spPre sp = []) (hf : spPhi sp = []) (hr : spRes sp = none) : OkV PRG (spD sp) mi av σ (fun σ' => Gl (spMods sp) σ σ' ∧ I σ') := by
  refine (h.at ht hI hav hp hf).mono (fun v σ' hq => ?_)
  obtain ⟨⟨g1, g2, g3⟩, g4, -⟩ := hq
  rw [hr] at g4
  refine ⟨?_, ⟨g1, trivial, g3⟩, g2⟩
  cases v with
  | none => rfl
  | some v => exact absurd g4 (fun h => h)
theorem SpecOK.atI {I : Sg → Prop} {mi : Nat} {sp : SP} {lo hi : Int} (h : SpecOK PRG TYP I mi sp) {av : List Value} {σ : Sg} (ht : typed TYP σ) (hI : I σ) (hav : avsOK (spArgs sp) av) (hp : spPre sp = []) (hf : spPhi sp = []) (hr : spRes sp = some (0, lo, hi)) : OkI PRG (spD sp) mi av σ (fun w σ' => Gl (spMods sp) σ σ' ∧ I σ' ∧ lo ≤ w.toInt ∧ w.toInt ≤ hi) := by
  refine (h.at ht hI hav hp hf).mono (fun v σ' hq => ?_)
  obtain ⟨⟨g1, g2, g3⟩, g4, -⟩ := hq
  rw [hr] at g4
  cases v with
  | none => exact absurd g4 (fun h => h)
  | some v =>
    obtain ⟨w, rfl, a, b⟩ := g4
    exact ⟨w, rfl, ⟨g1, trivial, g3⟩, g2, a, b⟩
def DEPW : List (Nat × Nat × Nat) := [(12, 18, 18), (65, 0, 1), (68, 0, 23), (69, 0, 23), (73, 0, 299), (74, 0, 299), (75, 0, 299), (76, 0, 839), (77, 0, 839)]
def WFi (σ : Sg) : Prop := 0 ≤ (σ.1 97 18).toInt ∧ (σ.1 97 18).toInt ≤ 1 ∧ (σ.1 109 (wn (σ.1 97 18))).toInt ≤ 6 ∧ WFc σ
theorem inM_of {ms : List (Nat × Nat × Nat)} {κ a b k : Nat} (h : (κ, a, b) ∈ ms) (h1 : a ≤ k) (h2 : k ≤ b) : inM ms κ k = true := by
  unfold inM
  refine List.any_eq_true.mpr ⟨_, h, ?_⟩
  simp only [Bool.and_eq_true]
  exact ⟨by simp, Nat.ble_eq_true_of_le h1, Nat.ble_eq_true_of_le h2⟩
theorem WFi_frame {σ σ' : Sg} (H : ∀ q κ k, kdn q = some κ → inM DEPW κ k = true → σ'.1 q k = σ.1 q k) (h : WFi σ) : WFi σ' := by
  have e18 : σ'.1 97 18 = σ.1 97 18 := H 97 12 18 rfl rfl
  obtain ⟨a1, a2, a3, a4⟩ := h
  have hl : wn (σ.1 97 18) ≤ 1 := by unfold wn; omega
  have e109 : σ'.1 109 (wn (σ.1 97 18)) = σ.1 109 (wn (σ.1 97 18)) := H 109 65 _ rfl (inM_of (a := 0) (b := 1) (by decide) (by omega) hl)
  have e112 : ∀ k, k < 24 → σ'.1 112 k = σ.1 112 k := fun k hk => H 112 68 k rfl (inM_of (a := 0) (b := 23) (by decide) (by omega) (by omega))
  have e113 : ∀ k, k < 24 → σ'.1 113 k = σ.1 113 k := fun k hk => H 113 69 k rfl (inM_of (a := 0) (b := 23) (by decide) (by omega) (by omega))
  have e117 : ∀ k, k < 300 → σ'.1 117 k = σ.1 117 k := fun k hk => H 117 73 k rfl (inM_of (a := 0) (b := 299) (by decide) (by omega) (by omega))
  have e118 : ∀ k, k < 300 → σ'.1 118 k = σ.1 118 k := fun k hk => H 118 74 k rfl (inM_of (a := 0) (b := 299) (by decide) (by omega) (by omega))
  have e119 : ∀ k, k < 300 → σ'.1 119 k = σ.1 119 k := fun k hk => H 119 75 k rfl (inM_of (a := 0) (b := 299) (by decide) (by omega) (by omega))
  have e120 : ∀ k, k < 840 → σ'.1 120 k = σ.1 120 k := fun k hk => H 120 76 k rfl (inM_of (a := 0) (b := 839) (by decide) (by omega) (by omega))
  have e121 : ∀ k, k < 840 → σ'.1 121 k = σ.1 121 k := fun k hk => H 121 77 k rfl (inM_of (a := 0) (b := 839) (by decide) (by omega) (by omega))
  have hWE : ∀ {a b : Int32}, WE σ a b → WE σ' a b := by
    intro a b hW
    obtain ⟨b1, b2, D, b3, b4⟩ := hW
    refine ⟨b1, b2, D, b3, fun c c1 c2 => ?_⟩
    rw [e120 c (by omega), e121 c (by omega)]
    exact b4 c c1 c2
  have hR : ∀ r, r < 24 → RULE σ r → RULE σ' r := by
    intro r hr hRU
    obtain ⟨b1, b2, b3, b4⟩ := hRU
    unfold RULE
    rw [e112 r hr, e113 r hr]
    refine ⟨b1, b2, fun t t1 t2 => ?_, b4⟩
    have := b3 t t1 t2
    unfold LIT RG
    rw [e117 t (by omega), e118 t (by omega), e119 t (by omega)]
    exact ⟨hWE this.1, hWE this.2.1, this.2.2⟩
  refine ⟨by rw [e18]; exact a1, by rw [e18]; exact a2, by rw [e18, e109]; exact a3, fun k hk => ?_⟩
  rw [e18, e109] at hk
  rw [e18]
  have := a4 k hk
  exact ⟨hR _ (by omega) this.1, hR _ (by omega) this.2⟩
def I2 (σ : Sg) : Prop := PKi σ ∧ WFi σ
def DEP2 : List (Nat × Nat × Nat) := [(12, 18, 18), (62, 0, 1), (63, 0, 1), (65, 0, 1), (68, 0, 23), (69, 0, 23), (73, 0, 299), (74, 0, 299), (75, 0, 299), (76, 0, 839), (77, 0, 839)]
theorem subD {ms' ms : List (Nat × Nat × Nat)} (h : subMs ms' ms = true) {κ k : Nat} (hk : inM ms' κ k = true) : inM ms κ k = true := by
  cases hc : inM ms κ k with
  | true => rfl
  | false => rw [inM_sub h hc] at hk; cases hk
theorem stab2 : stab I2 DEP2 := by
  refine ⟨fun σ q κ k x hq hk hI => ⟨stabPK.1 σ q κ k x hq (inM_sub (ms := DEP2) rfl hk) hI.1, WFi_frame (fun q' κ' k' hq' hk' => ?_) hI.2⟩, fun σ q k x hI => hI⟩
  refine s1_off (fun ⟨h1, h2⟩ => ?_)
  subst h1; subst h2
  rw [hq] at hq'
  cases hq'
  rw [subD (ms' := DEPW) (ms := DEP2) rfl hk'] at hk
  cases hk
def offD (ms dep : List (Nat × Nat × Nat)) : Bool := ms.all (fun m => dep.all (fun n => !(Nat.beq m.1 n.1) || (Nat.blt m.2.2 n.2.1 || Nat.blt n.2.2 m.2.1)))
theorem off_in {ms dep : List (Nat × Nat × Nat)} (h : offD ms dep = true) {κ k : Nat} (hk : inM dep κ k = true) : inM ms κ k = false := by
  cases hc : inM ms κ k with
  | false => rfl
  | true =>
    unfold inM at hc hk
    obtain ⟨m, hm, e1⟩ := List.any_eq_true.mp hc
    obtain ⟨n, hn, e2⟩ := List.any_eq_true.mp hk
    have := List.all_eq_true.mp (List.all_eq_true.mp h m hm) n hn
    simp only [Bool.and_eq_true] at e1 e2
    have a1 := Nat.eq_of_beq_eq_true e1.1
    have a2 := Nat.le_of_ble_eq_true e1.2.1
    have a3 := Nat.le_of_ble_eq_true e1.2.2
    have b1 := Nat.eq_of_beq_eq_true e2.1
    have b2 := Nat.le_of_ble_eq_true e2.2.1
    have b3 := Nat.le_of_ble_eq_true e2.2.2
    simp only [Bool.or_eq_true, Bool.not_eq_true'] at this
    rcases this with h1 | h1 | h1
    · rw [a1, b1] at h1; simp at h1
    · have := Nat.blt_eq.mp h1; omega
    · have := Nat.blt_eq.mp h1; omega
/-- what hangs on the pack alone serves also where the customs stand -/
theorem SpecOK.lift2 {mi : Nat} {sp : SP} (h : SpecOK PRG TYP PKi mi sp) (ho : offD (spMods sp) DEPW = true) : SpecOK PRG TYP I2 mi sp := by
  refine ⟨h.1, fun av σ ht hI hav hp hf => (h.2 av σ ht hI.1 hav hp hf).mono (fun v σ' hq => ?_)⟩
  obtain ⟨⟨g1, g2, g3⟩, g4⟩ := hq
  exact ⟨⟨g1, ⟨g2, WFi_frame (fun q κ k hq hk => g3 q κ k hq (off_in ho hk)) hI.2⟩, g3⟩, g4⟩
theorem I2.keep {ms : List (Nat × Nat × Nat)} {σ σ' : Sg} (h : I2 σ) (hG : Gl ms σ σ') (ho : offD ms DEP2 = true) : I2 σ' := by
  obtain ⟨⟨a, b, N, hN⟩, hW⟩ := h
  have ho2 : ∀ {κ k : Nat}, inM DEP2 κ k = true → inM ms κ k = false := fun hk => off_in ho hk
  have e18 : σ'.1 97 18 = σ.1 97 18 := hG.get (q := 97) (κ := 12) rfl (ho2 rfl)
  have hc : (σ.1 97 18).toNatClampNeg ≤ 1 := by show (σ.1 97 18).toInt.toNat ≤ 1; omega
  have e106 : σ'.1 106 (σ.1 97 18).toNatClampNeg = σ.1 106 (σ.1 97 18).toNatClampNeg := hG.get (q := 106) (κ := 62) rfl (ho2 (inM_of (a := 0) (b := 1) (by decide) (by omega) hc))
  have e107 : σ'.1 107 (σ.1 97 18).toNatClampNeg = σ.1 107 (σ.1 97 18).toNatClampNeg := hG.get (q := 107) (κ := 63) rfl (ho2 (inM_of (a := 0) (b := 1) (by decide) (by omega) hc))
  exact ⟨⟨by rw [e18]; exact a, by rw [e18]; exact b, N, pack_of e18 e106 e107 hN⟩, WFi_frame (fun q κ k hq hk => hG.2.2 q κ k hq (ho2 (subD (ms' := DEPW) (ms := DEP2) rfl hk))) hW⟩
theorem I2.cust {σ : Sg} (ht : typed TYP σ) (h : I2 σ) : inR (σ.1 97 18) 2 = true ∧ (σ.1 97 18).toNatClampNeg = wn (σ.1 97 18) ∧ 0 ≤ (σ.1 109 (wn (σ.1 97 18))).toInt ∧ (σ.1 109 (wn (σ.1 97 18))).toInt ≤ 6 := by
  have hl := live_wn ht
  have hc := tyA ht (q := 109) (κ := 65) (k := wn (σ.1 97 18)) (a := 0) (b := 1) (lo := 0) (hi := 6) rfl rfl (by omega) (by omega)
  exact ⟨live_in ht, rfl, hc⟩
theorem applies_go {d : Nat} {x1 x2 x3 : Int32} {σ0 : Sg} : ∀ (m k : Nat) (x8 x9 : Int32) (σ : Sg), k + m = 7 → x9.toInt = (k : Int) → I2 σ → Gl mdFit σ0 σ → Rn PRG (d + 1 + 1 + 1 + 1) 253 18 [(0, .ref 97), (1, .int x1), (2, .int x2), (3, .int x3), (8, .int x8), (9, .int x9)] [] σ (fun v σ' => ∃ w : Int32, v = some (.int w) ∧ Gl mdFit σ0 σ' ∧ I2 σ') := by
  intro m
  induction m with
  | zero =>
    intro k x8 x9 σ hk h9 hI hG
    obtain ⟨c1, c2, c3, c4⟩ := hI.cust hG.1
    refine w_253_18 σ x1 x2 x3 x8 x9 ⟨c1, fun _ => ⟨_, rfl, hG, hI⟩, fun c => absurd ?_ c⟩
    rw [c2, Int32.le_iff_toInt_le, h9]; omega
  | succ m ih =>
    intro k x8 x9 σ hk h9 hI hG
    obtain ⟨c1, c2, c3, c4⟩ := hI.cust hG.1
    refine w_253_18 σ x1 x2 x3 x8 x9 ⟨c1, fun _ => ⟨_, rfl, hG, hI⟩, fun c => ?_⟩
    rw [c2, Int32.le_iff_toInt_le, h9] at c
    have hx9 : (x9 + (1 : Int32)).toInt = ((k + 1 : Nat) : Int) := by
      rw [add_lit (k := 1) h9 (by decide) (by unfold FL; omega) (by unfold FH; omega)]; push_cast; rfl
    have next : ∀ (y : Int32) (σ' : Sg), I2 σ' → Gl mdFit σ0 σ' → Rn PRG (d + 1 + 1 + 1 + 1) 253 18 [(0, .ref 97), (1, .int x1), (2, .int x2), (3, .int x3), (8, .int y), (9, .int (x9 + (1 : Int32)))] [] σ' (fun v σ' => ∃ w : Int32, v = some (.int w) ∧ Gl mdFit σ0 σ' ∧ I2 σ') := fun y σ' hI' hG' => ih (k + 1) y _ σ' (by omega) hx9 hI' hG'
    refine ⟨fun _ => ⟨_, OkI.deep ((c_250.lift2 rfl).atI hG.1 hI (avsC avM (avsC (avI (by rw [h9]; clear hx9; omega) (by rw [h9]; clear hx9; omega)) (avsC avF (avsC avF avsN)))) rfl rfl rfl) (Nat.zero_le _), fun w2 σ1 hq => ?_⟩, fun _ => next x8 σ hI hG⟩
    obtain ⟨q1, q2, -⟩ := hq
    have hG1 : Gl mdFit σ0 σ1 := hG.trans q1 rfl
    refine ⟨fun _ => next x8 σ1 q2 hG1, fun _ => ?_⟩
    have e18 : σ1.1 97 18 = σ.1 97 18 := q1.get (q := 97) (κ := 12) rfl rfl
    have e109 : ∀ k, σ1.1 109 k = σ.1 109 k := fun k => q1.get (q := 109) (κ := 65) rfl rfl
    refine ⟨_, isWhen_OK hG1.1 h9 (by rw [e18, e109]; clear hx9; omega) q2.2.2.2.2, fun w4 σ3 hq => ?_⟩
    have hG3 : Gl mdFit σ0 σ3 := hG1.trans hq.2 rfl
    have hI3 : I2 σ3 := q2.keep hq.2 rfl
    exact ⟨fun _ => next x8 σ3 hI3 hG3, fun _ => next _ σ3 hI3 hG3⟩
theorem appliesTo_OK {d : Nat} {x1 x2 x3 x4 x5 x6 x7 : Int32} {σ : Sg} (ht : typed TYP σ) (hI : I2 σ) (h4 : -1 ≤ x4.toInt ∧ x4.toInt ≤ 15) : OkI PRG (d + 1 + 1 + 1 + 1) 253 [.ref 97, .int x1, .int x2, .int x3, .int x4, .int x5, .int x6, .int x7] σ (fun _ σ' => Gl mdFit σ σ' ∧ I2 σ') := by
  refine ⟨M_253, rfl, Nat.le_of_ble_eq_true rfl, w_253_0 σ x1 x2 x3 x4 x5 x6 x7 ⟨_, OkV.deep ((c_248.lift2 rfl).atV ht hI (avsC avM (avsC (avI h4.1 h4.2) (avsC avF (avsC avF (avsC avF avsN))))) rfl rfl rfl) (show 1 ≤ d + 1 + 1 + 1 by omega), fun σ1 hq => ?_⟩⟩
  exact applies_go 7 0 0 0 σ1 rfl rfl hq.2 (hq.1.mono rfl)
theorem lie_go {d : Nat} {x1 : Int32} {σ0 : Sg} : ∀ (m k : Nat) (x4 x5 : Int32) (σ : Sg), k + m = 7 → x5.toInt = (k : Int) → I2 σ → Gl mdFit σ0 σ → Rn PRG (d + 1 + 1 + 1 + 1) 254 12 [(0, .ref 97), (1, .int x1), (4, .int x4), (5, .int x5)] [] σ (fun v σ' => ∃ w : Int32, v = some (.int w) ∧ Gl mdFit σ0 σ' ∧ I2 σ') := by
  intro m
  induction m with
  | zero =>
    intro k x4 x5 σ hk h5 hI hG
    obtain ⟨c1, c2, c3, c4⟩ := hI.cust hG.1
    refine w_254_12 σ x1 x4 x5 ⟨c1, fun _ => ⟨_, rfl, hG, hI⟩, fun c => absurd ?_ c⟩
    rw [c2, Int32.le_iff_toInt_le, h5]; omega
  | succ m ih =>
    intro k x4 x5 σ hk h5 hI hG
    obtain ⟨c1, c2, c3, c4⟩ := hI.cust hG.1
    refine w_254_12 σ x1 x4 x5 ⟨c1, fun _ => ⟨_, rfl, hG, hI⟩, fun c => ?_⟩
    rw [c2, Int32.le_iff_toInt_le, h5] at c
    have hx5 : (x5 + (1 : Int32)).toInt = ((k + 1 : Nat) : Int) := by
      rw [add_lit (k := 1) h5 (by decide) (by unfold FL; omega) (by unfold FH; omega)]; push_cast; rfl
    have next : ∀ (y : Int32) (σ' : Sg), I2 σ' → Gl mdFit σ0 σ' → Rn PRG (d + 1 + 1 + 1 + 1) 254 12 [(0, .ref 97), (1, .int x1), (4, .int y), (5, .int (x5 + (1 : Int32)))] [] σ' (fun v σ' => ∃ w : Int32, v = some (.int w) ∧ Gl mdFit σ0 σ' ∧ I2 σ') := fun y σ' hI' hG' => ih (k + 1) y _ σ' (by omega) hx5 hI' hG'
    refine ⟨fun _ => ⟨_, isTold_OK hG.1 h5 (by clear hx5; omega) hI.2.2.2.2, fun w2 σ1 hq => ?_⟩, fun _ => next x4 σ hI hG⟩
    have hG1 : Gl mdFit σ0 σ1 := hG.trans hq.2 rfl
    have hI1 : I2 σ1 := hI.keep hq.2 rfl
    exact ⟨fun _ => next _ σ1 hI1 hG1, fun _ => next x4 σ1 hI1 hG1⟩
theorem lieOf_OK {d : Nat} {x1 x2 x3 : Int32} {σ : Sg} (ht : typed TYP σ) (hI : I2 σ) (h2 : -1 ≤ x2.toInt ∧ x2.toInt ≤ 15) : OkI PRG (d + 1 + 1 + 1 + 1) 254 [.ref 97, .int x1, .int x2, .int x3] σ (fun _ σ' => Gl mdFit σ σ' ∧ I2 σ') := by
  refine ⟨M_254, rfl, Nat.le_of_ble_eq_true rfl, w_254_0 σ x1 x2 x3 ⟨_, OkV.deep ((c_249.lift2 rfl).atV ht hI (avsC avM (avsC (avI h2.1 h2.2) (avsC avF avsN))) rfl rfl rfl) (show 2 ≤ d + 1 + 1 + 1 by omega), fun σ1 hq => ?_⟩⟩
  exact lie_go 7 0 0 0 σ1 rfl rfl hq.2 (hq.1.mono rfl)
/-! promises where the customs stand -/
theorem xlPK2_ok : HookL TYP I2 xlPK := fun ρ0 ρ a ls st σ i ex lo hi x st' σ' hr ht hI hx hp => xlPK_ok ρ0 ρ a ls st σ i ex lo hi x st' σ' hr ht hI.1 hx hp
def sp_253 : SP := ([(1, 12, 0), (0, -2147483648, 2147483647), (0, -2147483648, 2147483647), (0, -2147483648, 2147483647), (0, -1, 15), (0, -2147483648, 2147483647), (0, -2147483648, 2147483647), (0, -2147483648, 2147483647)], [], some (0, -2147483648, 2147483647), [], [], [(12, 44, 44), (79, 0, 13), (80, 0, 399)], 4, 0, [])
theorem c_253 : SpecOK PRG TYP I2 253 sp_253 := by
  refine ⟨by decide, fun av σ ht hI hav _ _ => ?_⟩
  obtain ⟨h1, h2⟩ := hav
  match av, h1, h2 with
  | [v0, v1, v2, v3, v4, v5, v6, v7], _, h2 =>
    obtain ⟨q, rfl, hq⟩ := h2 0 _ v0 rfl rfl
    obtain ⟨x1, rfl, -⟩ := h2 1 _ v1 rfl rfl
    obtain ⟨x2, rfl, -⟩ := h2 2 _ v2 rfl rfl
    obtain ⟨x3, rfl, -⟩ := h2 3 _ v3 rfl rfl
    obtain ⟨x4, rfl, h4⟩ := h2 4 _ v4 rfl rfl
    obtain ⟨x5, rfl, -⟩ := h2 5 _ v5 rfl rfl
    obtain ⟨x6, rfl, -⟩ := h2 6 _ v6 rfl rfl
    obtain ⟨x7, rfl, -⟩ := h2 7 _ v7 rfl rfl
    rw [k12 hq]
    refine Ok.mono (appliesTo_OK (d := 0) ht hI h4) (fun v σ' h => ?_)
    obtain ⟨w, rfl, g1, g2⟩ := h
    exact ⟨⟨g1.1, g2, g1.2.2⟩, ⟨w, rfl, w_lo w, w_hi w⟩, fun u hu hn => ⟨fun t h => absurd h List.not_mem_nil, fun h => by cases h⟩, fun p h => absurd h List.not_mem_nil, fun h => absurd h (by decide)⟩
def sp_254 : SP := ([(1, 12, 0), (0, -2147483648, 2147483647), (0, -1, 15), (0, -2147483648, 2147483647)], [], some (0, -2147483648, 2147483647), [], [], [(12, 44, 44), (79, 0, 13), (80, 0, 399)], 4, 0, [])
theorem c_254 : SpecOK PRG TYP I2 254 sp_254 := by
  refine ⟨by decide, fun av σ ht hI hav _ _ => ?_⟩
  obtain ⟨h1, h2⟩ := hav
  match av, h1, h2 with
  | [v0, v1, v2, v3], _, h2 =>
    obtain ⟨q, rfl, hq⟩ := h2 0 _ v0 rfl rfl
    obtain ⟨x1, rfl, -⟩ := h2 1 _ v1 rfl rfl
    obtain ⟨x2, rfl, h4⟩ := h2 2 _ v2 rfl rfl
    obtain ⟨x3, rfl, -⟩ := h2 3 _ v3 rfl rfl
    rw [k12 hq]
    refine Ok.mono (lieOf_OK (d := 0) ht hI h4) (fun v σ' h => ?_)
    obtain ⟨w, rfl, g1, g2⟩ := h
    exact ⟨⟨g1.1, g2, g1.2.2⟩, ⟨w, rfl, w_lo w, w_hi w⟩, fun u hu hn => ⟨fun t h => absurd h List.not_mem_nil, fun h => by cases h⟩, fun p h => absurd h List.not_mem_nil, fun h => absurd h (by decide)⟩
