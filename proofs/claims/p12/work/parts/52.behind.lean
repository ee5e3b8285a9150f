/-! openBehind, setsOutReal, openNow -/
def mdOB : List (Nat × Nat × Nat) := [(95, 0, 3), (12, 69, 69), (96, 0, 3), (97, 0, 3), (98, 0, 3), (99, 0, 3)]
/-- the masks behind card c of p, at level r -/
def obM (r p : Nat) (c : Int32) (σ σ2 : Sg) : Prop := (σ2.1 97 69).toInt = (r : Int) + 1 ∧ (∀ q, ¬ q = p → σ2.1 139 q = σ.1 139 q) ∧ (∀ q, σ2.1 137 q = σ.1 137 q) ∧ ∀ b, bt (σ2.1 139 p) b = (bt (σ.1 139 p) b && !(decide ((b : Int) < (σ.1 137 p).toInt) && decide (σ.1 138 (4 * p + b) = c)))
def obP (L r : Nat) (c : Int32) (σ : Sg) (w : Int32) (σ' : Sg) : Prop := Gl mdOB σ σ' ∧ TB σ' ∧ (∀ q, q ≤ 3 → σ'.1 139 q = σ.1 139 q) ∧ (σ'.1 97 69).toInt = (r : Int) ∧ ∃ σ2 : Sg, obM r (plr L r) c σ σ2 ∧ -1 ≤ w.toInt ∧ w.toInt ≤ bnd0 L σ2 ∧ (HC L σ2 → 0 ≤ w.toInt)
theorem ob_go {d : Nat} {x1 x2 x3 : Int32} {σ0 : Sg} {L r : Nat} (hp : pkOK σ0) (hT : TB σ0) (hm : mk15 σ0) (hL : (σ0.1 97 71).toInt = (L : Int)) (hL3 : L ≤ 3) (hr : (σ0.1 97 69).toInt = (r : Int)) (hr3 : r ≤ 3) (hc : -1 ≤ x1.toInt ∧ x1.toInt ≤ 15) (h2 : x2.toInt = ((plr L r : Nat) : Int)) (h3 : x3 = σ0.1 139 (plr L r)) : ∀ (m k : Nat) (x4 : Int32) (σ : Sg), k + m = 4 → x4.toInt = (k : Int) → Gl mdOB σ0 σ → (∀ q, ¬ q = plr L r → σ.1 139 q = σ0.1 139 q) → (∀ j, σ.1 97 j = σ0.1 97 j) → (∀ b, bt (σ.1 139 (plr L r)) b = (bt (σ0.1 139 (plr L r)) b && !(decide ((b : Int) < (σ0.1 137 (plr L r)).toInt) && (decide (b < k) && decide (σ0.1 138 (4 * plr L r + b) = x1))))) → 0 ≤ (σ.1 139 (plr L r)).toInt → (σ.1 139 (plr L r)).toInt ≤ 15 → Rn PRG (d + 1 + 1 + 1 + 1) 285 22 [(0, .ref 97), (1, .int x1), (2, .int x2), (3, .int x3), (4, .int x4)] [] σ (fun v σ' => ∃ w : Int32, v = some (.int w) ∧ obP L r x1 σ0 w σ') := by
  have hp3 : plr L r ≤ 3 := by unfold plr; omega
  generalize hpp : plr L r = p at *
  have c2 := cn_of h2
  have hin2 : inR x2 4 = true := inR_ok (by omega) (by omega)
  have one : (1 : Int32).toInt = 1 := by decide
  have fin : ∀ (k : Nat) (σ : Sg), Gl mdOB σ0 σ → (∀ q, ¬ q = p → σ.1 139 q = σ0.1 139 q) → (∀ j, σ.1 97 j = σ0.1 97 j) → (∀ b, bt (σ.1 139 p) b = (bt (σ0.1 139 p) b && !(decide ((b : Int) < (σ0.1 137 p).toInt) && (decide (b < k) && decide (σ0.1 138 (4 * p + b) = x1))))) → 0 ≤ (σ.1 139 p).toInt → (σ.1 139 p).toInt ≤ 15 → (σ0.1 137 p).toInt ≤ (k : Int) → (inR (σ.1 97 69) 4 = true ∧ (∃ Qc : Int32 → Sg → Prop, OkI PRG (d + 1 + 1 + 1) 278 [.ref 97, .int (σ.1 97 71)] (s1 (s1 σ 140 (σ.1 97 69).toNatClampNeg x1) 97 69 ((σ.1 97 69) + (1 : Int32))) Qc ∧ ∀ w2 σ1, Qc w2 σ1 → (inR x2 4 = true ∧ ∃ w : Int32, some (Value.int w2) = some (.int w) ∧ obP L r x1 σ0 w (s1 (s1 σ1 97 69 ((σ1.1 97 69) - (1 : Int32))) 139 x2.toNatClampNeg x3)))) := by
    intro k σ hG a1 a2 a3 a4 a5 hk
    have e69 : ((σ.1 97 69) + (1 : Int32)).toInt = (r : Int) + 1 := by
      rw [a2]; exact add_lit hr (by decide) (by unfold FL; omega) (by unfold FH; omega)
    rw [a2 69, cn_of hr]
    have g1 : Gl mdOB σ0 (s1 σ 140 r x1) := wrG (κ := 96) (a := 0) (b := 3) (vl := -1) (vh := 15) rfl rfl hG rfl (Nat.zero_le _) hr3 hc.1 hc.2
    have e69' : ((σ0.1 97 69) + (1 : Int32)).toInt = (r : Int) + 1 := by rw [← a2]; exact e69
    clear e69
    have g2 := wrG (x := (σ0.1 97 69) + (1 : Int32)) (q := 97) (k := 69) (κ := 12) (a := 69) (b := 69) (vl := 0) (vh := 4) rfl rfl g1 rfl (Nat.le_refl _) (Nat.le_refl _) (by rw [e69']; clear e69'; omega) (by rw [e69']; clear e69'; omega)
    refine ⟨inR_ok (by rw [hr]; clear e69'; omega) (by rw [hr]; clear e69'; omega), ?_⟩
    generalize hσ2 : s1 (s1 σ 140 r x1) 97 69 ((σ0.1 97 69) + (1 : Int32)) = σ2 at *
    have b69 : (σ2.1 97 69).toInt = (r : Int) + 1 := by rw [← hσ2, s1_on]; exact e69'
    clear e69'
    have b97 : ∀ j, ¬ j = 69 → σ2.1 97 j = σ0.1 97 j := fun j hj => by rw [← hσ2, s1_off (fun h => hj h.2), s1_off (by omega)]; exact a2 j
    have b139 : ∀ q, σ2.1 139 q = σ.1 139 q := fun q => by rw [← hσ2, s1_off (by omega), s1_off (by omega)]
    have k137 : ∀ q, σ2.1 137 q = σ0.1 137 q := fun q => g2.get (q := 137) (κ := 93) rfl rfl
    have k107 : ∀ q, σ2.1 107 q = σ0.1 107 q := fun q => g2.get (q := 107) (κ := 63) rfl rfl
    have k136 : ∀ q, σ2.1 136 q = σ0.1 136 q := fun q => g2.get (q := 136) (κ := 92) rfl rfl
    have hp2 : pkOK σ2 := by unfold pkOK; rw [b97 18 (by decide), k107]; exact hp
    have hT2 : TB σ2 := fun i hi => by rw [k136]; exact hT i hi
    have hm2 : mk15 σ2 := fun q hq => by
      rw [b139]
      by_cases h : q = p
      · rw [h]; exact a5
      · rw [a1 q h]; exact hm q hq
    rw [a2 71]
    refine ⟨_, trick_OK g2.1 hL hL3 hp2 hT2 hm2, fun w2 σ1 hq => ⟨hin2, w2, rfl, ?_⟩⟩
    obtain ⟨q1, q2, q3, q4⟩ := hq
    have f69 : σ1.1 97 69 = σ2.1 97 69 := q1.get (q := 97) (κ := 12) rfl rfl
    have f139 : ∀ q, σ1.1 139 q = σ2.1 139 q := fun q => q1.get (q := 139) (κ := 95) rfl rfl
    have f136 : ∀ q, σ1.1 136 q = σ2.1 136 q := fun q => q1.get (q := 136) (κ := 92) rfl rfl
    have e5 : ((σ1.1 97 69) - (1 : Int32)).toInt = (r : Int) := by
      rw [f69, sub_ex (by rw [b69, one]; unfold FL; clear b69; omega) (by rw [b69, one]; unfold FH; clear b69; omega), b69, one]
      clear b69
      omega
    have hx3 := tyA g1.1 (q := 139) (κ := 95) (k := p) (a := 0) (b := 3) (lo := 0) (hi := 16) rfl rfl (by omega) (by omega)
    have g3 : Gl mdOB σ0 σ1 := g2.trans q1 rfl
    have g4 := wrG (x := (σ1.1 97 69) - (1 : Int32)) (q := 97) (k := 69) (κ := 12) (a := 69) (b := 69) (vl := 0) (vh := 3) rfl rfl g3 rfl (Nat.le_refl _) (Nat.le_refl _) (by rw [e5]; clear e5; omega) (by rw [e5]; clear e5; omega)
    rw [c2]
    have hx30 : 0 ≤ x3.toInt := by
      rw [h3]
      by_cases h : 0 ≤ (σ0.1 139 p).toInt
      · exact h
      · have hb := a3 31
        have hpos := bt_lt (x := σ.1 139 p) (k := 4) (by omega) a4 (by clear hb; omega) (i := 31) (by omega)
        rw [hpos] at hb
        have hneg : bt (σ0.1 139 p) 31 = true := by
          rw [bt_nat]
          have ht := tn_iff (σ0.1 139 p)
          have hlt := tn_lt (σ0.1 139 p)
          split at ht
          · omega
          · rw [Nat.testBit_eq_decide_div_mod_eq]
            apply decide_eq_true
            omega
        have hh := tyA hG.1 (q := 137) (κ := 93) (k := p) (a := 0) (b := 3) (lo := 0) (hi := 4) rfl rfl (by omega) (by omega)
        have e137 : σ.1 137 p = σ0.1 137 p := hG.get (q := 137) (κ := 93) rfl rfl
        rw [e137] at hh
        rw [hneg, decide_eq_false (by omega : ¬ ((31 : Nat) : Int) < (σ0.1 137 p).toInt)] at hb
        simp at hb
    have hm0 := hm p hp3
    have g5 := wrG (x := x3) (q := 139) (k := p) (κ := 95) (a := 0) (b := 3) (vl := 0) (vh := 15) rfl rfl g4 rfl (Nat.zero_le _) hp3 hx30 (by rw [h3]; exact hm0)
    refine ⟨g5, ?_, fun q hq => ?_, ?_, σ2, ?_, q2, q3, q4⟩
    · refine TB_off (TB_off (fun i hi => ?_) (by decide)) (by decide)
      rw [f136, k136]; exact hT i hi
    · by_cases h : q = p
      · subst h; rw [s1_on, h3]
      · rw [s1_off (fun e => h e.2), s1_off (by omega), f139, b139, a1 q h]
    · rw [s1_off (by omega), s1_on]; exact e5
    · rw [hpp]
      refine ⟨b69, fun q hq => by rw [b139, a1 q hq], k137, fun b => ?_⟩
      rw [b139, a3 b]
      by_cases hlt : (b : Int) < (σ0.1 137 p).toInt
      · rw [decide_eq_true hlt, decide_eq_true (by clear b69 e5; omega : b < k), Bool.true_and, Bool.true_and]
      · rw [decide_eq_false hlt, Bool.false_and, Bool.false_and]
  intro m
  induction m with
  | zero =>
    intro k x4 σ hk h4 hG a1 a2 a3 a4 a5
    have e137 : σ.1 137 p = σ0.1 137 p := hG.get (q := 137) (κ := 93) rfl rfl
    have hh := tyA hG.1 (q := 137) (κ := 93) (k := p) (a := 0) (b := 3) (lo := 0) (hi := 4) rfl rfl (by omega) (by omega)
    refine w_285_22 σ x1 x2 x3 x4 ⟨hin2, fun _ => fin k σ hG a1 a2 a3 a4 a5 (by rw [← e137]; omega), fun c => absurd ?_ c⟩
    rw [c2, Int32.le_iff_toInt_le, h4]; omega
  | succ m ih =>
    intro k x4 σ hk h4 hG a1 a2 a3 a4 a5
    have e137 : σ.1 137 p = σ0.1 137 p := hG.get (q := 137) (κ := 93) rfl rfl
    have e138 : ∀ i, σ.1 138 i = σ0.1 138 i := fun i => hG.get (q := 138) (κ := 94) rfl rfl
    have hh := tyA hG.1 (q := 137) (κ := 93) (k := p) (a := 0) (b := 3) (lo := 0) (hi := 4) rfl rfl (by omega) (by omega)
    refine w_285_22 σ x1 x2 x3 x4 ⟨hin2, fun c => ?_, fun c => ?_⟩
    · rw [c2, Int32.le_iff_toInt_le, h4] at c
      exact fin k σ hG a1 a2 a3 a4 a5 (by rw [← e137]; exact c)
    rw [c2, Int32.le_iff_toInt_le, h4] at c
    have hx4 : (x4 + (1 : Int32)).toInt = ((k + 1 : Nat) : Int) := by
      rw [add_lit (k := 1) h4 (by decide) (by unfold FL; omega) (by unfold FH; omega)]; push_cast; rfl
    have i4 := idx_4 h2 h4 hp3 (by omega)
    have hin4 : inR (((4 : Int32) * x2) + x4) 16 = true := inR_ok (by rw [i4]; clear i4 hx4; omega) (by rw [i4]; clear i4 hx4; omega)
    rw [cn_of i4, c2, e138]
    clear i4
    have step : ∀ b, (decide (b < k + 1) && decide (σ0.1 138 (4 * p + b) = x1)) = ((decide (b < k) && decide (σ0.1 138 (4 * p + b) = x1)) || (decide (b = k) && decide (σ0.1 138 (4 * p + b) = x1))) := by
      intro b
      by_cases h1 : b < k
      · rw [decide_eq_true h1, decide_eq_true (by omega : b < k + 1), decide_eq_false (by omega : ¬ b = k)]; simp
      · by_cases h5 : b = k
        · rw [decide_eq_false h1, decide_eq_true (by omega : b < k + 1), decide_eq_true h5]; simp
        · rw [decide_eq_false h1, decide_eq_false (by omega : ¬ b < k + 1), decide_eq_false h5]; simp
    refine ⟨hin4, fun he => ⟨hin2, hin2, ?_⟩, fun he => ih (k + 1) _ σ (by omega) hx4 hG a1 a2 (fun b => ?_) a4 a5⟩
    · have hnn := and_nn (y := ((1 : Int32) <<< (x4 &&& 31)) ^^^ (-1 : Int32)) a4
      have g : Gl mdOB σ0 (s1 σ 139 p ((σ.1 139 p) &&& (((1 : Int32) <<< (x4 &&& 31)) ^^^ (-1 : Int32)))) := wrG (κ := 95) (a := 0) (b := 3) (vl := 0) (vh := 15) rfl rfl hG rfl (Nat.zero_le _) hp3 hnn.1 (by clear hx4; omega)
      refine ih (k + 1) _ _ (by omega) hx4 g (fun q hq => by rw [s1_off (fun h => hq h.2)]; exact a1 q hq) (fun j => by rw [s1_off (by omega)]; exact a2 j) (fun b => ?_) (by rw [s1_on]; exact hnn.1) (by rw [s1_on]; clear hx4; omega)
      rw [s1_on, bt_and, a3 b, step b]
      by_cases hb32 : b < 32
      · rw [bt_not _ hb32, bt_one h4 (by omega) hb32]
        by_cases hbk : b = k
        · subst hbk
          rw [decide_eq_true he, decide_eq_true (by rw [← e137]; exact c |> fun h => by clear hx4; omega : ((b : Nat) : Int) < (σ0.1 137 p).toInt)]
          simp
        · have : Nat.beq b k = false := by
            cases h : Nat.beq b k with
            | false => rfl
            | true => exact absurd (Nat.eq_of_beq_eq_true h) hbk
          rw [this, decide_eq_false hbk]
          simp
      · rw [bt_big _ (by omega), bt_big _ (by omega)]; simp
    · rw [a3 b, step b]
      by_cases hbk : b = k
      · subst hbk
        rw [decide_eq_false he]
        simp
      · rw [decide_eq_false hbk]; simp
theorem openBehind_OK {d : Nat} {x1 : Int32} {σ : Sg} {L r : Nat} (ht : typed TYP σ) (hp : pkOK σ) (hT : TB σ) (hm : mk15 σ) (hL : (σ.1 97 71).toInt = (L : Int)) (hL3 : L ≤ 3) (hr : (σ.1 97 69).toInt = (r : Int)) (hr3 : r ≤ 3) (hc : -1 ≤ x1.toInt ∧ x1.toInt ≤ 15) : OkI PRG (d + 1 + 1 + 1 + 1) 285 [.ref 97, .int x1] σ (obP L r x1 σ) := by
  have h2 := plr_ex hL hr hL3 hr3
  have hp3 : plr L r ≤ 3 := by unfold plr; omega
  have hm0 := hm _ hp3
  have hty := tyA ht (q := 139) (κ := 95) (k := plr L r) (a := 0) (b := 3) (lo := 0) (hi := 16) rfl rfl (by omega) (by omega)
  refine ⟨M_285, rfl, Nat.le_of_ble_eq_true rfl, w_285_0 σ x1 ⟨inR_ok (by omega) (by omega), ?_⟩⟩
  rw [cn_of h2]
  refine ob_go hp hT hm hL hL3 hr hr3 hc h2 rfl 4 0 0 σ rfl rfl (Gl.refl ht) (fun _ _ => rfl) (fun _ => rfl) (fun b => ?_) hty.1 hm0
  simp
