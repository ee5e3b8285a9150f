/-! read, the reference: what of its programs' cells stays, how far they reach, with or without fault -/
def RdQ (s : Nat) (σ0 σ : Sg) : Prop := LVs s σ0 σ ∧ ∃ c l : Nat, (σ.1 97 37).toInt = (c : Int) ∧ 420 * s ≤ c ∧ c ≤ 420 * s + 401 ∧ (σ.1 97 30).toInt = (l : Int) ∧ 150 * s ≤ l ∧ l ≤ 150 * s + 133
theorem read_166L {s n c lt : Nat} {σ0 σ2 σ : Sg} (lv : LVs s σ0 σ) (hT : TM s n c lt σ2 σ) : Rn PRG (8 + 1) 204 166 [(0, .ref 97)] [] σ (fun v σ' => ∃ w : Int32, v = some (.int w) ∧ RdQ s σ0 σ') := by
  obtain ⟨g, -, -, -, hp, -, -⟩ := hT
  have lim := hp.lim g.1
  obtain ⟨-, p2, p3, -, -, -, p6, p7, -⟩ := hp
  have fin : ∀ σ3 : Sg, (∀ q k, 106 ≤ q → q ≤ 121 → σ3.1 q k = σ.1 q k) → σ3.1 97 37 = σ.1 97 37 → σ3.1 97 30 = σ.1 97 30 → RdQ s σ0 σ3 := fun σ3 f e1 e2 => ⟨lv.trans ⟨fun j _ => ⟨f 120 j (by omega) (by omega), f 121 j (by omega) (by omega)⟩, fun j _ => ⟨f 117 j (by omega) (by omega), f 118 j (by omega) (by omega), f 119 j (by omega) (by omega)⟩, fun r _ => ⟨f 112 r (by omega) (by omega), f 113 r (by omega) (by omega)⟩, fun k _ => ⟨f 106 k (by omega) (by omega), f 107 k (by omega) (by omega), f 109 k (by omega) (by omega)⟩⟩, c, lt, by rw [e1]; exact p2, p3, lim.1, by rw [e2]; exact p6, p7, lim.2⟩
  have bad : ∀ x y : Int32, ∃ w : Int32, some (Value.int y) = some (.int w) ∧ RdQ s σ0 (s1 σ 97 17 x) := fun x y => ⟨y, rfl, fin _ (fun q k a b => by rw [s1_off (by omega)]) (by rw [s1_off (by omega)]) (by rw [s1_off (by omega)])⟩
  have good : ∀ x : Int32, ∃ w : Int32, some (Value.int (0 : Int32)) = some (.int w) ∧ RdQ s σ0 (s1 (s1 (s1 (s1 (s1 (s1 (s1 σ 97 17 x) 97 18 (σ.1 97 19)) 97 45 (0 : Int32)) 97 48 (0 : Int32)) 97 86 (0 : Int32)) 152 0 (vp_nar .boolean (0 : Int32))) 152 1 (vp_nar .boolean (0 : Int32))) := fun x => ⟨0, rfl, fin _ (fun q k a b => by iterate 7 rw [s1_off (by omega)]) (by iterate 7 rw [s1_off (by omega)]) (by iterate 7 rw [s1_off (by omega)])⟩
  exact w_204_166 σ ⟨fun c13 => ⟨fun c15 => ⟨fun _ => ⟨fun _ => good _, fun _ => bad _ _⟩, fun _ => bad _ _⟩, fun _ => ⟨fun _ => ⟨fun c15 => good _, fun _ => bad _ _⟩, fun _ => bad _ _⟩⟩, fun _ => ⟨fun c13 => ⟨fun c15 => good _, fun _ => bad _ _⟩, fun _ => bad _ _⟩⟩
theorem read_144L {s : Nat} {σ0 σ2 : Sg} (hs1 : s ≤ 1) (lv2 : LVs s σ0 σ2) : ∀ (M n c lt : Nat) (σ : Sg), muT σ ≤ M → TM s n c lt σ2 σ → Rn PRG (8 + 1) 204 144 [(0, .ref 97)] [] σ (fun v σ' => ∃ w : Int32, v = some (.int w) ∧ RdQ s σ0 σ') := by
  have fin : ∀ (n c lt : Nat) (σ : Sg), TM s n c lt σ2 σ → Rn PRG (8 + 1) 204 166 [(0, .ref 97)] [] σ (fun v σ' => ∃ w : Int32, v = some (.int w) ∧ RdQ s σ0 σ') := by
    intro n c lt σ hT
    exact read_166L (lv2.trans hT.2.2.1) hT
  intro M
  induction M with
  | zero =>
    intro n c lt σ hM hT
    refine w_204_144 σ ⟨fun c0 => ?_, fun _ => fin n c lt σ hT⟩
    have := t_rg hT.1.1
    unfold muT at hM
    rw [if_pos (zq_i.mp c0)] at hM
    omega
  | succ M ih =>
    intro n c lt σ hM hT
    refine w_204_144 σ ⟨fun c0 => ⟨_, is_OK hT.1.1, fun w2 σ1 hq => ?_⟩, fun _ => fin n c lt σ hT⟩
    rw [hq.1]
    refine ⟨fun _ => ⟨_, tell_OK (by omega) hT (zq_i.mp c0), fun σ3 hq => ?_⟩, fun _ => fin n c lt σ hT⟩
    obtain ⟨⟨n', c', l', hT'⟩, hlt⟩ := hq
    exact ih n' c' l' σ3 (by omega) hT'
theorem read_10L {N : Nat} {σ0 : Sg} (h : GI N σ0) : ∀ (m k : Nat) (x1 : Int32) (σ : Sg), (σ.1 97 4).toInt ≤ (k : Int) + (m : Int) → x1.toInt = (k : Int) → k ≤ 2000 → Gl [(12, 2, 2), (12, 4, 4), (55, 0, 1999)] σ0 σ → Rn PRG (8 + 1) 204 10 [(0, .ref 97), (1, .int x1)] [] σ (fun v σ' => ∃ w : Int32, v = some (.int w) ∧ RdQ (1 - wn (σ0.1 97 18)) σ0 σ') := by
  have go : ∀ σ : Sg, Gl [(12, 2, 2), (12, 4, 4), (55, 0, 1999)] σ0 σ → ∃ Qc : Sg → Prop, OkV PRG 8 188 [.ref 97] (s1 σ 97 2 (0 : Int32)) Qc ∧ ∀ σ1, Qc σ1 → (inR ((1 : Int32) - (σ1.1 97 18)) 2 = true ∧ (inR ((1 : Int32) - (σ1.1 97 18)) 2 = true ∧ (inR ((1 : Int32) - (σ1.1 97 18)) 2 = true ∧ (inR ((1 : Int32) - (σ1.1 97 18)) 2 = true ∧ Rn PRG (8 + 1) 204 144 [(0, .ref 97)] [] (s1 (s1 (s1 (s1 (s1 (s1 (s1 (s1 (s1 (s1 (s1 (s1 σ1 97 11 (0 : Int32)) 97 12 (0 : Int32)) 97 13 (0 : Int32)) 97 15 (0 : Int32)) 97 19 ((1 : Int32) - (σ1.1 97 18))) 97 20 (0 : Int32)) 106 ((1 : Int32) - (σ1.1 97 18)).toNatClampNeg (4 : Int32)) 107 ((1 : Int32) - (σ1.1 97 18)).toNatClampNeg (4 : Int32)) 108 ((1 : Int32) - (σ1.1 97 18)).toNatClampNeg (-1 : Int32)) 109 ((1 : Int32) - (σ1.1 97 18)).toNatClampNeg (0 : Int32)) 97 30 ((150 : Int32) * ((1 : Int32) - (σ1.1 97 18)))) 97 37 ((420 : Int32) * ((1 : Int32) - (σ1.1 97 18)))) (fun v σ' => ∃ w : Int32, v = some (.int w) ∧ RdQ (1 - wn (σ0.1 97 18)) σ0 σ'))))) := by
    intro σ hG
    have ka : Gl [(12, 2, 2), (12, 4, 4), (55, 0, 1999)] σ0 (s1 σ 97 2 (0 : Int32)) := wrG (κ := 12) (a := 2) (b := 2) (vl := 0) (vh := 2000) rfl rfl hG rfl (Nat.le_refl _) (Nat.le_refl _) (by decide) (by decide)
    have f2 : ((s1 σ 97 2 (0 : Int32)).1 97 2).toInt = 0 := by rw [s1_on]; decide
    generalize s1 σ 97 2 (0 : Int32) = σa at ka f2 ⊢
    refine ⟨_, cut_OK (d := 6) ka.1, fun σ1 hq => ?_⟩
    have kb : Gl mdRead σ0 σ1 := (ka.mono rfl : Gl mdRead σ0 σa).trans hq rfl
    have b2 : (σ1.1 97 2).toInt = 0 := by rw [hq.get (q := 97) (κ := 12) rfl rfl]; exact f2
    have e18 : σ1.1 97 18 = σ0.1 97 18 := kb.get (q := 97) (κ := 12) rfl rfl
    have hl := live_wn h.1
    have one : (1 : Int32).toInt = 1 := by decide
    generalize hlw : wn (σ0.1 97 18) = l at hl ⊢
    have es : ((1 : Int32) - (σ1.1 97 18)).toInt = ((1 - l : Nat) : Int) := by
      rw [e18, sub_ex (by rw [one, hl.1]; unfold FL; omega) (by rw [one, hl.1]; unfold FH; omega), one, hl.1]; omega
    have hin : inR ((1 : Int32) - (σ1.1 97 18)) 2 = true := inR_ok (by rw [es]; omega) (by rw [es]; omega)
    refine ⟨hin, hin, hin, hin, ?_⟩
    rw [cn_of es]
    generalize hsd : (1 : Int32) - (σ1.1 97 18) = sd at es
    have e150 : ((150 : Int32) * sd).toInt = ((150 * (1 - l) : Nat) : Int) := by
      rw [mul_lit (k := 150) (by decide) (by unfold FL; omega) (by unfold FH; omega), es]; push_cast; rfl
    have e420 : ((420 : Int32) * sd).toInt = ((420 * (1 - l) : Nat) : Int) := by
      rw [mul_lit (k := 420) (by decide) (by unfold FL; omega) (by unfold FH; omega), es]; omega
    generalize hs : 1 - l = s at es e150 e420 ⊢
    have hs1 : s ≤ 1 := by omega
    have hsl : s + l = 1 := by omega
    have m1 : Gl mdRead σ1 (s1 σ1 97 11 (0 : Int32)) := wrG (κ := 12) (a := 11) (b := 11) (vl := 0) (vh := 400) rfl rfl (Gl.refl hq.1) rfl (Nat.le_refl _) (Nat.le_refl _) (by decide) (by decide)
    have m2 := wrG (x := (0 : Int32)) (q := 97) (k := 12) (κ := 12) (a := 12) (b := 12) (vl := FL) (vh := FH) rfl rfl m1 rfl (Nat.le_refl _) (Nat.le_refl _) (w_lo _) (w_hi _)
    have m3 := wrG (x := (0 : Int32)) (q := 97) (k := 13) (κ := 12) (a := 13) (b := 13) (vl := FL) (vh := FH) rfl rfl m2 rfl (Nat.le_refl _) (Nat.le_refl _) (w_lo _) (w_hi _)
    have m4 := wrG (x := (0 : Int32)) (q := 97) (k := 15) (κ := 12) (a := 15) (b := 15) (vl := FL) (vh := FH) rfl rfl m3 rfl (Nat.le_refl _) (Nat.le_refl _) (w_lo _) (w_hi _)
    have m5 := wrG (x := sd) (q := 97) (k := 19) (κ := 12) (a := 19) (b := 19) (vl := 0) (vh := 1) rfl rfl m4 rfl (Nat.le_refl _) (Nat.le_refl _) (by omega) (by omega)
    have m6 := wrG (x := (0 : Int32)) (q := 97) (k := 20) (κ := 12) (a := 20) (b := 20) (vl := 0) (vh := 6) rfl rfl m5 rfl (Nat.le_refl _) (Nat.le_refl _) (by decide) (by decide)
    have m7 := wrG (x := (4 : Int32)) (q := 106) (k := s) (κ := 62) (a := 0) (b := 1) (vl := FL) (vh := FH) rfl rfl m6 rfl (Nat.zero_le _) hs1 (w_lo _) (w_hi _)
    have m8 := wrG (x := (4 : Int32)) (q := 107) (k := s) (κ := 63) (a := 0) (b := 1) (vl := FL) (vh := FH) rfl rfl m7 rfl (Nat.zero_le _) hs1 (w_lo _) (w_hi _)
    have m9 := wrG (x := (-1 : Int32)) (q := 108) (k := s) (κ := 64) (a := 0) (b := 1) (vl := FL) (vh := FH) rfl rfl m8 rfl (Nat.zero_le _) hs1 (w_lo _) (w_hi _)
    have m10 := wrG (x := (0 : Int32)) (q := 109) (k := s) (κ := 65) (a := 0) (b := 1) (vl := 0) (vh := 6) rfl rfl m9 rfl (Nat.zero_le _) hs1 (by decide) (by decide)
    have m11 := wrG (x := (150 : Int32) * sd) (q := 97) (k := 30) (κ := 12) (a := 30) (b := 30) (vl := FL) (vh := FH) rfl rfl m10 rfl (Nat.le_refl _) (Nat.le_refl _) (w_lo _) (w_hi _)
    have m12 := wrG (x := (420 : Int32) * sd) (q := 97) (k := 37) (κ := 12) (a := 37) (b := 37) (vl := FL) (vh := FH) rfl rfl m11 rfl (Nat.le_refl _) (Nat.le_refl _) (w_lo _) (w_hi _)
    clear m1 m2 m3 m4 m5 m6 m7 m8 m9 m10 m11
    generalize hσ2 : s1 (s1 (s1 (s1 (s1 (s1 (s1 (s1 (s1 (s1 (s1 (s1 σ1 97 11 (0 : Int32)) 97 12 (0 : Int32)) 97 13 (0 : Int32)) 97 15 (0 : Int32)) 97 19 sd) 97 20 (0 : Int32)) 106 s (4 : Int32)) 107 s (4 : Int32)) 108 s (-1 : Int32)) 109 s (0 : Int32)) 97 30 ((150 : Int32) * sd)) 97 37 ((420 : Int32) * sd) = σ2 at m12 ⊢
    have f37 : (σ2.1 97 37).toInt = ((420 * s : Nat) : Int) := by rw [← hσ2, s1_on]; exact e420
    have f30 : (σ2.1 97 30).toInt = ((150 * s : Nat) : Int) := by rw [← hσ2, s1_off (by omega), s1_on]; exact e150
    have f109 : σ2.1 109 s = 0 := by rw [← hσ2, s1_off (by omega), s1_off (by omega), s1_on]
    have f107 : σ2.1 107 s = 4 := by rw [← hσ2, s1_off (by omega), s1_off (by omega), s1_off (by omega), s1_off (by omega), s1_on]
    have f106 : σ2.1 106 s = 4 := by rw [← hσ2, s1_off (by omega), s1_off (by omega), s1_off (by omega), s1_off (by omega), s1_off (by omega), s1_on]
    have f20 : σ2.1 97 20 = 0 := by rw [← hσ2, s1_off (by omega), s1_off (by omega), s1_off (by omega), s1_off (by omega), s1_off (by omega), s1_off (by omega), s1_on]
    have f19 : σ2.1 97 19 = sd := by rw [← hσ2, s1_off (by omega), s1_off (by omega), s1_off (by omega), s1_off (by omega), s1_off (by omega), s1_off (by omega), s1_off (by omega), s1_on]
    have f15 : σ2.1 97 15 = 0 := by rw [← hσ2, s1_off (by omega), s1_off (by omega), s1_off (by omega), s1_off (by omega), s1_off (by omega), s1_off (by omega), s1_off (by omega), s1_off (by omega), s1_on]
    have f13 : σ2.1 97 13 = 0 := by rw [← hσ2, s1_off (by omega), s1_off (by omega), s1_off (by omega), s1_off (by omega), s1_off (by omega), s1_off (by omega), s1_off (by omega), s1_off (by omega), s1_off (by omega), s1_on]
    have f12 : σ2.1 97 12 = 0 := by rw [← hσ2, s1_off (by omega), s1_off (by omega), s1_off (by omega), s1_off (by omega), s1_off (by omega), s1_off (by omega), s1_off (by omega), s1_off (by omega), s1_off (by omega), s1_off (by omega), s1_on]
    have f11 : σ2.1 97 11 = 0 := by rw [← hσ2, s1_off (by omega), s1_off (by omega), s1_off (by omega), s1_off (by omega), s1_off (by omega), s1_off (by omega), s1_off (by omega), s1_off (by omega), s1_off (by omega), s1_off (by omega), s1_off (by omega), s1_on]
    have fo : ∀ q k, (112 ≤ q ∧ q ≤ 121) → σ2.1 q k = σ1.1 q k := fun q k hq => by rw [← hσ2, s1_off (by omega), s1_off (by omega), s1_off (by omega), s1_off (by omega), s1_off (by omega), s1_off (by omega), s1_off (by omega), s1_off (by omega), s1_off (by omega), s1_off (by omega), s1_off (by omega), s1_off (by omega)]
    have fs : ∀ q k, ¬ k = s → (q = 106 ∨ q = 107 ∨ q = 109) → σ2.1 q k = σ1.1 q k := fun q k hk hq => by rw [← hσ2, s1_off (by omega), s1_off (by omega), s1_off (fun e => hk e.2), s1_off (fun e => hk e.2), s1_off (fun e => hk e.2), s1_off (fun e => hk e.2), s1_off (by omega), s1_off (by omega), s1_off (by omega), s1_off (by omega), s1_off (by omega), s1_off (by omega)]
    have z2 : (σ2.1 97 2).toInt = 0 := by rw [← hσ2, s1_off (by omega), s1_off (by omega), s1_off (by omega), s1_off (by omega), s1_off (by omega), s1_off (by omega), s1_off (by omega), s1_off (by omega), s1_off (by omega), s1_off (by omega), s1_off (by omega), s1_off (by omega)]; exact b2
    clear hσ2
    have g2 : Gl mdRead σ0 σ2 := kb.trans m12 rfl
    have ko : ∀ q k, (112 ≤ q ∧ q ≤ 121) ∨ q = 106 ∨ q = 107 ∨ q = 109 → σ1.1 q k = σ0.1 q k := by
      intro q k hq2
      have b0 : σ1.1 q k = σa.1 q k := by
        rcases hq2 with hq2 | rfl | rfl | rfl
        · have hr : q = 112 ∨ q = 113 ∨ q = 114 ∨ q = 115 ∨ q = 116 ∨ q = 117 ∨ q = 118 ∨ q = 119 ∨ q = 120 ∨ q = 121 := by omega
          rcases hr with rfl | rfl | rfl | rfl | rfl | rfl | rfl | rfl | rfl | rfl
          · exact hq.get (q := 112) (κ := 68) rfl rfl
          · exact hq.get (q := 113) (κ := 69) rfl rfl
          · exact hq.get (q := 114) (κ := 70) rfl rfl
          · exact hq.get (q := 115) (κ := 71) rfl rfl
          · exact hq.get (q := 116) (κ := 72) rfl rfl
          · exact hq.get (q := 117) (κ := 73) rfl rfl
          · exact hq.get (q := 118) (κ := 74) rfl rfl
          · exact hq.get (q := 119) (κ := 75) rfl rfl
          · exact hq.get (q := 120) (κ := 76) rfl rfl
          · exact hq.get (q := 121) (κ := 77) rfl rfl
        · exact hq.get (q := 106) (κ := 62) rfl rfl
        · exact hq.get (q := 107) (κ := 63) rfl rfl
        · exact hq.get (q := 109) (κ := 65) rfl rfl
      have b1 : σa.1 q k = σ0.1 q k := by
        rcases hq2 with hq2 | rfl | rfl | rfl
        · have hr : q = 112 ∨ q = 113 ∨ q = 114 ∨ q = 115 ∨ q = 116 ∨ q = 117 ∨ q = 118 ∨ q = 119 ∨ q = 120 ∨ q = 121 := by omega
          rcases hr with rfl | rfl | rfl | rfl | rfl | rfl | rfl | rfl | rfl | rfl
          · exact ka.get (q := 112) (κ := 68) rfl rfl
          · exact ka.get (q := 113) (κ := 69) rfl rfl
          · exact ka.get (q := 114) (κ := 70) rfl rfl
          · exact ka.get (q := 115) (κ := 71) rfl rfl
          · exact ka.get (q := 116) (κ := 72) rfl rfl
          · exact ka.get (q := 117) (κ := 73) rfl rfl
          · exact ka.get (q := 118) (κ := 74) rfl rfl
          · exact ka.get (q := 119) (κ := 75) rfl rfl
          · exact ka.get (q := 120) (κ := 76) rfl rfl
          · exact ka.get (q := 121) (κ := 77) rfl rfl
        · exact ka.get (q := 106) (κ := 62) rfl rfl
        · exact ka.get (q := 107) (κ := 63) rfl rfl
        · exact ka.get (q := 109) (κ := 65) rfl rfl
      exact b0.trans b1
    have co : ∀ q k, (112 ≤ q ∧ q ≤ 121) → σ2.1 q k = σ0.1 q k := fun q k hq => (fo q k hq).trans (ko q k (Or.inl hq))
    have cs : ∀ q k, ¬ k = s → (q = 106 ∨ q = 107 ∨ q = 109) → σ2.1 q k = σ0.1 q k := fun q k hk hq => (fs q k hk hq).trans (ko q k (Or.inr hq))
    have lv2 : LVs s σ0 σ2 := ⟨fun j _ => ⟨co 120 j (by omega), co 121 j (by omega)⟩, fun j _ => ⟨co 117 j (by omega), co 118 j (by omega), co 119 j (by omega)⟩, fun r _ => ⟨co 112 r (by omega), co 113 r (by omega)⟩, fun k hk => ⟨cs 106 k hk (by omega), cs 107 k hk (by omega), cs 109 k hk (by omega)⟩⟩
    have z0 : (0 : Int32).toInt = 0 := by decide
    have k4 : (4 : Int32).toInt = 4 := by decide
    have hFV : FV σ2 := ⟨by rw [f13]; decide, by rw [f13]; decide, by rw [f15]; decide⟩
    have hTM : TM s 0 (420 * s) (150 * s) σ2 σ2 := by
      refine ⟨Gl.refl g2.1, ST.refl hFV, LVs.refl, by rw [f19]; exact es, ⟨hFV, f37, Nat.le_refl _, by rw [f11, z0]; omega, fun _ => by rw [f11, z0]; omega, ⟨0, by rw [f12]; rfl, by omega, fun _ => by omega⟩, f30, Nat.le_refl _, by rw [f11, z0]; push_cast; omega⟩, ⟨by rw [f109]; rfl, by rw [f20]; rfl, by omega, fun k r hk => absurd hk (by omega)⟩, fun _ _ => ⟨16, by omega, ?_⟩⟩
      rw [f106, f107, k4]
      omega
    exact read_144L hs1 lv2 (muT σ2) 0 _ _ σ2 (Nat.le_refl _) hTM
  intro m
  induction m with
  | zero =>
    intro k x1 σ hm h1 hk hG
    exact w_204_10 σ x1 ⟨fun _ => go σ hG, fun c => absurd (by rw [le_i rfl h1]; omega) c⟩
  | succ m ih =>
    intro k x1 σ hm h1 hk hG
    have hsz := size_rg hG.1
    refine w_204_10 σ x1 ⟨fun _ => go σ hG, fun c => ?_⟩
    rw [le_i rfl h1] at c
    have hx1 : (x1 + (1 : Int32)).toInt = ((k + 1 : Nat) : Int) := by
      rw [add_lit (k := 1) h1 (by decide) (by unfold FL; omega) (by unfold FH; omega)]; push_cast; rfl
    have hin : inR x1 2000 = true := inR_ok (by clear hx1; omega) (by clear hx1; omega)
    refine ⟨hin, hin, ?_⟩
    rw [cn_of h1]
    have g1 : Gl [(12, 2, 2), (12, 4, 4), (55, 0, 1999)] σ0 (s1 σ 99 k (vp_nar .byte (σ.1 98 k))) := wrG (κ := 55) (a := 0) (b := 1999) (vl := FL) (vh := FH) rfl rfl hG rfl (Nat.zero_le _) (by clear hx1; omega) (w_lo _) (w_hi _)
    exact ih (k + 1) _ _ (by rw [s1_off (by omega)]; push_cast; clear hx1; omega) hx1 (by clear hx1; omega) g1
theorem read_L {N : Nat} {σ : Sg} (h : GI N σ) : OkI PRG 9 204 [.ref 97] σ (fun _ σ' => RdQ (1 - wn (σ.1 97 18)) σ σ') := by
  have h2 := tyF h.1 (q := 97) (κ := 12) (k := 2) (lo := 0) (hi := 2000) rfl rfl
  have g : Gl [(12, 2, 2), (12, 4, 4), (55, 0, 1999)] σ (s1 σ 97 4 (σ.1 97 2)) := wrG (κ := 12) (a := 4) (b := 4) (vl := 0) (vh := 2000) rfl rfl (Gl.refl h.1) rfl (Nat.le_refl _) (Nat.le_refl _) h2.1 h2.2
  exact ⟨M_204, rfl, Nat.le_of_ble_eq_true rfl, w_204_0 σ (read_10L h 2000 0 0 _ (by rw [s1_on]; omega) rfl (by omega) g)⟩

