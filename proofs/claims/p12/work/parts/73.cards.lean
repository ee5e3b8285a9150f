/-! fillMeans: one deal, all cards that may be laid -/
def mdFm : List (Nat × Nat × Nat) := [(95, 0, 3), (12, 69, 69), (96, 0, 3), (97, 0, 3), (98, 0, 3), (99, 0, 3), (101, 0, 15), (102, 0, 79)]
theorem fm_119 {N n p L : Nat} {x2 : Int32} {σs σb : Sg} {Q : Option Value → Sg → Prop} (hP : pack N σb) (hPL : PL N (σs.1 129) n (σs.1 126) (σs.1 127)) (hlt : n < N) (hL3 : L ≤ 3) (hLb : (σb.1 97 71).toInt = (L : Int)) (hLw : ¬ n % 4 = 0 → L = wn (σs.1 127 (n - n % 4))) (hpl : plr L (n % 4) = p) (hn : (σb.1 97 48).toInt = (n : Int)) (hmm : ∀ c, c < N → bt (σb.1 97 78) c = true → bt (σs.1 129 p) c = true ∧ ¬ ∃ k : Nat, k < n ∧ (σs.1 127 k).toInt = (p : Int) ∧ (σs.1 126 k).toInt = (c : Int)) (K : ∀ σ' : Sg, Gl mdFm σb σ' → stS N n σs σ' → Rn PRG (9 + 1) 289 96 [(0, .ref 97), (2, .int x2)] [] σ' Q) : ∀ (m c : Nat) (x3 : Int32) (σ : Sg), c + m = N → x3.toInt = (c : Int) → Gl mdFm σb σ → stS N n σs σ → Rn PRG (9 + 1) 289 119 [(0, .ref 97), (2, .int x2), (3, .int x3)] [] σ Q := by
  have hN := hP.le
  have hN4 : N % 4 = 0 := by have := hP.1; omega
  have hPk : ∀ {σ : Sg}, Gl mdFm σb σ → pack N σ := fun hG => pack_of (hG.get (q := 97) (κ := 12) rfl rfl) (hG.get (q := 106) (κ := 62) rfl rfl) (hG.get (q := 107) (κ := 63) rfl rfl) hP
  intro m
  induction m with
  | zero =>
    intro c x3 σ hc h3 hG hst
    refine w_289_119 σ x2 x3 ⟨_, cards_OK hG.1 (hPk hG), fun w2 σ1 hq => ?_⟩
    obtain ⟨rfl, hw⟩ := hq
    exact ⟨fun _ => K σ1 hG hst, fun cc => absurd (by rw [le_i hw h3]; omega) cc⟩
  | succ m ih =>
    intro c x3 σ hc h3 hG hst
    refine w_289_119 σ x2 x3 ⟨_, cards_OK hG.1 (hPk hG), fun w2 σ1 hq => ?_⟩
    obtain ⟨rfl, hw⟩ := hq
    refine ⟨fun cc => ?_, fun _ => ?_⟩
    · rw [le_i hw h3] at cc; omega
    have hx3 : (x3 + (1 : Int32)).toInt = ((c + 1 : Nat) : Int) := by
      rw [add_lit (k := 1) h3 (by decide) (by unfold FL; omega) (by unfold FH; omega)]; push_cast; rfl
    have hin : inR x3 16 = true := inR_ok (by clear hx3; omega) (by clear hx3; omega)
    have e78 : σ1.1 97 78 = σb.1 97 78 := hG.get (q := 97) (κ := 12) rfl rfl
    have e71 : σ1.1 97 71 = σb.1 97 71 := hG.get (q := 97) (κ := 12) rfl rfl
    rw [e78, bit_ne0 h3 (by clear hx3; omega)]
    refine ⟨fun _ => ih (c + 1) _ σ1 (by omega) hx3 hG hst, fun hb => ?_⟩
    have hb : bt (σb.1 97 78) c = true := by
      cases h : bt (σb.1 97 78) c with
      | true => rfl
      | false => exact absurd h hb
    have hcard := hmm c (by omega) hb
    have hPs := hPk hG
    refine ⟨_, OkI.deep (openBehind_OK (d := 0) (L := L) (r := n % 4) hG.1 hPs.pk hst.1 hst.m15 (by rw [e71]; exact hLb) hL3 hst.2.1 (by clear hx3; omega) ⟨by clear hx3; omega, by clear hx3; omega⟩) (by omega), fun w4 σ3 hq => ?_⟩
    obtain ⟨o1, o2, o3, o4, σ2, o5, o6, o7, o8⟩ := hq
    obtain ⟨s5, s6⟩ := ob_strong hst hN.2 hN4 hPL hlt hL3 hLw h3 (by omega) (by rw [hpl]; exact hcard) o5
    have o8 := o8 s6
    have hG3 : Gl mdFm σb σ3 := hG.trans o1 rfl
    have hst3 : stS N n σs σ3 := hst.keep o2 (by rw [o4, hst.2.1]) (o1.get (q := 97) (κ := 12) rfl rfl) (fun q => o1.get (q := 137) (κ := 93) rfl rfl) (fun q => o1.get (q := 138) (κ := 94) rfl rfl) o3
    have e48 : σ3.1 97 48 = σb.1 97 48 := hG3.get (q := 97) (κ := 12) rfl rfl
    refine ⟨_, OkI.deep (tricksLeft_OK (d := 0) hG3.1 (hPk hG3) (by rw [e48]; exact hn) (by clear hx3; omega)) (by omega), fun w6 σ5 hq => ?_⟩
    obtain ⟨rfl, hw6⟩ := hq
    refine ⟨_, own_OK, fun w8 σ7 hq => ?_⟩
    obtain ⟨rfl, hw8⟩ := hq
    have r8 : 0 ≤ w8.toInt ∧ w8.toInt ≤ 4 := by
      rcases hw8 with rfl | rfl
      · clear hx3; omega
      · rw [sub_ex (by rw [hw6]; unfold FL; clear hx3; omega) (by rw [hw6]; unfold FH; clear hx3; omega), hw6]
        clear hx3; omega
    have h8 : w8.toInt = ((w8.toInt.toNat : Nat) : Int) := by clear hx3; omega
    have ei := sp_ix h3 h8 (by clear hx3; omega) (by clear hx3; omega)
    have hin2 : inR (((5 : Int32) * x3) + w8) 80 = true := inR_ok (by rw [ei]; clear ei hx3; omega) (by rw [ei]; clear ei hx3; omega)
    rw [cn_of ei, cn_of h3]
    clear ei
    have keep : ∀ σ' : Sg, Gl [(101, 0, 15), (102, 0, 79)] σ7 σ' → stS N n σs σ' := fun σ' g => hst3.keep (hst3.1.keep g rfl) (by rw [g.get (q := 97) (κ := 12) rfl rfl]) (g.get (q := 97) (κ := 12) rfl rfl) (fun q => g.get (q := 137) (κ := 93) rfl rfl) (fun q => g.get (q := 138) (κ := 94) rfl rfl) (fun q _ => g.get (q := 139) (κ := 95) rfl rfl)
    have h80 : 5 * c + w8.toInt.toNat ≤ 79 := by clear hx3; omega
    refine ⟨hin, hin, hin, fun _ => ⟨hin2, hin2, ?_⟩, fun _ => ⟨hin, hin2, hin2, ?_⟩⟩
    · have g0 : Gl [(101, 0, 15), (102, 0, 79)] σ7 (s2 σ7 144 c ((σ7.2 144 c) + w8.toInt64)) := Gl.long (Gl.refl hG3.1)
      have g1 := wrG (x := (σ7.1 146 (5 * c + w8.toInt.toNat)) + (1 : Int32)) (q := 146) (k := 5 * c + w8.toInt.toNat) (κ := 102) (a := 0) (b := 79) (vl := FL) (vh := FH) rfl rfl g0 rfl (Nat.zero_le _) h80 (w_lo _) (w_hi _)
      exact ih (c + 1) _ _ (by omega) hx3 (hG3.trans g1 rfl) (keep _ g1)
    · have g0 : Gl [(101, 0, 15), (102, 0, 79)] σ7 (s2 σ7 144 c ((σ7.2 144 c) + w8.toInt64)) := Gl.long (Gl.refl hG3.1)
      have g1 := wrG (x := w8) (q := 145) (k := c) (κ := 101) (a := 0) (b := 15) (vl := FL) (vh := FH) rfl rfl g0 rfl (Nat.zero_le _) (by clear hx3; omega) (w_lo _) (w_hi _)
      have g2 := wrG (x := (σ7.1 146 (5 * c + w8.toInt.toNat)) + (1 : Int32)) (q := 146) (k := 5 * c + w8.toInt.toNat) (κ := 102) (a := 0) (b := 79) (vl := FL) (vh := FH) rfl rfl g1 rfl (Nat.zero_le _) h80 (w_lo _) (w_hi _)
      exact ih (c + 1) _ _ (by omega) hx3 (hG3.trans g2 rfl) (keep _ g2)
