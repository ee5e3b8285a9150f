/-! fillMeans: all deals -/
theorem LSt.keep {ms : List (Nat × Nat × Nat)} {σ σ' : Sg} (h : LSt σ) (hG : Gl ms σ σ') (ho : offD ms DEP2 = true) (ho2 : offD ms [(12, 59, 61), (86, 0, 2), (88, 0, 2)] = true) : LSt σ' ∧ dlm σ' = dlm σ := by
  have e59 : σ'.1 97 59 = σ.1 97 59 := hG.get (q := 97) (κ := 12) rfl (off_in ho2 rfl)
  have e60 : σ'.1 97 60 = σ.1 97 60 := hG.get (q := 97) (κ := 12) rfl (off_in ho2 rfl)
  have e61 : σ'.1 97 61 = σ.1 97 61 := hG.get (q := 97) (κ := 12) rfl (off_in ho2 rfl)
  have e130 : ∀ k, k ≤ 2 → σ'.1 130 k = σ.1 130 k := fun k hk => hG.get (q := 130) (κ := 86) rfl (off_in ho2 (inM_of (a := 0) (b := 2) (by decide) (by omega) hk))
  have e132 : ∀ k, k ≤ 2 → σ'.1 132 k = σ.1 132 k := fun k hk => hG.get (q := 132) (κ := 88) rfl (off_in ho2 (inM_of (a := 0) (b := 2) (by decide) (by omega) hk))
  refine ⟨⟨hG.1, h.2.1.keep hG ho, ?_, ?_⟩, ?_⟩
  · unfold apart3; rw [e130 0 (by omega), e130 1 (by omega), e130 2 (by omega)]; exact h.2.2.1
  · unfold DSt two lft; rw [e59, e60, e61, e132 0 (by omega), e132 1 (by omega)]; exact h.2.2.2
  · unfold dlm; rw [e60, e61]
theorem pbP.frame {σ σ' : Sg} {x w : Int32} {i : Nat} (h1 : ∀ k, σ'.1 126 k = σ.1 126 k) (h2 : ∀ k, σ'.1 127 k = σ.1 127 k) (h : pbP σ x i w) : pbP σ' x i w := by
  have e1 : σ'.1 126 = σ.1 126 := funext h1
  have e2 : σ'.1 127 = σ.1 127 := funext h2
  unfold pbP
  rw [e1, e2]
  exact h
def mdLoop : List (Nat × Nat × Nat) := [(12, 44, 44), (79, 0, 13), (80, 0, 399), (12, 60, 61), (85, 0, 3), (93, 0, 3), (94, 0, 15), (95, 0, 3), (12, 69, 69), (12, 71, 71), (96, 0, 3), (97, 0, 3), (98, 0, 3), (99, 0, 3), (92, 0, 262143), (101, 0, 15), (102, 0, 79), (12, 79, 79)]
/-- what stands when the deals begin -/
def FM (N n p : Nat) (x2 : Int32) (σ : Sg) : Prop := (pack N σ ∧ PL N (σ.1 125) n (σ.1 126) (σ.1 127) ∧ n < N ∧ p ≤ 3 ∧ x2.toInt = (p : Int) ∧ (σ.1 97 48).toInt = (n : Int) ∧ ¬ σ.1 97 45 = 0) ∧ (∀ k, k ≤ 2 → knP N p n σ σ k) ∧ frP N p 3 σ ∧ σ.1 129 p = σ.1 125 p ∧ (n % 4 = 0 → x2 = ldF σ n) ∧ (¬ n % 4 = 0 → (p : Int) = ((σ.1 127 (n - 1)).toInt + 1) % 4) ∧ (∀ c, c < N → bt (σ.1 97 78) c = true → bt (σ.1 125 p) c = true ∧ ¬ ∃ k : Nat, k < n ∧ (σ.1 127 k).toInt = (p : Int) ∧ (σ.1 126 k).toInt = (c : Int))
/-- the hands on trial are a deal -/
theorem FM.deals {N n p : Nat} {x2 : Int32} {σb σ1 : Sg} (hB : FM N n p x2 σb) (hG : Gl mdLoop σb σ1) (ht : two σ1) (da : dealtAs σ1) (h5 : σ1.1 129 p = σb.1 129 p) : PL N (σ1.1 129) n (σ1.1 126) (σ1.1 127) := by
  obtain ⟨⟨hP, hPL, hlt, hp, hx2, hn, hd⟩, hkn, hfr, htr, -, -, -⟩ := hB
  have e59 : σ1.1 97 59 = σb.1 97 59 := hG.get (q := 97) (κ := 12) rfl rfl
  have e125 : ∀ k, σ1.1 125 k = σb.1 125 k := fun k => hG.get (q := 125) (κ := 81) rfl rfl
  have e126 : ∀ k, σ1.1 126 k = σb.1 126 k := fun k => hG.get (q := 126) (κ := 82) rfl rfl
  have e127 : ∀ k, σ1.1 127 k = σb.1 127 k := fun k => hG.get (q := 127) (κ := 83) rfl rfl
  have e130 : ∀ k, σ1.1 130 k = σb.1 130 k := fun k => hG.get (q := 130) (κ := 86) rfl rfl
  have e131 : ∀ k, σ1.1 131 k = σb.1 131 k := fun k => hG.get (q := 131) (κ := 87) rfl rfl
  have e132 : ∀ k, σ1.1 132 k = σb.1 132 k := fun k => hG.get (q := 132) (κ := 88) rfl rfl
  have cn : ∀ k, k ≤ 2 → (σ1.1 130 k).toNatClampNeg = (p + 1 + k) % 4 := fun k hk => cn_of (by rw [e130]; exact (hkn k hk).1)
  have hany : ∀ f : Nat → Bool, (List.range 3).any f = (f 0 || (f 1 || f 2)) := fun f => by
    show ([0, 1, 2] : List Nat).any f = _
    simp
  obtain ⟨d0, d1, d2⟩ := da
  rw [cn 0 (by omega)] at d0
  rw [cn 1 (by omega)] at d1
  rw [cn 2 (by omega)] at d2
  refine split_PL (p := p) (dl := σ1.1 125) (T := σ1.1 129) (K := σ1.1 131) (F := σ1.1 97 59) (A := σ1.1 97 60) (B := σ1.1 97 61) hP.1 hp (hPL.congr (fun p _ => e125 p) (fun k _ => e126 k) (fun k _ => e127 k)) (by rw [h5, e125, htr]) (fun k hk => ?_) (fun b hb => ?_) ht.2.1 ht.2.2.2.1 ?_ ?_ d0 d1 d2
  · refine ⟨tyA hG.1 (q := 131) (κ := 87) (k := k) (a := 0) (b := 2) (lo := 0) (hi := 65535) rfl rfl (by omega) hk, fun b hb => ?_⟩
    have kn := hkn k hk
    rw [e131, kn.2.1.1 b hb]
    constructor
    · rintro ⟨j, g1, g2, g3⟩
      exact ⟨j, g1, by rw [e127, g2]; exact kn.1, by rw [e126]; exact g3⟩
    · rintro ⟨j, g1, g2, g3⟩
      exact ⟨j, g1, Int32.toInt_inj.mp (by rw [kn.1, ← g2, e127]), by rw [← e126]; exact g3⟩
  · have := hfr b hb
    rw [hany] at this
    rw [e59, this, e125, htr, e131, e131, e131]
  · rw [ht.2.2.2.2.1, e132, (hkn 0 (by omega)).2.2, e131]
  · rw [ht.2.2.2.2.2, e132, (hkn 1 (by omega)).2.2, e131]
theorem fm_96 {N n p : Nat} {x2 : Int32} {σb : Sg} (hB : FM N n p x2 σb) : ∀ (m : Nat) (σ : Sg), LSt σ → TB σ → Gl mdLoop σb σ → σ.1 129 p = σb.1 129 p → dlm σ ≤ m → Rn PRG (9 + 1) 289 96 [(0, .ref 97), (2, .int x2)] [] σ (fun v σ' => v = none ∧ Gl mdLoop σb σ' ∧ I2 σ' ∧ TB σ') := by
  intro m
  induction m with
  | zero =>
    intro σ hL hT hG h129 hm
    refine w_289_96 σ x2 ⟨_, OkI.deep (nextDeal_OK hL.1 hL.2.1 hL.2.2.1 hL.2.2.2) (by omega), fun w2 σ1 hq => ⟨fun _ => ⟨rfl, hG.trans hq.1.1 rfl, hq.2, hT.keep hq.1.1 rfl⟩, fun hn => ?_⟩⟩
    have := (nd_LSt hL hq hn).2.2
    omega
  | succ m ih =>
    intro σ hL hT hG h129 hm
    refine w_289_96 σ x2 ⟨_, OkI.deep (nextDeal_OK hL.1 hL.2.1 hL.2.2.1 hL.2.2.2) (by omega), fun w2 σ1 hq => ⟨fun _ => ⟨rfl, hG.trans hq.1.1 rfl, hq.2, hT.keep hq.1.1 rfl⟩, fun hne => ?_⟩⟩
    obtain ⟨a1, a2, a3⟩ := nd_LSt hL hq hne
    have hG1 : Gl mdLoop σb σ1 := hG.trans a2 rfl
    have hB0 := hB
    obtain ⟨⟨hP, hPL, hlt, hp, hx2, hn, hd⟩, hkn, hfr, htr, hld, hord, hmay⟩ := hB
    have hN := hP.le
    have hnd := hq.1.2
    rcases hnd with hnd | ⟨-, -, b1, b2, b3⟩
    · exact absurd hnd hne
    have cn : ∀ k, k ≤ 2 → (σ.1 130 k).toNatClampNeg = (p + 1 + k) % 4 := fun k hk => cn_of (by rw [hG.get (q := 130) (κ := 86) rfl rfl]; exact (hkn k hk).1)
    have e129 : σ1.1 129 p = σb.1 129 p := (b3 p (by rw [cn 0 (by omega)]; omega) (by rw [cn 1 (by omega)]; omega) (by rw [cn 2 (by omega)]; omega)).trans h129
    have hPL1 := hB0.deals hG1 b1 b2 e129
    have pk : ∀ {σ : Sg}, Gl mdLoop σb σ → pack N σ := fun hG => pack_of (hG.get (q := 97) (κ := 12) rfl rfl) (hG.get (q := 106) (κ := 62) rfl rfl) (hG.get (q := 107) (κ := 63) rfl rfl) hP
    have hn48 : ∀ {σ : Sg}, Gl mdLoop σb σ → (σ.1 97 48).toInt = (n : Int) := fun hG => by rw [hG.get (q := 97) (κ := 12) rfl rfl]; exact hn
    have hd1 : ¬ σ1.1 97 45 = 0 := by rw [hG1.get (q := 97) (κ := 12) rfl rfl]; exact hd
    have hT1 : TB σ1 := hT.keep a2 rfl
    refine ⟨_, OkV.deep (setsOut_OK (d := 0) hG1.1 (pk hG1) hT1 (hn48 hG1) (fun q hq => by rw [hPL1.2.1 q hq]; omega) (by omega)) (by omega), fun σ3 hs => ?_⟩
    have g4 : Gl [(12, 79, 79)] σ3 (s1 σ3 97 79 ((σ3.1 97 79) + (1 : Int32))) := wrG (κ := 12) (a := 79) (b := 79) (vl := FL) (vh := FH) rfl rfl (Gl.refl hs.1.1) rfl (Nat.le_refl _) (Nat.le_refl _) (w_lo _) (w_hi _)
    generalize s1 σ3 97 79 ((σ3.1 97 79) + (1 : Int32)) = σ4 at g4 ⊢
    have hT4 : TB σ4 := hs.2.1.keep g4 rfl
    have hst4 : stS N n σ1 σ4 := hs.st.keep hT4 (by rw [g4.get (q := 97) (κ := 12) rfl rfl]) (g4.get (q := 97) (κ := 12) rfl rfl) (fun q => g4.get (q := 137) (κ := 93) rfl rfl) (fun q => g4.get (q := 138) (κ := 94) rfl rfl) (fun q _ => g4.get (q := 139) (κ := 95) rfl rfl)
    have hG4 : Gl mdLoop σb σ4 := (hG1.trans hs.1 rfl).trans g4 rfl
    obtain ⟨L, hL3, hLb, hLw⟩ := hst4.lead hG1.1 hd1 (hn48 hG1) hlt hN.2
    have hpl : plr L (n % 4) = p := by
      by_cases h4 : n % 4 = 0
      · rcases hst4.2.2.2 with ⟨h0, -⟩ | ⟨-, -, h1⟩
        · exact absurd h4 h0
        · have e := h1 hd1 hlt
          rw [ldF_frame (hG1.get (q := 97) (κ := 12) rfl rfl) (hG1.get (q := 97) (κ := 12) rfl rfl) (fun k => hG1.get (q := 106) (κ := 62) rfl rfl) (fun k => hG1.get (q := 107) (κ := 63) rfl rfl) (fun k => hG1.get (q := 108) (κ := 64) rfl rfl) (fun k => hG1.get (q := 126) (κ := 82) rfl rfl) (fun k => hG1.get (q := 127) (κ := 83) rfl rfl), ← hld h4] at e
          rw [e, hx2] at hLb
          unfold plr
          omega
      · have h1 := (hPL1.order n (Nat.le_refl _)).1 (n % 4 - 1) (by omega)
        rw [← hLw h4, show n - n % 4 + (n % 4 - 1) = n - 1 by omega, hG1.get (q := 127) (κ := 83) rfl rfl] at h1
        have h2 := hord h4
        rw [h1] at h2
        unfold plr
        omega
    obtain ⟨l3, l3d⟩ := a1.keep hs.1 rfl rfl
    obtain ⟨l4, l4d⟩ := l3.keep g4 rfl rfl
    refine fm_119 (pk hG4) hPL1 hlt hL3 hLb hLw hpl (hn48 hG4) (fun c hc hb => ?_) (fun σ' g' st' => ?_) N 0 0 σ4 (by omega) rfl (Gl.refl hG4.1) hst4
    · rw [hG4.get (q := 97) (κ := 12) rfl rfl] at hb
      obtain ⟨m1, m2⟩ := hmay c hc hb
      refine ⟨by rw [e129, htr]; exact m1, fun ⟨k, k1, k2, k3⟩ => m2 ⟨k, k1, ?_, ?_⟩⟩
      · rw [← hG1.get (q := 127) (κ := 83) (k := k) rfl rfl]; exact k2
      · rw [← hG1.get (q := 126) (κ := 82) (k := k) rfl rfl]; exact k3
    · obtain ⟨l5, l5d⟩ := l4.keep g' rfl rfl
      refine ih σ' l5 st'.1 (hG4.trans g' rfl) ?_ (by omega)
      rw [g'.get (q := 129) (κ := 85) rfl rfl, g4.get (q := 129) (κ := 85) rfl rfl, hs.1.get (q := 129) (κ := 85) rfl rfl]
      exact e129
def mdMeans : List (Nat × Nat × Nat) := [(12, 44, 44), (79, 0, 13), (80, 0, 399), (12, 59, 61), (85, 0, 3), (93, 0, 3), (94, 0, 15), (95, 0, 3), (12, 69, 69), (12, 71, 71), (96, 0, 3), (97, 0, 3), (98, 0, 3), (99, 0, 3), (92, 0, 262143), (101, 0, 15), (102, 0, 79), (12, 78, 79), (12, 53, 55), (86, 0, 2), (87, 0, 2), (88, 0, 2), (89, 0, 15)]
/-- what may be laid is a set of cards of the hand -/
theorem my_rg {σ : Sg} {w0 w : Int32} (ht : typed TYP σ) (h3 : w0.toInt ≤ 3) (h : myP σ w0 w) : 0 ≤ w.toInt ∧ w.toInt ≤ 65535 := by
  rcases h with ⟨-, rfl⟩ | ⟨h0, hand, z, ⟨y, -, rfl⟩, hw⟩
  · decide
  · have hd := tyA ht (q := 125) (κ := 81) (k := wn w0) (a := 0) (b := 3) (lo := 0) (hi := 65535) rfl rfl (by omega) (by unfold wn; omega)
    have a1 := and_nn (y := y ^^^ (-1 : Int32)) hd.1
    rcases hw with rfl | ⟨-, rfl⟩
    · omega
    · have a2 := and_nn (y := z) a1.1
      omega
theorem my_bt {n c : Nat} {σ : Sg} {w0 w : Int32} (hn : (σ.1 97 48).toInt = (n : Int)) (h0 : 0 ≤ w0.toInt) (hc : c < 16) (h : myP σ w0 w) (hb : bt w c = true) : bt (σ.1 125 (wn w0)) c = true ∧ ¬ ∃ k : Nat, k < n ∧ (σ.1 127 k).toInt = ((wn w0 : Nat) : Int) ∧ (σ.1 126 k).toInt = (c : Int) := by
  rcases h with ⟨h, -⟩ | ⟨-, hand, z, ⟨y, hy, rfl⟩, hw⟩
  · omega
  have hwn : wn (σ.1 97 48) = n := by unfold wn; omega
  rw [hwn] at hy
  have hb2 : bt ((σ.1 125 (wn w0)) &&& (y ^^^ (-1 : Int32))) c = true := by
    rcases hw with rfl | ⟨-, rfl⟩
    · exact hb
    · rw [bt_and, Bool.and_eq_true] at hb; exact hb.1
  rw [bt_and, Bool.and_eq_true, bt_not _ (by omega), Bool.not_eq_true'] at hb2
  refine ⟨hb2.1, fun ⟨k, k1, k2, k3⟩ => ?_⟩
  have := (hy.1 c hc).mpr ⟨k, k1, Int32.toInt_inj.mp (by rw [k2]; unfold wn; omega), k3⟩
  rw [hb2.2] at this
  cases this
theorem fillMeans_OK {N n : Nat} {w0 x1 : Int32} {σ : Sg} (h : GI N σ) (hn : (σ.1 97 48).toInt = (n : Int)) (hw0 : tnP N σ w0) (hTn : ∀ d, OkI PRG (d + 1 + 1 + 1) 230 [.ref 97] σ (fun w σ' => σ' = σ ∧ w = w0)) (h0 : 0 ≤ w0.toInt) : OkV PRG 10 289 [.ref 97, .int x1] σ (fun σ' => Gl mdMeans σ σ' ∧ GI N σ' ∧ myP σ w0 (σ'.1 97 78)) := by
  obtain ⟨ht, hI, hP, hT, hS, hH⟩ := id h
  have hN := hP.le
  obtain ⟨t1, t2, t3, t4⟩ := tn_play hw0 h0 hn
  have hle := h.le t1 hn
  have hlt : n < N := by omega
  have hwn : wn (σ.1 97 48) = n := by unfold wn; omega
  have hPL := hS.2 t1
  rw [hwn] at hPL
  have hp : wn w0 ≤ 3 := by unfold wn; omega
  have hx : w0.toInt = ((wn w0 : Nat) : Int) := by unfold wn; omega
  have hin : inR w0 4 = true := inR_ok h0 (by omega)
  have hld : n % 4 = 0 → w0 = ldF σ n := fun h4 => by
    obtain ⟨M, -, -, k, v, σ', -, w, -, ⟨-, e1⟩, -, e2⟩ := (turn_F (d := 0) ht hP t1 hn hlt h4).and (hTn 0)
    rw [← e2, e1]
  refine ⟨M_289, rfl, Nat.le_of_ble_eq_true rfl, w_289_0 σ x1 ⟨_, OkI.deep (hTn 0) (by omega), fun w2 σ1 hq => ?_⟩⟩
  obtain ⟨e1, e2⟩ := hq
  rw [e1, e2]
  refine ⟨_, OkI.deep (mayNow_OK (d := 0) ht hP hw0 hTn) (by omega), fun w4 σ3 hq => ?_⟩
  obtain ⟨e3, hmy⟩ := hq
  rw [e3]
  have hmr := my_rg ht t3 hmy
  have g1 : Gl mdMeans σ (s1 σ 97 78 w4) := wrG (κ := 12) (a := 78) (b := 78) (vl := 0) (vh := 65535) rfl rfl (Gl.refl ht) rfl (Nat.le_refl _) (Nat.le_refl _) hmr.1 hmr.2
  have g2 := wrG (x := (0 : Int32)) (q := 97) (k := 79) (κ := 12) (a := 79) (b := 79) (vl := FL) (vh := FH) rfl rfl g1 rfl (Nat.le_refl _) (Nat.le_refl _) (w_lo _) (w_hi _)
  have m1 : Gl [(12, 78, 79)] σ (s1 σ 97 78 w4) := wrG (κ := 12) (a := 78) (b := 78) (vl := 0) (vh := 65535) rfl rfl (Gl.refl ht) rfl (Nat.le_refl _) (Nat.le_refl _) hmr.1 hmr.2
  have m2 := wrG (x := (0 : Int32)) (q := 97) (k := 79) (κ := 12) (a := 79) (b := 79) (vl := FL) (vh := FH) rfl rfl m1 rfl (Nat.le_refl _) (Nat.le_refl _) (w_lo _) (w_hi _)
  have hI5 := hI.keep m2 rfl
  have hT5 := hT.keep m2 rfl
  have e78 : (s1 (s1 σ 97 78 w4) 97 79 (0 : Int32)).1 97 78 = w4 := by rw [s1_off (by omega), s1_on]
  generalize s1 (s1 σ 97 78 w4) 97 79 (0 : Int32) = σ5 at g2 m2 hI5 hT5 e78 ⊢
  refine fm_20 (σ0 := σ5) (fun x3 σ' h16 hG' => ?_) 16 0 0 σ5 rfl rfl (Gl.refl g2.1)
  have gA : Gl mdMeans σ σ' := g2.trans hG' rfl
  have hIA := hI5.keep hG' rfl
  have hTA := hT5.keep hG' rfl
  refine w_289_20 σ' x1 w0 x3 ⟨fun _ => ⟨hin, hin, ?_⟩, fun c => absurd h16 c⟩
  rw [cn_of hx]
  have htr := tyA gA.1 (q := 125) (κ := 81) (k := wn w0) (a := 0) (b := 3) (lo := 0) (hi := 65535) rfl rfl (by omega) hp
  have m6 : Gl [(85, 0, 3)] σ' (s1 σ' 129 (wn w0) (σ'.1 125 (wn w0))) := wrG (κ := 85) (a := 0) (b := 3) (vl := 0) (vh := 65535) rfl rfl (Gl.refl gA.1) rfl (Nat.zero_le _) hp htr.1 htr.2
  have e129 : (s1 σ' 129 (wn w0) (σ'.1 125 (wn w0))).1 129 (wn w0) = σ'.1 125 (wn w0) := s1_on
  have e48' : (σ'.1 97 48).toInt = (n : Int) := by rw [gA.get (q := 97) (κ := 12) rfl rfl]; exact hn
  generalize s1 σ' 129 (wn w0) (σ'.1 125 (wn w0)) = σ6 at m6 e129 ⊢
  have gB : Gl mdMeans σ σ6 := gA.trans m6 rfl
  have hIB := hIA.keep m6 rfl
  have hTB := hTA.keep m6 rfl
  have pk : ∀ {σ' : Sg}, Gl mdMeans σ σ' → pack N σ' := fun hG => pack_of (hG.get (q := 97) (κ := 12) rfl rfl) (hG.get (q := 106) (κ := 62) rfl rfl) (hG.get (q := 107) (κ := 63) rfl rfl) hP
  refine ⟨_, OkV.deep (beginDeals_OK gB.1 hIB (pk gB) hx hp e48' (by omega) (fun k hk => by rw [gB.get (q := 126) (κ := 82) rfl rfl]; exact h.cg k (by omega))) (by omega), fun σ7 hq => ?_⟩
  have gC : Gl mdMeans σ σ7 := gB.trans hq.1 rfl
  have hTC : TB σ7 := hTB.keep hq.1 rfl
  have e45 : σ7.1 97 45 = σ.1 97 45 := gC.get (q := 97) (κ := 12) rfl rfl
  have e48 : σ7.1 97 48 = σ.1 97 48 := gC.get (q := 97) (κ := 12) rfl rfl
  have e125 : ∀ k, σ7.1 125 k = σ.1 125 k := fun k => gC.get (q := 125) (κ := 81) rfl rfl
  have e126 : ∀ k, σ7.1 126 k = σ.1 126 k := fun k => gC.get (q := 126) (κ := 82) rfl rfl
  have e127 : ∀ k, σ7.1 127 k = σ.1 127 k := fun k => gC.get (q := 127) (κ := 83) rfl rfl
  have hB : FM N n (wn w0) w0 σ7 := by
    refine ⟨⟨pk gC, hPL.congr (fun p _ => e125 p) (fun k _ => e126 k) (fun k _ => e127 k), hlt, hp, hx, by rw [e48]; exact hn, by rw [e45]; exact t1⟩, fun k hk => ?_, hq.2.2.2.2, ?_, fun h4 => ?_, fun h4 => ?_, fun c hc hb => ?_⟩
    · have kn := hq.2.2.2.1 k hk
      exact ⟨kn.1, kn.2.1.frame (fun k => hq.1.get (q := 126) (κ := 82) rfl rfl) (fun k => hq.1.get (q := 127) (κ := 83) rfl rfl), kn.2.2⟩
    · rw [hq.1.get (q := 129) (κ := 85) rfl rfl, e129, e125]
      exact gA.get (q := 125) (κ := 81) rfl rfl
    · rw [hld h4]
      exact (ldF_frame (gC.get (q := 97) (κ := 12) rfl rfl) (gC.get (q := 97) (κ := 12) rfl rfl) (fun k => gC.get (q := 106) (κ := 62) rfl rfl) (fun k => gC.get (q := 107) (κ := 63) rfl rfl) (fun k => gC.get (q := 108) (κ := 64) rfl rfl) e126 e127).symm
    · rw [e127, ← hx]
      exact t4 h4
    · have e : σ7.1 97 78 = w4 := by
        rw [hq.1.get (q := 97) (κ := 12) rfl rfl, m6.get (q := 97) (κ := 12) rfl rfl, hG'.get (q := 97) (κ := 12) rfl rfl, e78]
      rw [e] at hb
      obtain ⟨b1, b2⟩ := my_bt hn h0 (by omega) hmy hb
      refine ⟨by rw [e125]; exact b1, fun ⟨k, k1, k2, k3⟩ => b2 ⟨k, k1, by rw [← e127]; exact k2, by rw [← e126]; exact k3⟩⟩
  have e78' : σ7.1 97 78 = w4 := by
    rw [hq.1.get (q := 97) (κ := 12) rfl rfl, m6.get (q := 97) (κ := 12) rfl rfl, hG'.get (q := 97) (κ := 12) rfl rfl, e78]
  refine Rn.mono (fm_96 hB _ σ7 (bd_LSt hp hq) hTC (Gl.refl gC.1) rfl (Nat.le_refl _)) (fun v σ9 hz => ?_)
  obtain ⟨z1, z2, z3, z4⟩ := hz
  have gD : Gl mdMeans σ σ9 := gC.trans z2 rfl
  refine ⟨z1, gD, h.keep gD rfl z3 z4, ?_⟩
  rw [z2.get (q := 97) (κ := 12) rfl rfl, e78']
  exact hmy
