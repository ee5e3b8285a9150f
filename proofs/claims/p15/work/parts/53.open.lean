/-! no more tricks than are left; setsOutReal, openNow -/
def stS (N n : Nat) (σs σ : Sg) : Prop := TB σ ∧ (σ.1 97 69).toInt = ((n % 4 : Nat) : Int) ∧ (∀ p, p ≤ 3 → ∃ x, cnt N x ≤ 4 ∧ hnd σs n p x ∧ tk N p x σ) ∧ ((¬ n % 4 = 0 ∧ σ.1 97 71 = σs.1 127 (n - n % 4)) ∨ (n % 4 = 0 ∧ tnP N σs (σ.1 97 71) ∧ (¬ σs.1 97 45 = 0 → n < N → σ.1 97 71 = ldF σs n)))
theorem soP.st {N n : Nat} {σ σ' : Sg} (h : soP N n σ σ') : stS N n σ σ' := h.2
theorem stS.lead {N n : Nat} {σs σ : Sg} (h : stS N n σs σ) (hts : typed TYP σs) (hd : ¬ σs.1 97 45 = 0) (hn : (σs.1 97 48).toInt = (n : Int)) (hlt : n < N) (hN : N ≤ 16) : ∃ L : Nat, L ≤ 3 ∧ (σ.1 97 71).toInt = (L : Int) ∧ (¬ n % 4 = 0 → L = wn (σs.1 127 (n - n % 4))) := by
  rcases h.2.2.2 with ⟨h0, h1⟩ | ⟨h0, h1⟩
  · have := tyA hts (q := 127) (κ := 83) (k := n - n % 4) (a := 0) (b := 15) (lo := 0) (hi := 3) rfl rfl (by omega) (by omega)
    refine ⟨wn (σs.1 127 (n - n % 4)), by unfold wn; omega, by rw [h1]; unfold wn; omega, fun _ => rfl⟩
  · rcases h1.1 with ⟨h1 | h1, -⟩ | ⟨-, -, a, b, -⟩
    · exact absurd h1 hd
    · rw [hn] at h1; omega
    · exact ⟨(σ.1 97 71).toInt.toNat, by omega, by omega, fun h => absurd h0 h⟩
theorem stS.m15 {N n : Nat} {σs σ : Sg} (h : stS N n σs σ) : mk15 σ := by
  intro p hp
  obtain ⟨x, hc, -, -, -, a3⟩ := h.2.2.1 p hp
  rw [a3]
  exact (nI_rg _ hc).2
theorem pop_mask : ∀ h : Nat, h ≤ 4 → pop (nI (2 ^ h - 1)) = h := by decide
theorem bt_mask : ∀ h : Nat, h ≤ 4 → ∀ b : Nat, b < 16 → bt (nI (2 ^ h - 1)) b = decide (b < h) := by decide
theorem lvl_plr {L r : Nat} (hL : L ≤ 3) (hr : r ≤ 3) : lvl L (plr L r) = r := by
  unfold lvl plr; omega
theorem plr_lvl {L p : Nat} (hL : L ≤ 3) (hp : p ≤ 3) : plr L (lvl L p) = p := by
  unfold lvl plr; omega
/-- has: as many as the deal leaves -/
theorem has_eq {N n : Nat} {σs σ : Sg} (h : stS N n σs σ) (hN : N ≤ 16) (hPL : PL N (σs.1 129) n (σs.1 126) (σs.1 127)) {p : Nat} (hp : p ≤ 3) : ∃ x, cnt N x ≤ 4 ∧ hnd σs n p x ∧ tk N p x σ ∧ cnt N x + n / 4 + (if lvl (wn (σs.1 127 (n - n % 4))) p < n % 4 then 1 else 0) = N / 4 := by
  obtain ⟨x, hc, hx, ht⟩ := h.2.2.1 p hp
  refine ⟨x, hc, hx, ht, ?_⟩
  have := hPL.count hp
  have e : cnt N x = (List.range N).countP (hb (σs.1 129) (σs.1 126) (σs.1 127) n p) := by
    unfold cnt
    apply List.countP_congr
    intro b hb
    rw [List.mem_range] at hb
    rw [hx b (by omega), hb_iff]
  rw [e]
  exact this
theorem ob_strong {N n L c : Nat} {x1 : Int32} {σs σ σ2 : Sg} (h : stS N n σs σ) (hN : N ≤ 16) (hN4 : N % 4 = 0) (hPL : PL N (σs.1 129) n (σs.1 126) (σs.1 127)) (hlt : n < N) (hL3 : L ≤ 3) (hL : ¬ n % 4 = 0 → L = wn (σs.1 127 (n - n % 4))) (hx1 : x1.toInt = (c : Int)) (hcN : c < N) (hcard : bt (σs.1 129 (plr L (n % 4))) c = true ∧ ¬ ∃ k : Nat, k < n ∧ (σs.1 127 k).toInt = ((plr L (n % 4) : Nat) : Int) ∧ (σs.1 126 k).toInt = (c : Int)) (hM : obM (n % 4) (plr L (n % 4)) x1 σ σ2) : bnd0 L σ2 ≤ (N : Int) / 4 - (n : Int) / 4 ∧ HC L σ2 := by
  obtain ⟨m1, m2, m3, m4⟩ := hM
  have hr3 : n % 4 ≤ 3 := by omega
  have hcnt : ∀ p, p ≤ 3 → ∃ x, cnt N x ≤ 4 ∧ hnd σs n p x ∧ tk N p x σ ∧ cnt N x + n / 4 + (if lvl L p < n % 4 then 1 else 0) = N / 4 := by
    intro p hp
    obtain ⟨x, a1, a2, a3, a4⟩ := has_eq h hN hPL hp
    refine ⟨x, a1, a2, a3, ?_⟩
    by_cases h0 : n % 4 = 0
    · rw [h0] at a4 ⊢
      rw [if_neg (by omega)] at a4 ⊢
      exact a4
    · rw [hL h0]; exact a4
  have hpp := lvl_plr hL3 hr3
  have hp3 : plr L (n % 4) ≤ 3 := by unfold plr; omega
  generalize hpg : plr L (n % 4) = p at *
  constructor
  · unfold bnd0
    rw [m1]
    obtain ⟨x, a1, a2, ⟨b1, b2, b3⟩, a4⟩ := hcnt 0 (by omega)
    by_cases hc1 : ((n % 4 : Nat) : Int) + 1 ≤ ((lvl L 0 : Nat) : Int)
    · rw [if_pos hc1]
      rw [if_neg (by omega)] at a4
      rw [m2 0 (fun e => by rw [← e] at hpp; omega), b3, pop_mask _ a1]
      omega
    · rw [if_neg hc1]
      by_cases hc2 : lvl L 0 = n % 4
      · have hp0 : p = 0 := by rw [← hpg, ← hc2]; exact plr_lvl hL3 (by omega)
        subst hp0
        rw [if_neg (by omega)] at a4
        have hcx : bt x c = true := (a2 c (by omega)).mpr hcard
        have hk := b2 c hcN hcx
        have hlt2 := cnt_mono (a := c + 1) (b := N) (x := x) (by omega)
        rw [cnt_succ, hcx, if_pos rfl] at hlt2
        have hone := countP_one (p := bt (σ.1 139 0)) (k := cnt c x) (l := List.range 16) List.nodup_range (List.mem_range.mpr (by omega))
        rw [b3, bt_mask _ a1 _ (by omega), decide_eq_true (by omega : cnt c x < cnt N x), if_pos rfl] at hone
        have hpm := pop_mask _ a1
        unfold pop at hpm
        rw [hpm] at hone
        have hle : pop (σ2.1 139 0) ≤ (List.range 16).countP (fun i => bt (nI (2 ^ cnt N x - 1)) i && !Nat.beq i (cnt c x)) := by
          unfold pop
          apply List.countP_mono_left
          intro i hi hbi
          rw [List.mem_range] at hi
          rw [m4, b3, Bool.and_eq_true] at hbi
          rw [Bool.and_eq_true]
          refine ⟨hbi.1, ?_⟩
          rw [Bool.not_eq_true']
          cases hbe : Nat.beq i (cnt c x) with
          | false => rfl
          | true =>
            have := Nat.eq_of_beq_eq_true hbe
            subst this
            have e1 : σ.1 138 (4 * 0 + cnt c x) = x1 := Int32.toInt_inj.mp (by rw [hk, hx1])
            rw [decide_eq_true e1, decide_eq_true (by rw [b1]; omega : ((cnt c x : Nat) : Int) < (σ.1 137 0).toInt)] at hbi
            simp at hbi
        omega
      · rw [if_pos (by omega)] at a4
        rw [m2 0 (fun e => by rw [← e] at hpp; omega), b3, pop_mask _ a1]
        omega
  · intro j hj hy
    rw [m1] at hy
    have hq3 : plr L j ≤ 3 := by unfold plr; omega
    have hlj := lvl_plr hL3 hj
    obtain ⟨x, a1, a2, ⟨b1, b2, b3⟩, a4⟩ := hcnt _ hq3
    rw [hlj, if_neg (by omega)] at a4
    have hne : ¬ plr L j = p := fun e => by rw [e] at hlj; omega
    refine ⟨0, ?_, ?_⟩
    · rw [m3, b1]; omega
    · rw [m2 _ hne, b3, bt_mask _ a1 _ (by omega)]
      apply decide_eq_true
      omega
/-- setsOutReal: the hands as they were dealt -/
def mdReal : List (Nat × Nat × Nat) := [(85, 0, 3), (93, 0, 3), (94, 0, 15), (95, 0, 3), (12, 69, 69), (12, 71, 71), (96, 0, 3), (97, 0, 3), (98, 0, 3), (99, 0, 3), (92, 0, 262143)]
def srP (N n : Nat) (σ σ' : Sg) : Prop := Gl mdReal σ σ' ∧ ∃ σs : Sg, Gl mdReal σ σs ∧ (∀ p, p ≤ 3 → σs.1 129 p = σ.1 125 p) ∧ (∀ k, σs.1 97 k = σ.1 97 k) ∧ stS N n σs σ'
theorem real_go {d N n : Nat} {σ0 : Sg} (hP : pack N σ0) (hT : TB σ0) (hn : (σ0.1 97 48).toInt = (n : Int)) (hn16 : n ≤ 16) (hc : ∀ p, p ≤ 3 → cnt N (σ0.1 125 p) ≤ 4) : ∀ (m k : Nat) (x1 : Int32) (σ : Sg), k + m = 4 → x1.toInt = (k : Int) → Gl [(85, 0, 3)] σ0 σ → (∀ p, p < k → σ.1 129 p = σ0.1 125 p) → Rn PRG (d + 1 + 1 + 1 + 1 + 1 + 1 + 1) 282 2 [(0, .ref 97), (1, .int x1)] [] σ (fun v σ' => v = none ∧ srP N n σ0 σ') := by
  have four : (4 : Int32).toInt = 4 := by decide
  intro m
  induction m with
  | zero =>
    intro k x1 σ hk h1 hG h
    have : k = 4 := by omega
    subst this
    refine w_282_2 σ x1 ⟨fun _ => ?_, fun c => absurd (by rw [le_i four h1]; omega) c⟩
    have e97 : ∀ k, σ.1 97 k = σ0.1 97 k := fun k => hG.get (q := 97) (κ := 12) rfl rfl
    have e106 : ∀ k, σ.1 106 k = σ0.1 106 k := fun k => hG.get (q := 106) (κ := 62) rfl rfl
    have e107 : ∀ k, σ.1 107 k = σ0.1 107 k := fun k => hG.get (q := 107) (κ := 63) rfl rfl
    have e136 : ∀ k, σ.1 136 k = σ0.1 136 k := fun k => hG.get (q := 136) (κ := 92) rfl rfl
    refine ⟨_, setsOut_OK hG.1 (by unfold pack; rw [e97, e106, e107]; exact hP) (fun i hi => by rw [e136]; exact hT i hi) (by rw [e97]; exact hn) (fun p hp => by rw [h p (by omega)]; exact hc p hp) hn16, fun σ1 hq => ⟨rfl, ?_⟩⟩
    exact ⟨(hG.mono rfl : Gl mdReal σ0 σ).trans hq.1 rfl, σ, hG.mono rfl, fun p hp => h p (by omega), e97, hq.st⟩
  | succ m ih =>
    intro k x1 σ hk h1 hG h
    refine w_282_2 σ x1 ⟨fun c => ?_, fun c => ?_⟩
    · rw [le_i four h1] at c; omega
    clear c
    have hx1 : (x1 + (1 : Int32)).toInt = ((k + 1 : Nat) : Int) := by
      rw [add_lit (k := 1) h1 (by decide) (by unfold FL; omega) (by unfold FH; omega)]; push_cast; rfl
    have hin : inR x1 4 = true := inR_ok (by clear hx1; omega) (by clear hx1; omega)
    have e125 : ∀ k, σ.1 125 k = σ0.1 125 k := fun k => hG.get (q := 125) (κ := 81) rfl rfl
    have hd := tyA hG.1 (q := 125) (κ := 81) (k := k) (a := 0) (b := 3) (lo := 0) (hi := 65535) rfl rfl (by omega) (by omega)
    rw [cn_of h1]
    refine ⟨hin, hin, ih (k + 1) _ _ (by omega) hx1 (wrG (κ := 85) (a := 0) (b := 3) (vl := 0) (vh := 65535) rfl rfl hG rfl (Nat.zero_le _) (by omega) hd.1 hd.2) (fun p hp => ?_)⟩
    by_cases hpk : p = k
    · subst hpk; rw [s1_on]; exact e125 p
    · rw [s1_off (fun e => hpk e.2)]; exact h p (by omega)
theorem setsOutReal_OK {d N n : Nat} {σ : Sg} (ht : typed TYP σ) (hP : pack N σ) (hT : TB σ) (hn : (σ.1 97 48).toInt = (n : Int)) (hn16 : n ≤ 16) (hc : ∀ p, p ≤ 3 → cnt N (σ.1 125 p) ≤ 4) : OkV PRG (d + 1 + 1 + 1 + 1 + 1 + 1 + 1) 282 [.ref 97] σ (srP N n σ) :=
  ⟨M_282, rfl, Nat.le_of_ble_eq_true rfl, w_282_0 σ (real_go hP hT hn hn16 hc 4 0 0 σ rfl rfl (Gl.refl ht) (fun p hp => absurd hp (by omega)))⟩
theorem stS.keep {N n : Nat} {σs σ σ' : Sg} (h : stS N n σs σ) (hT : TB σ') (h69 : (σ'.1 97 69).toInt = (σ.1 97 69).toInt) (h71 : σ'.1 97 71 = σ.1 97 71) (h137 : ∀ q, σ'.1 137 q = σ.1 137 q) (h138 : ∀ q, σ'.1 138 q = σ.1 138 q) (h139 : ∀ q, q ≤ 3 → σ'.1 139 q = σ.1 139 q) : stS N n σs σ' := by
  obtain ⟨a1, a2, a3, a4⟩ := h
  refine ⟨hT, by rw [h69]; exact a2, fun p hp => ?_, by rw [h71]; exact a4⟩
  obtain ⟨x, y1, y2, y3⟩ := a3 p hp
  exact ⟨x, y1, y2, tk_keep y3 y1 (h137 p) (h139 p hp) (fun i _ _ => h138 i)⟩
/-- openNow: nothing is left, or the hands are laid out -/
def onP (N n : Nat) (σ : Sg) (w : Int32) (σ' : Sg) : Prop := (n = N ∧ σ' = σ ∧ w = 0) ∨ (n < N ∧ srP N n σ σ' ∧ -1 ≤ w.toInt)
theorem openNow_OK {d N n : Nat} {σ : Sg} (ht : typed TYP σ) (hP : pack N σ) (hT : TB σ) (hd : ¬ σ.1 97 45 = 0) (hn : (σ.1 97 48).toInt = (n : Int)) (hnN : n ≤ N) (hc : ∀ p, p ≤ 3 → cnt N (σ.1 125 p) ≤ 4) : OkI PRG (d + 1 + 1 + 1 + 1 + 1 + 1 + 1 + 1) 283 [.ref 97] σ (onP N n σ) := by
  have hN := hP.le
  refine ⟨M_283, rfl, Nat.le_of_ble_eq_true rfl, w_283_0 σ ⟨_, cards_OK ht hP, fun w2 σ1 hq => ?_⟩⟩
  obtain ⟨rfl, hw⟩ := hq
  refine ⟨fun c => ⟨0, rfl, Or.inl ⟨?_, rfl, rfl⟩⟩, fun c => ?_⟩
  · rw [eq_i hn hw] at c; omega
  rw [eq_i hn hw] at c
  refine ⟨_, setsOutReal_OK ht hP hT hn (by omega) hc, fun σ3 hq => ?_⟩
  obtain ⟨q1, σs, q2, q3, q4, q5⟩ := hq
  obtain ⟨L, hL3, hL, -⟩ := q5.lead q2.1 (by rw [q4]; exact hd) (by rw [q4]; exact hn) (by omega) (by omega)
  have e18 : σ3.1 97 18 = σ1.1 97 18 := q1.get (q := 97) (κ := 12) rfl rfl
  have e107 : ∀ k, σ3.1 107 k = σ1.1 107 k := fun k => q1.get (q := 107) (κ := 63) rfl rfl
  refine ⟨_, trick_OK q1.1 hL hL3 (by unfold pkOK; rw [e18, e107]; exact hP.pk) q5.1 q5.m15, fun w5 σ4 hq => ?_⟩
  obtain ⟨r1, r2, -, -⟩ := hq
  refine ⟨w5, rfl, Or.inr ⟨by omega, ⟨q1.trans r1 rfl, σs, q2, q3, q4, q5.keep (fun i hi => ?_) ?_ ?_ ?_ ?_ ?_⟩, r2⟩⟩
  · have : σ4.1 136 i = σ3.1 136 i := r1.get (q := 136) (κ := 92) rfl rfl
    rw [this]; exact q5.1 i hi
  · have : σ4.1 97 69 = σ3.1 97 69 := r1.get (q := 97) (κ := 12) rfl rfl
    rw [this]
  · exact r1.get (q := 97) (κ := 12) rfl rfl
  · exact fun q => r1.get (q := 137) (κ := 93) rfl rfl
  · exact fun q => r1.get (q := 138) (κ := 94) rfl rfl
  · exact fun q _ => r1.get (q := 139) (κ := 95) rfl rfl
