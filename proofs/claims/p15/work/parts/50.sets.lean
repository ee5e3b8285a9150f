/-! setsOut -/
def mdSets : List (Nat × Nat × Nat) := [(93, 0, 3), (94, 0, 15), (95, 0, 3), (12, 69, 69), (12, 71, 71), (96, 0, 3), (97, 0, 3), (98, 0, 3), (99, 0, 3), (92, 0, 262143)]
/-- x: what p still has of his hand on trial behind n cards -/
def hnd (σ : Sg) (n p : Nat) (x : Int32) : Prop := ∀ b : Nat, b < 16 → (bt x b = true ↔ bt (σ.1 129 p) b = true ∧ ¬ ∃ k : Nat, k < n ∧ (σ.1 127 k).toInt = (p : Int) ∧ (σ.1 126 k).toInt = (b : Int))
theorem cnt_le_of {n : Nat} {x y : Int32} (h : ∀ b, b < n → bt x b = true → bt y b = true) : cnt n x ≤ cnt n y := by
  unfold cnt
  apply List.countP_mono_left
  intro b hb hx
  exact h b (List.mem_range.mp hb) hx
theorem tk_keep {N q : Nat} {x : Int32} {σ σ' : Sg} (h : tk N q x σ) (hc : cnt N x ≤ 4) (h1 : σ'.1 137 q = σ.1 137 q) (h2 : σ'.1 139 q = σ.1 139 q) (h3 : ∀ i, 4 * q ≤ i → i < 4 * q + 4 → σ'.1 138 i = σ.1 138 i) : tk N q x σ' := by
  obtain ⟨a1, a2, a3⟩ := h
  refine ⟨by rw [h1]; exact a1, fun c hcN hb => ?_, by rw [h2]; exact a3⟩
  have := cnt_mono (a := c + 1) (b := N) (x := x) (by omega)
  rw [cnt_succ, hb, if_pos rfl] at this
  rw [h3 _ (by omega) (by omega)]
  exact a2 c hcN hb
theorem tk_msk {N : Nat} {σ : Sg} (h : ∀ p, p ≤ 3 → ∃ x, cnt N x ≤ 4 ∧ tk N p x σ) : mskF σ := by
  intro p hp
  obtain ⟨x, hc, a1, -, a3⟩ := h p hp
  have hr := nI_rg _ hc
  rw [a3, a1]
  refine ⟨hr.1, hr.2, ?_⟩
  have : ∀ h : Nat, h ≤ 4 → (nI (2 ^ h - 1)).toInt < 2 ^ ((h : Nat) : Int).toNat := by decide
  exact this _ hc
/-- what setsOut leaves: hands, the cards that lie, who led -/
def soP (N n : Nat) (σ σ' : Sg) : Prop := Gl mdSets σ σ' ∧ TB σ' ∧ (σ'.1 97 69).toInt = ((n % 4 : Nat) : Int) ∧ (∀ p, p ≤ 3 → ∃ x, cnt N x ≤ 4 ∧ hnd σ n p x ∧ tk N p x σ') ∧ ((¬ n % 4 = 0 ∧ σ'.1 97 71 = σ.1 127 (n - n % 4)) ∨ (n % 4 = 0 ∧ tnP N σ (σ'.1 97 71) ∧ (¬ σ.1 97 45 = 0 → n < N → σ'.1 97 71 = ldF σ n)))
theorem tnP_keep {N : Nat} {σ σ' : Sg} {w : Int32} (h1 : σ'.1 97 45 = σ.1 97 45) (h2 : σ'.1 97 48 = σ.1 97 48) (h3 : ∀ k, σ'.1 127 k = σ.1 127 k) (h : tnP N σ' w) : tnP N σ w := by
  unfold tnP at h ⊢
  rw [h1, h2] at h
  simp only [h3] at h
  exact h
section SO
variable {d N n : Nat} {σ0 : Sg}
theorem so_keep (hP : pack N σ0) (hn : (σ0.1 97 48).toInt = (n : Int)) {σ : Sg} (hG : Gl mdSets σ0 σ) : pack N σ ∧ (σ.1 97 48).toInt = (n : Int) := by
  have e18 : σ.1 97 18 = σ0.1 97 18 := hG.get (q := 97) (κ := 12) rfl rfl
  have e48 : σ.1 97 48 = σ0.1 97 48 := hG.get (q := 97) (κ := 12) rfl rfl
  have e106 : ∀ k, σ.1 106 k = σ0.1 106 k := fun k => hG.get (q := 106) (κ := 62) rfl rfl
  have e107 : ∀ k, σ.1 107 k = σ0.1 107 k := fun k => hG.get (q := 107) (κ := 63) rfl rfl
  refine ⟨?_, by rw [e48]; exact hn⟩
  unfold pack
  rw [e18, e106, e107]
  exact hP
/-- the end: the most cards, the table -/
theorem so_120 (hP : pack N σ0) (hn : (σ0.1 97 48).toInt = (n : Int)) {σ : Sg} (hG : Gl mdSets σ0 σ) (hTB : TB σ) (h69 : (σ.1 97 69).toInt = ((n % 4 : Nat) : Int)) (htk : ∀ p, p ≤ 3 → ∃ x, cnt N x ≤ 4 ∧ hnd σ0 n p x ∧ tk N p x σ) (h71 : (¬ n % 4 = 0 ∧ σ.1 97 71 = σ0.1 127 (n - n % 4)) ∨ (n % 4 = 0 ∧ tnP N σ0 (σ.1 97 71) ∧ (¬ σ0.1 97 45 = 0 → n < N → σ.1 97 71 = ldF σ0 n))) : ∀ (m k : Nat) (x1 x2 : Int32), k + m = 4 → x2.toInt = (k : Int) → 0 ≤ x1.toInt → x1.toInt ≤ 4 → Rn PRG (d + 1 + 1 + 1 + 1 + 1 + 1) 281 120 [(0, .ref 97), (1, .int x1), (2, .int x2)] [] σ (fun v σ' => v = none ∧ soP N n σ0 σ') := by
  have four : (4 : Int32).toInt = 4 := by decide
  have one : (1 : Int32).toInt = 1 := by decide
  have fin : ∀ x1 : Int32, 0 ≤ x1.toInt → x1.toInt ≤ 4 → ∃ Qc : Sg → Prop, OkV PRG (d + 1 + 1 + 1 + 1 + 1) 280 [.ref 97, .int (x1 - (1 : Int32))] σ Qc ∧ ∀ σ1, Qc σ1 → (none : Option Value) = none ∧ soP N n σ0 σ1 := by
    intro x1 a b
    have e : (x1 - (1 : Int32)).toInt = x1.toInt - 1 := by
      rw [sub_ex (by rw [one]; unfold FL; omega) (by rw [one]; unfold FH; omega), one]
    refine ⟨_, fillTable_OK hG.1 (so_keep hP hn hG).1.pk hTB (tk_msk (fun p hp => by obtain ⟨x, y1, -, y2⟩ := htk p hp; exact ⟨x, y1, y2⟩)) (by rw [e]; clear e; omega), fun σ1 hq => ⟨rfl, ?_⟩⟩
    obtain ⟨q1, q2, q3, q4⟩ := hq
    have f71 : σ1.1 97 71 = σ.1 97 71 := q1.get (q := 97) (κ := 12) rfl rfl
    have f137 : ∀ k, σ1.1 137 k = σ.1 137 k := fun k => q1.get (q := 137) (κ := 93) rfl rfl
    have f138 : ∀ k, σ1.1 138 k = σ.1 138 k := fun k => q1.get (q := 138) (κ := 94) rfl rfl
    refine ⟨hG.trans q1 rfl, q2, by rw [q3]; exact h69, fun p hp => ?_, by rw [f71]; exact h71⟩
    obtain ⟨x, y1, y2, y3⟩ := htk p hp
    exact ⟨x, y1, y2, tk_keep y3 y1 (f137 p) (q4 p hp) (fun i _ _ => f138 i)⟩
  intro m
  induction m with
  | zero =>
    intro k x1 x2 hk h2 a b
    exact w_281_120 σ x1 x2 ⟨fun _ => fin x1 a b, fun c => absurd (by rw [le_i four h2]; omega) c⟩
  | succ m ih =>
    intro k x1 x2 hk h2 a b
    refine w_281_120 σ x1 x2 ⟨fun _ => fin x1 a b, fun c => ?_⟩
    rw [le_i four h2] at c
    have hx2 : (x2 + (1 : Int32)).toInt = ((k + 1 : Nat) : Int) := by
      rw [add_lit (k := 1) h2 (by decide) (by unfold FL; omega) (by unfold FH; omega)]; push_cast; rfl
    have hin : inR x2 4 = true := inR_ok (by omega) (by omega)
    have hh := tyA hG.1 (q := 137) (κ := 93) (k := k) (a := 0) (b := 3) (lo := 0) (hi := 4) rfl rfl (by omega) (by omega)
    rw [cn_of h2]
    exact ⟨hin, fun _ => ih (k + 1) x1 _ (by omega) hx2 a b, fun _ => ⟨hin, ih (k + 1) _ _ (by omega) hx2 hh.1 hh.2⟩⟩
/-- the cards that lie -/
theorem so_48 (hP : pack N σ0) (hn : (σ0.1 97 48).toInt = (n : Int)) (hn16 : n ≤ 16) : ∀ (m k : Nat) (x1 : Int32) (σ : Sg), k + m = n % 4 → x1.toInt = (k : Int) → Gl mdSets σ0 σ → TB σ → (σ.1 97 69).toInt = ((n % 4 : Nat) : Int) → (∀ p, p ≤ 3 → ∃ x, cnt N x ≤ 4 ∧ hnd σ0 n p x ∧ tk N p x σ) → Rn PRG (d + 1 + 1 + 1 + 1 + 1 + 1) 281 48 [(0, .ref 97), (1, .int x1)] [] σ (fun v σ' => v = none ∧ soP N n σ0 σ') := by
  have zero : (0 : Int32).toInt = 0 := rfl
  have fin : ∀ σ : Sg, Gl mdSets σ0 σ → TB σ → (σ.1 97 69).toInt = ((n % 4 : Nat) : Int) → (∀ p, p ≤ 3 → ∃ x, cnt N x ≤ 4 ∧ hnd σ0 n p x ∧ tk N p x σ) → (((σ.1 97 69) ≤ 0 → (∃ Qc : Int32 → Sg → Prop, OkI PRG (d + 1 + 1 + 1 + 1 + 1) 230 [.ref 97] σ Qc ∧ ∀ w2 σ1, Qc w2 σ1 → Rn PRG (d + 1 + 1 + 1 + 1 + 1 + 1) 281 120 [(0, .ref 97), (1, .int (0 : Int32)), (2, .int (0 : Int32))] [] (s1 σ1 97 71 w2) (fun v σ' => v = none ∧ soP N n σ0 σ'))) ∧ (¬ (σ.1 97 69) ≤ 0 → (inR ((σ.1 97 48) - (σ.1 97 69)) 16 = true ∧ Rn PRG (d + 1 + 1 + 1 + 1 + 1 + 1) 281 120 [(0, .ref 97), (1, .int (0 : Int32)), (2, .int (0 : Int32))] [] (s1 σ 97 71 (σ.1 127 ((σ.1 97 48) - (σ.1 97 69)).toNatClampNeg)) (fun v σ' => v = none ∧ soP N n σ0 σ')))) := by
    intro σ hG hTB h69 htk
    have hk := so_keep hP hn hG
    have go : ∀ w : Int32, -2 ≤ w.toInt → w.toInt ≤ 3 → ((¬ n % 4 = 0 ∧ w = σ0.1 127 (n - n % 4)) ∨ (n % 4 = 0 ∧ tnP N σ0 w ∧ (¬ σ0.1 97 45 = 0 → n < N → w = ldF σ0 n))) → Rn PRG (d + 1 + 1 + 1 + 1 + 1 + 1) 281 120 [(0, .ref 97), (1, .int (0 : Int32)), (2, .int (0 : Int32))] [] (s1 σ 97 71 w) (fun v σ' => v = none ∧ soP N n σ0 σ') := by
      intro w a b h
      have g : Gl mdSets σ0 (s1 σ 97 71 w) := wrG (κ := 12) (a := 71) (b := 71) (vl := -2) (vh := 3) rfl rfl hG rfl (Nat.le_refl _) (Nat.le_refl _) a b
      refine so_120 hP hn g (TB_off hTB (by decide)) h69 (fun p hp => ?_) h 4 0 0 0 rfl rfl (by decide) (by decide)
      obtain ⟨x, y1, y2, y3⟩ := htk p hp
      exact ⟨x, y1, y2, tk_keep y3 y1 (s1_off (by omega)) (s1_off (by omega)) (fun i _ _ => s1_off (by omega))⟩
    refine ⟨fun c => ?_, fun c => ?_⟩
    · rw [le_i h69 zero] at c
      have h4 : n % 4 = 0 := by omega
      have hturn : OkI PRG (d + 1 + 1 + 1 + 1 + 1) 230 [.ref 97] σ (fun w σ' => σ' = σ ∧ tnP N σ w ∧ (¬ σ.1 97 45 = 0 → n < N → w = ldF σ n)) := by
        by_cases hcond : ¬ σ.1 97 45 = 0 ∧ n < N
        · have h2 := OkI.and (turnNow_OK (d := d + 1 + 1) hG.1 hk.1) (turn_F (d := d + 1 + 1) hG.1 hk.1 hcond.1 hk.2 hcond.2 h4)
          rw [Nat.max_self] at h2
          exact h2.mono (fun w σ' h => ⟨h.1.1, h.1.2, fun _ _ => h.2.2⟩)
        · exact (turnNow_OK (d := d + 1 + 1) hG.1 hk.1).mono (fun w σ' h => ⟨h.1, h.2, fun a b => absurd ⟨a, b⟩ hcond⟩)
      refine ⟨_, hturn, fun w2 σ1 hq => ?_⟩
      obtain ⟨rfl, hw, hF⟩ := hq
      have e45 : σ1.1 97 45 = σ0.1 97 45 := hG.get (q := 97) (κ := 12) rfl rfl
      have e48 : σ1.1 97 48 = σ0.1 97 48 := hG.get (q := 97) (κ := 12) rfl rfl
      have e127 : ∀ k, σ1.1 127 k = σ0.1 127 k := fun k => hG.get (q := 127) (κ := 83) rfl rfl
      have hfr : ldF σ1 n = ldF σ0 n := ldF_frame (hG.get (q := 97) (κ := 12) rfl rfl) (hG.get (q := 97) (κ := 12) rfl rfl) (fun k => hG.get (q := 106) (κ := 62) rfl rfl) (fun k => hG.get (q := 107) (κ := 63) rfl rfl) (fun k => hG.get (q := 108) (κ := 64) rfl rfl) (fun k => hG.get (q := 126) (κ := 82) rfl rfl) e127
      rw [e45, hfr] at hF
      have hr : -2 ≤ w2.toInt ∧ w2.toInt ≤ 3 := by
        rcases hw with ⟨-, h⟩ | ⟨-, -, h1, h2, -⟩
        · rw [h]; omega
        · omega
      exact go w2 hr.1 hr.2 (Or.inr ⟨h4, tnP_keep e45 e48 e127 hw, hF⟩)
    · rw [le_i h69 zero] at c
      have e1 : ((σ.1 97 48) - (σ.1 97 69)).toInt = ((n - n % 4 : Nat) : Int) := by
        rw [sub_ex (by rw [hk.2, h69]; unfold FL; omega) (by rw [hk.2, h69]; unfold FH; omega), hk.2, h69]
        omega
      rw [cn_of e1]
      have e127 : ∀ k, σ.1 127 k = σ0.1 127 k := fun k => hG.get (q := 127) (κ := 83) rfl rfl
      have hwh := tyA hG.1 (q := 127) (κ := 83) (k := n - n % 4) (a := 0) (b := 15) (lo := 0) (hi := 3) rfl rfl (by omega) (by clear e1; omega)
      exact ⟨inR_ok (by rw [e1]; clear e1; omega) (by rw [e1]; clear e1; omega), go _ (by clear e1; omega) hwh.2 (Or.inl ⟨by clear e1; omega, e127 _⟩)⟩
  intro m
  induction m with
  | zero =>
    intro k x1 σ hk h1 hG hTB h69 htk
    exact w_281_48 σ x1 ⟨fun _ => fin σ hG hTB h69 htk, fun c => absurd (by rw [le_i h69 h1]; omega) c⟩
  | succ m ih =>
    intro k x1 σ hk h1 hG hTB h69 htk
    refine w_281_48 σ x1 ⟨fun _ => fin σ hG hTB h69 htk, fun c => ?_⟩
    clear c
    have hkk := so_keep hP hn hG
    have hx1 : (x1 + (1 : Int32)).toInt = ((k + 1 : Nat) : Int) := by
      rw [add_lit (k := 1) h1 (by decide) (by unfold FL; omega) (by unfold FH; omega)]; push_cast; rfl
    have e1 : ((σ.1 97 48) - (σ.1 97 69)).toInt = ((n - n % 4 : Nat) : Int) := by
      rw [sub_ex (by rw [hkk.2, h69]; unfold FL; clear hx1; omega) (by rw [hkk.2, h69]; unfold FH; clear hx1; omega), hkk.2, h69]
      clear hx1
      omega
    have e2 : (((σ.1 97 48) - (σ.1 97 69)) + x1).toInt = ((n - n % 4 + k : Nat) : Int) := by
      rw [add_ex (by rw [e1, h1]; unfold FL; clear e1 hx1; omega) (by rw [e1, h1]; unfold FH; clear e1 hx1; omega), e1, h1]
      push_cast; rfl
    rw [cn_of e2, cn_of h1]
    have hin1 : inR (((σ.1 97 48) - (σ.1 97 69)) + x1) 16 = true := inR_ok (by rw [e2]; clear e1 e2 hx1; omega) (by rw [e2]; clear e1 e2 hx1; omega)
    clear e1 e2
    have hin2 : inR x1 4 = true := inR_ok (by clear hx1; omega) (by clear hx1; omega)
    have hcd := tyA hG.1 (q := 126) (κ := 82) (k := n - n % 4 + k) (a := 0) (b := 15) (lo := -1) (hi := 15) rfl rfl (by omega) (by clear hx1; omega)
    have g : Gl mdSets σ0 (s1 σ 140 k (σ.1 126 (n - n % 4 + k))) := wrG (κ := 96) (a := 0) (b := 3) (vl := -1) (vh := 15) rfl rfl hG rfl (Nat.zero_le _) (by clear hx1; omega) hcd.1 hcd.2
    refine ⟨hin1, hin2, ih (k + 1) _ _ (by omega) hx1 g (TB_off hTB (by decide)) h69 (fun p hp => ?_)⟩
    obtain ⟨x, y1, y2, y3⟩ := htk p hp
    exact ⟨x, y1, y2, tk_keep y3 y1 (s1_off (by omega)) (s1_off (by omega)) (fun i _ _ => s1_off (by omega))⟩
/-- the hands -/
theorem so_2 (hP : pack N σ0) (hn : (σ0.1 97 48).toInt = (n : Int)) (hc : ∀ p, p ≤ 3 → cnt N (σ0.1 129 p) ≤ 4) (hn16 : n ≤ 16) : ∀ (m k : Nat) (x1 : Int32) (σ : Sg), k + m = 4 → x1.toInt = (k : Int) → Gl mdSets σ0 σ → TB σ → (∀ p, p < k → ∃ x, cnt N x ≤ 4 ∧ hnd σ0 n p x ∧ tk N p x σ) → Rn PRG (d + 1 + 1 + 1 + 1 + 1 + 1) 281 2 [(0, .ref 97), (1, .int x1)] [] σ (fun v σ' => v = none ∧ soP N n σ0 σ') := by
  have four : (4 : Int32).toInt = 4 := by decide
  have hN := hP.le
  have fin : ∀ σ : Sg, Gl mdSets σ0 σ → TB σ → (∀ p, p < 4 → ∃ x, cnt N x ≤ 4 ∧ hnd σ0 n p x ∧ tk N p x σ) → Rn PRG (d + 1 + 1 + 1 + 1 + 1 + 1) 281 48 [(0, .ref 97), (1, .int (0 : Int32))] [] (s1 σ 97 69 ((σ.1 97 48) - (σ.1 97 48) / (4 : Int32) * (4 : Int32))) (fun v σ' => v = none ∧ soP N n σ0 σ') := by
    intro σ hG hTB htk
    have hk := so_keep hP hn hG
    have e : ((σ.1 97 48) - (σ.1 97 48) / (4 : Int32) * (4 : Int32)).toInt = ((n % 4 : Nat) : Int) := by
      rw [rem_ex (by decide), hk.2, four, Int.tmod_eq_emod_of_nonneg (by omega)]
      omega
    have g : Gl mdSets σ0 (s1 σ 97 69 ((σ.1 97 48) - (σ.1 97 48) / (4 : Int32) * (4 : Int32))) := wrG (κ := 12) (a := 69) (b := 69) (vl := 0) (vh := 3) rfl rfl hG rfl (Nat.le_refl _) (Nat.le_refl _) (by rw [e]; clear e; omega) (by rw [e]; clear e; omega)
    refine so_48 hP hn hn16 (n % 4) 0 0 _ (by omega) rfl g (TB_off hTB (by decide)) e (fun p hp => ?_)
    obtain ⟨x, y1, y2, y3⟩ := htk p (by omega)
    exact ⟨x, y1, y2, tk_keep y3 y1 (s1_off (by omega)) (s1_off (by omega)) (fun i _ _ => s1_off (by omega))⟩
  intro m
  induction m with
  | zero =>
    intro k x1 σ hk h1 hG hTB htk
    have : k = 4 := by omega
    subst this
    exact w_281_2 σ x1 ⟨fun _ => fin σ hG hTB htk, fun c => absurd (by rw [le_i four h1]; omega) c⟩
  | succ m ih =>
    intro k x1 σ hk h1 hG hTB htk
    refine w_281_2 σ x1 ⟨fun c => ?_, fun c => ?_⟩
    · rw [le_i four h1] at c; omega
    clear c
    have hkk := so_keep hP hn hG
    have hx1 : (x1 + (1 : Int32)).toInt = ((k + 1 : Nat) : Int) := by
      rw [add_lit (k := 1) h1 (by decide) (by unfold FL; omega) (by unfold FH; omega)]; push_cast; rfl
    have hin : inR x1 4 = true := inR_ok (by clear hx1; omega) (by clear hx1; omega)
    rw [cn_of h1]
    refine ⟨hin, _, playedBy_OK hG.1 hkk.2 hn16, fun w2 σ1 hq => ?_⟩
    obtain ⟨rfl, hw⟩ := hq
    have e129 : ∀ k, σ1.1 129 k = σ0.1 129 k := fun k => hG.get (q := 129) (κ := 85) rfl rfl
    have e127 : ∀ k, σ1.1 127 k = σ0.1 127 k := fun k => hG.get (q := 127) (κ := 83) rfl rfl
    have e126 : ∀ k, σ1.1 126 k = σ0.1 126 k := fun k => hG.get (q := 126) (κ := 82) rfl rfl
    have hx : hnd σ0 n k ((σ1.1 129 k) &&& (w2 ^^^ (-1 : Int32))) := by
      intro b hb
      rw [bt_and, bt_not _ (by omega), Bool.and_eq_true, e129]
      refine and_congr_right (fun _ => ?_)
      rw [Bool.not_eq_true', ← Bool.not_eq_true, hw.1 b hb]
      refine not_congr ⟨?_, ?_⟩
      · rintro ⟨j, a1, a2, a3⟩
        exact ⟨j, a1, by rw [← e127, a2]; exact h1, by rw [← e126]; exact a3⟩
      · rintro ⟨j, a1, a2, a3⟩
        exact ⟨j, a1, by rw [e127]; exact Int32.toInt_inj.mp (by rw [a2, h1]), by rw [e126]; exact a3⟩
    have hcx : cnt N ((σ1.1 129 k) &&& (w2 ^^^ (-1 : Int32))) ≤ 4 := by
      have := hc k (by omega)
      rw [← e129] at this
      refine Nat.le_trans (cnt_le_of (fun b _ h => ?_)) this
      rw [bt_and, Bool.and_eq_true] at h
      exact h.1
    refine ⟨_, takesHand_OK hG.1 h1 (by omega) hkk.1 hcx, fun σ3 hq => ?_⟩
    obtain ⟨q1, q2, q3, q4, q5⟩ := hq
    have hTB3 : TB σ3 := fun i hi => by
      have : σ3.1 136 i = σ1.1 136 i := q1.get (q := 136) (κ := 92) rfl rfl
      rw [this]; exact hTB i hi
    refine ih (k + 1) _ σ3 (by omega) hx1 (hG.trans q1 rfl) hTB3 (fun p hp => ?_)
    by_cases hpk : p = k
    · subst hpk
      exact ⟨_, hcx, hx, q2⟩
    · obtain ⟨x, y1, y2, y3⟩ := htk p (by omega)
      exact ⟨x, y1, y2, tk_keep y3 y1 (q3 p hpk) (q4 p hpk) (fun i hi1 hi2 => q5 i (by omega))⟩
theorem setsOut_OK (ht0 : typed TYP σ0) (hP : pack N σ0) (hT : TB σ0) (hn : (σ0.1 97 48).toInt = (n : Int)) (hc : ∀ p, p ≤ 3 → cnt N (σ0.1 129 p) ≤ 4) (hn16 : n ≤ 16) : OkV PRG (d + 1 + 1 + 1 + 1 + 1 + 1) 281 [.ref 97] σ0 (soP N n σ0) :=
  ⟨M_281, rfl, Nat.le_of_ble_eq_true rfl, w_281_0 σ0 (so_2 hP hn hc hn16 4 0 0 σ0 rfl rfl (Gl.refl ht0) hT (fun p hp => absurd hp (by omega)))⟩
end SO
