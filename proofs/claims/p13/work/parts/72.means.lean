/-! fillMeans: the sums begin at nothing -/
def mdInit : List (Nat × Nat × Nat) := [(101, 0, 15), (102, 0, 79)]
theorem Gl.long {ms : List (Nat × Nat × Nat)} {σ0 σ : Sg} {q k : Nat} {x : Int64} (h : Gl ms σ0 σ) : Gl ms σ0 (s2 σ q k x) := h
theorem sp_ix {x y : Int32} {c k : Nat} (hx : x.toInt = (c : Int)) (hy : y.toInt = (k : Int)) (hc : c ≤ 15) (hk : k ≤ 4) : (((5 : Int32) * x) + y).toInt = ((5 * c + k : Nat) : Int) := by
  have e1 : ((5 : Int32) * x).toInt = 5 * x.toInt := mul_lit (by decide) (by unfold FL; omega) (by unfold FH; omega)
  rw [add_ex (by rw [e1]; unfold FL; omega) (by rw [e1]; unfold FH; omega), e1]
  omega
theorem fm_44 {d c : Nat} {x1 x2 x3 : Int32} {σ0 : Sg} {Q : Option Value → Sg → Prop} (h3 : x3.toInt = (c : Int)) (hc : c ≤ 15) (K : ∀ σ', Gl mdInit σ0 σ' → Rn PRG (d + 1) 289 20 [(0, .ref 97), (1, .int x1), (2, .int x2), (3, .int (x3 + (1 : Int32)))] [] σ' Q) : ∀ (m k : Nat) (x4 : Int32) (σ : Sg), k + m = 5 → x4.toInt = (k : Int) → Gl mdInit σ0 σ → Rn PRG (d + 1) 289 44 [(0, .ref 97), (1, .int x1), (2, .int x2), (3, .int x3), (4, .int x4)] [] σ Q := by
  have five : (5 : Int32).toInt = 5 := by decide
  intro m
  induction m with
  | zero =>
    intro k x4 σ hk h4 hG
    exact w_289_44 σ x1 x2 x3 x4 ⟨fun _ => K σ hG, fun c => absurd (by rw [le_i five h4]; omega) c⟩
  | succ m ih =>
    intro k x4 σ hk h4 hG
    have hx4 : (x4 + (1 : Int32)).toInt = ((k + 1 : Nat) : Int) := by
      rw [add_lit (k := 1) h4 (by decide) (by unfold FL; omega) (by unfold FH; omega)]; push_cast; rfl
    have ei := sp_ix h3 h4 hc (by clear hx4; omega)
    refine w_289_44 σ x1 x2 x3 x4 ⟨fun _ => K σ hG, fun _ => ⟨inR_ok (by rw [ei]; clear ei hx4; omega) (by rw [ei]; clear ei hx4; omega), ?_⟩⟩
    rw [cn_of ei]
    clear ei
    exact ih (k + 1) _ _ (by omega) hx4 (wrG (κ := 102) (a := 0) (b := 79) (vl := FL) (vh := FH) rfl rfl hG rfl (Nat.zero_le _) (by clear hx4; omega) (w_lo _) (w_hi _))
theorem fm_20 {d : Nat} {x1 x2 : Int32} {σ0 : Sg} {Q : Option Value → Sg → Prop} (K : ∀ (x3 : Int32) (σ' : Sg), (16 : Int32) ≤ x3 → Gl mdInit σ0 σ' → Rn PRG (d + 1) 289 20 [(0, .ref 97), (1, .int x1), (2, .int x2), (3, .int x3)] [] σ' Q) : ∀ (m c : Nat) (x3 : Int32) (σ : Sg), c + m = 16 → x3.toInt = (c : Int) → Gl mdInit σ0 σ → Rn PRG (d + 1) 289 20 [(0, .ref 97), (1, .int x1), (2, .int x2), (3, .int x3)] [] σ Q := by
  have sixt : (16 : Int32).toInt = 16 := by decide
  intro m
  induction m with
  | zero =>
    intro c x3 σ hc h3 hG
    exact K x3 σ (by rw [le_i sixt h3]; omega) hG
  | succ m ih =>
    intro c x3 σ hc h3 hG
    have hx3 : (x3 + (1 : Int32)).toInt = ((c + 1 : Nat) : Int) := by
      rw [add_lit (k := 1) h3 (by decide) (by unfold FL; omega) (by unfold FH; omega)]; push_cast; rfl
    have hin : inR x3 16 = true := inR_ok (by clear hx3; omega) (by clear hx3; omega)
    refine w_289_20 σ x1 x2 x3 ⟨fun c2 => ?_, fun _ => ⟨hin, hin, ?_⟩⟩
    · rw [le_i sixt h3] at c2; clear hx3; omega
    rw [cn_of h3]
    have g := wrG (x := (99 : Int32)) (q := 145) (k := c) (κ := 101) (a := 0) (b := 15) (vl := FL) (vh := FH) rfl rfl (hG.long (q := 144) (k := c) (x := 0)) rfl (Nat.zero_le _) (by clear hx3; omega) (w_lo _) (w_hi _)
    exact fm_44 h3 (by clear hx3; omega) (fun σ' hG' => ih (c + 1) _ σ' (by omega) hx3 hG') 5 0 0 _ rfl rfl g
