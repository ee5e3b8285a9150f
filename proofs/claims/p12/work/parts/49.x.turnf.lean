/-! whose turn it is, as a function of the store -/
def rkF (σ : Sg) : Int32 := σ.1 107 (σ.1 97 18).toNatClampNeg
def trF (σ : Sg) : Int32 := if (σ.1 106 (σ.1 97 18).toNatClampNeg) ≤ (σ.1 108 (σ.1 97 18).toNatClampNeg) then -1 else σ.1 108 (σ.1 97 18).toNatClampNeg
def btF (σ : Sg) (x y : Int32) : Int32 := if x / rkF σ = y / rkF σ then (if x ≤ y then 0 else 1) else (if x / rkF σ = trF σ then 1 else 0)
def stF (σ : Sg) (b k : Nat) : Nat := if btF σ (σ.1 126 k) (σ.1 126 b) = 0 then b else k
def itF (σ : Sg) : Nat → Nat → Nat → Nat
  | 0, _, b => b
  | m + 1, k, b => itF σ m (k + 1) (stF σ b k)
theorem trumpSuit_F {d : Nat} {σ : Sg} (ht : typed TYP σ) : OkI PRG d 214 [.ref 97] σ (fun w σ' => σ' = σ ∧ w = trF σ) :=
  ⟨M_214, rfl, Nat.le_of_ble_eq_true rfl, w_214_0 σ ⟨live_in ht, live_in ht, fun c => ⟨_, rfl, rfl, by unfold trF; rw [if_pos c]⟩, fun c => ⟨live_in ht, _, rfl, rfl, by unfold trF; rw [if_neg c]⟩⟩⟩
theorem beats_F {d : Nat} {σ : Sg} {x y : Int32} (ht : typed TYP σ) (hp : pkOK σ) : OkI PRG (d + 1) 228 [.ref 97, .int x, .int y] σ (fun w σ' => σ' = σ ∧ w = btF σ x y) := by
  refine ⟨M_228, rfl, Nat.le_of_ble_eq_true rfl, w_228_0 σ x y ⟨_, suitOf_OK ht hp, fun w2 σ1 h1 => ?_⟩⟩
  obtain ⟨rfl, h2⟩ := h1
  refine ⟨_, suitOf_OK ht hp, fun w4 σ3 h3 => ?_⟩
  obtain ⟨rfl, h4⟩ := h3
  have e2 : w2 = x / rkF σ3 := h2
  have e4 : w4 = y / rkF σ3 := h4
  rw [e2, e4]
  refine ⟨fun c => ⟨fun c1 => ⟨_, rfl, rfl, by unfold btF; rw [if_pos c, if_pos c1]⟩, fun c1 => ⟨_, rfl, rfl, by unfold btF; rw [if_pos c, if_neg c1]⟩⟩, fun c => ⟨_, suitOf_OK ht hp, fun w6 σ5 h5 => ?_⟩⟩
  obtain ⟨rfl, h6⟩ := h5
  have e6 : w6 = x / rkF σ5 := h6
  refine ⟨_, trumpSuit_F ht, fun w8 σ7 h7 => ?_⟩
  obtain ⟨rfl, h8⟩ := h7
  rw [e6, h8]
  exact ⟨fun c1 => ⟨_, rfl, rfl, by unfold btF; rw [if_neg c, if_pos c1]⟩, fun c1 => ⟨_, rfl, rfl, by unfold btF; rw [if_neg c, if_neg c1]⟩⟩
theorem winner_F {d : Nat} {x1 : Int32} {σ : Sg} {t : Nat} (ht : typed TYP σ) (hp : pkOK σ) (hl : t ≤ 3) (e4 : (((4 : Int32) * x1) + (4 : Int32)).toInt = 4 * (t : Int) + 4) : ∀ (m k b : Nat) (x2 x3 : Int32), k + m = 4 * t + 4 → x3.toInt = (k : Int) → x2.toInt = (b : Int) → b ≤ 15 → Rn PRG (d + 1 + 1) 229 8 [(0, .ref 97), (1, .int x1), (2, .int x2), (3, .int x3)] [] σ (fun v σ' => ∃ w : Int32, v = some (.int w) ∧ σ' = σ ∧ w = σ.1 127 (itF σ m k b)) := by
  intro m
  induction m with
  | zero =>
    intro k b x2 x3 hk h3 h2 hb
    refine w_229_8 σ x1 x2 x3 ⟨fun _ => ⟨inR_ok (by omega) (by omega), _, rfl, rfl, ?_⟩, fun c => absurd ?_ c⟩
    · rw [cn_of h2]; rfl
    · rw [le_i e4 h3]; omega
  | succ m ih =>
    intro k b x2 x3 hk h3 h2 hb
    refine w_229_8 σ x1 x2 x3 ⟨fun c => ?_, fun c => ?_⟩
    · rw [le_i e4 h3] at c; omega
    clear c
    have hx3 : (x3 + (1 : Int32)).toInt = ((k + 1 : Nat) : Int) := by
      rw [add_lit (k := 1) h3 (by decide) (by unfold FL; clear e4; omega) (by unfold FH; clear e4; omega)]; push_cast; rfl
    rw [cn_of h3, cn_of h2]
    refine ⟨inR_ok (by clear e4 hx3; omega) (by clear e4 hx3; omega), inR_ok (by clear e4 hx3; omega) (by clear e4 hx3; omega), _, beats_F ht hp, fun w2 σ1 hq => ?_⟩
    obtain ⟨rfl, hw⟩ := hq
    have hstep : itF σ1 (m + 1) k b = itF σ1 m (k + 1) (stF σ1 b k) := rfl
    rw [hstep]
    refine ⟨fun c => ?_, fun c => ?_⟩
    · have e : stF σ1 b k = b := by unfold stF; rw [← hw, if_pos c]
      rw [e]
      exact ih (k + 1) b x2 _ (by omega) hx3 h2 hb
    · have e : stF σ1 b k = k := by unfold stF; rw [← hw, if_neg c]
      rw [e]
      exact ih (k + 1) k x3 _ (by omega) hx3 h3 (by clear e4 hx3; omega)
theorem winnerOf_F {d : Nat} {x1 : Int32} {σ : Sg} {t : Nat} (ht : typed TYP σ) (hp : pkOK σ) (h1 : x1.toInt = (t : Int)) (hl : t ≤ 3) : OkI PRG (d + 1 + 1) 229 [.ref 97, .int x1] σ (fun w σ' => σ' = σ ∧ w = σ.1 127 (itF σ 3 (4 * t + 1) (4 * t))) := by
  have e0 : ((4 : Int32) * x1).toInt = ((4 * t : Nat) : Int) := by
    rw [mul_lit (c := 4) (k := 4) (by decide) (by unfold FL; omega) (by unfold FH; omega), h1]; push_cast; rfl
  have e4 : (((4 : Int32) * x1) + (4 : Int32)).toInt = 4 * (t : Int) + 4 := by
    rw [add_lit (k := 4) e0 (by decide) (by unfold FL; omega) (by unfold FH; omega)]; push_cast; rfl
  have e1 : (((4 : Int32) * x1) + (1 : Int32)).toInt = ((4 * t + 1 : Nat) : Int) := by
    rw [add_lit (k := 1) e0 (by decide) (by unfold FL; omega) (by unfold FH; omega)]; push_cast; rfl
  exact ⟨M_229, rfl, Nat.le_of_ble_eq_true rfl, w_229_0 σ x1 (winner_F ht hp hl e4 3 (4 * t + 1) (4 * t) _ _ (by omega) e1 e0 (by omega))⟩
/-- at the beginning of a trick: who leads it -/
def ldF (σ : Sg) (n : Nat) : Int32 := if n = 0 then σ.1 97 47 else σ.1 127 (itF σ 3 (4 * (n / 4 - 1) + 1) (4 * (n / 4 - 1)))
theorem turn_F {d N n : Nat} {σ : Sg} (ht : typed TYP σ) (hp : pack N σ) (hd : ¬ (σ.1 97 45) = 0) (hn : (σ.1 97 48).toInt = (n : Int)) (hlt : n < N) (h4 : n % 4 = 0) : OkI PRG (d + 1 + 1 + 1) 230 [.ref 97] σ (fun w σ' => σ' = σ ∧ w = ldF σ n) := by
  have hN := hp.le
  have four : (4 : Int32).toInt = 4 := by decide
  have one : (1 : Int32).toInt = 1 := by decide
  have r4 : ((σ.1 97 48) - (σ.1 97 48) / (4 : Int32) * (4 : Int32)).toInt = 0 := by
    rw [rem_ex (by decide), hn, four, Int.tmod_eq_emod_of_nonneg (by omega)]; omega
  refine ⟨M_230, rfl, Nat.le_of_ble_eq_true rfl, w_230_0 σ ⟨fun c => absurd c hd, fun _ => ⟨_, cards_OK ht hp, fun w2 σ1 hq => ?_⟩⟩⟩
  obtain ⟨rfl, hw⟩ := hq
  refine ⟨fun c => ?_, fun _ => ⟨fun _ => ⟨fun c3 => ⟨_, rfl, rfl, ?_⟩, fun c3 => ?_⟩, fun c2 => absurd (by rw [le_i (b := 0) r4 rfl]; omega) c2⟩⟩
  · rw [eq_i hn hw] at c
    clear r4
    omega
  · have h0 : n = 0 := by
      rw [eq_i (b := 0) hn rfl] at c3
      clear r4
      omega
    unfold ldF
    rw [if_pos h0]
  · have h0 : ¬ n = 0 := by
      rw [eq_i (b := 0) hn rfl] at c3
      clear r4
      omega
    have d4 : ((σ1.1 97 48) / (4 : Int32)).toInt = ((n / 4 : Nat) : Int) := by
      rw [div_ex (by decide), hn, four, Int.tdiv_eq_ediv_of_nonneg (by omega)]; clear r4; omega
    have d5 : (((σ1.1 97 48) / (4 : Int32)) - (1 : Int32)).toInt = ((n / 4 - 1 : Nat) : Int) := by
      rw [sub_ex (by rw [d4, one]; unfold FL; clear r4 d4; omega) (by rw [d4, one]; unfold FH; clear r4 d4; omega), d4, one]; clear r4 d4; omega
    refine ⟨_, winnerOf_F ht hp.pk d5 (by clear r4 d4 d5; omega), fun w4 σ3 hq => ?_⟩
    obtain ⟨rfl, hw4⟩ := hq
    refine ⟨_, rfl, rfl, ?_⟩
    unfold ldF
    rw [if_neg h0]
    exact hw4
theorem ldF_frame {σ σ' : Sg} {n : Nat} (h97 : σ'.1 97 18 = σ.1 97 18) (h47 : σ'.1 97 47 = σ.1 97 47) (h106 : ∀ k, σ'.1 106 k = σ.1 106 k) (h107 : ∀ k, σ'.1 107 k = σ.1 107 k) (h108 : ∀ k, σ'.1 108 k = σ.1 108 k) (h126 : ∀ k, σ'.1 126 k = σ.1 126 k) (h127 : ∀ k, σ'.1 127 k = σ.1 127 k) : ldF σ' n = ldF σ n := by
  have hb : ∀ x y, btF σ' x y = btF σ x y := by
    intro x y
    unfold btF rkF trF
    rw [h97, h106, h107, h108]
  have hi : ∀ m k b, itF σ' m k b = itF σ m k b := by
    intro m
    induction m with
    | zero => intro k b; rfl
    | succ m ih =>
      intro k b
      show itF σ' m (k + 1) (stF σ' b k) = itF σ m (k + 1) (stF σ b k)
      have : stF σ' b k = stF σ b k := by unfold stF; rw [hb, h126, h126]
      rw [this, ih]
  unfold ldF
  rw [h47, hi, h127]
