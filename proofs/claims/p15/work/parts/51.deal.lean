/-! a deal and what was played of it -/
def wn (x : Int32) : Nat := x.toInt.toNat
/-- four hands of N cards and n cards played of them, in their order -/
def PL (N : Nat) (dl : Nat → Int32) (n : Nat) (cd wh : Nat → Int32) : Prop :=
  n ≤ N ∧ (∀ p, p ≤ 3 → cnt N (dl p) = N / 4) ∧ (∀ p, p ≤ 3 → ∀ b, N ≤ b → bt (dl p) b = false) ∧
  (∀ p q, p ≤ 3 → q ≤ 3 → ¬ p = q → ∀ b, bt (dl p) b = true → bt (dl q) b = false) ∧
  (∀ k, k < n → ∃ p b : Nat, p ≤ 3 ∧ b < N ∧ (wh k).toInt = (p : Int) ∧ (cd k).toInt = (b : Int) ∧ bt (dl p) b = true) ∧
  (∀ j k, j < k → k < n → ¬ (cd j).toInt = (cd k).toInt) ∧
  (∀ k, k < n → ¬ k % 4 = 0 → (wh k).toInt = ((wh (k - 1)).toInt + 1) % 4)
/-- has p card b still, behind m cards -/
def hb (dl cd wh : Nat → Int32) (m p b : Nat) : Bool := bt (dl p) b && !(List.range m).any (fun k => decide ((wh k).toInt = (p : Int)) && decide ((cd k).toInt = (b : Int)))
def cw (wh : Nat → Int32) (m p : Nat) : Nat := (List.range m).countP (fun k => decide ((wh k).toInt = (p : Int)))
theorem hb_iff {dl cd wh : Nat → Int32} {m p b : Nat} : hb dl cd wh m p b = true ↔ bt (dl p) b = true ∧ ¬ ∃ k : Nat, k < m ∧ (wh k).toInt = (p : Int) ∧ (cd k).toInt = (b : Int) := by
  unfold hb
  rw [Bool.and_eq_true, Bool.not_eq_true', ← Bool.not_eq_true, List.any_eq_true]
  refine and_congr_right (fun _ => not_congr ⟨?_, ?_⟩)
  · rintro ⟨k, h1, h2⟩
    simp only [Bool.and_eq_true, decide_eq_true_eq] at h2
    exact ⟨k, List.mem_range.mp h1, h2⟩
  · rintro ⟨k, h1, h2⟩
    exact ⟨k, List.mem_range.mpr h1, by simp only [Bool.and_eq_true, decide_eq_true_eq]; exact h2⟩
theorem cw_succ {wh : Nat → Int32} {m p : Nat} : cw wh (m + 1) p = cw wh m p + (if (wh m).toInt = (p : Int) then 1 else 0) := by
  unfold cw
  rw [List.range_succ, List.countP_append]
  simp [List.countP_cons]
section PLs
variable {N n : Nat} {dl cd wh : Nat → Int32}
theorem PL.left (h : PL N dl n cd wh) {p : Nat} (hp : p ≤ 3) : ∀ m, m ≤ n → (List.range N).countP (hb dl cd wh m p) + cw wh m p = N / 4 := by
  obtain ⟨hn, h1, h2, h3, h4, h5, h6⟩ := h
  intro m
  induction m with
  | zero =>
    intro _
    rw [← h1 p hp]
    unfold cw cnt
    simp only [List.range_zero, List.countP_nil, Nat.add_zero]
    apply List.countP_congr
    intro b _
    rw [hb_iff]
    exact ⟨fun x => x.1, fun x => ⟨x, fun ⟨k, hk, _⟩ => absurd hk (by omega)⟩⟩
  | succ m ih =>
    intro hm
    have ih := ih (by omega)
    rw [cw_succ]
    by_cases hw : (wh m).toInt = (p : Int)
    · rw [if_pos hw]
      obtain ⟨q, b, hq, hbN, e1, e2, e3⟩ := h4 m (by omega)
      have hqp : q = p := by omega
      subst hqp
      have hbm : hb dl cd wh m q b = true := by
        rw [hb_iff]
        refine ⟨e3, ?_⟩
        rintro ⟨k, a1, a2, a3⟩
        exact h5 k m a1 (by omega) (by rw [a3, e2])
      have := countP_one (p := hb dl cd wh m q) (k := b) (l := List.range N) List.nodup_range (List.mem_range.mpr hbN)
      rw [hbm, if_pos rfl] at this
      have e : (List.range N).countP (hb dl cd wh (m + 1) q) = (List.range N).countP (fun i => hb dl cd wh m q i && !Nat.beq i b) := by
        apply List.countP_congr
        intro i _
        rw [hb_iff, Bool.and_eq_true, hb_iff, Bool.not_eq_true']
        constructor
        · rintro ⟨a1, a2⟩
          refine ⟨⟨a1, fun ⟨k, b1, b2⟩ => a2 ⟨k, by omega, b2⟩⟩, ?_⟩
          cases hbe : Nat.beq i b with
          | false => rfl
          | true =>
            have := Nat.eq_of_beq_eq_true hbe
            subst this
            exact absurd ⟨m, by omega, hw, e2⟩ a2
        · rintro ⟨⟨a1, a2⟩, a3⟩
          refine ⟨a1, ?_⟩
          rintro ⟨k, b1, b2, b3⟩
          by_cases hk : k = m
          · subst hk
            have : i = b := by omega
            subst this
            simp at a3
          · exact a2 ⟨k, by omega, b2, b3⟩
      rw [e]
      omega
    · rw [if_neg hw]
      have e : (List.range N).countP (hb dl cd wh (m + 1) p) = (List.range N).countP (hb dl cd wh m p) := by
        apply List.countP_congr
        intro i _
        rw [hb_iff, hb_iff]
        constructor
        · rintro ⟨a1, a2⟩
          exact ⟨a1, fun ⟨k, b1, b2⟩ => a2 ⟨k, by omega, b2⟩⟩
        · rintro ⟨a1, a2⟩
          refine ⟨a1, ?_⟩
          rintro ⟨k, b1, b2, b3⟩
          by_cases hk : k = m
          · subst hk; exact hw b2
          · exact a2 ⟨k, by omega, b2, b3⟩
      rw [e]
      omega
/-- who laid what in the trick that lies; how often each has laid -/
theorem PL.order (h : PL N dl n cd wh) : ∀ m, m ≤ n → (∀ j, j < m % 4 → (wh (m - m % 4 + j)).toInt = (((wn (wh (m - m % 4)) + j) % 4 : Nat) : Int)) ∧ ∀ p, p ≤ 3 → cw wh m p = m / 4 + (if lvl (wn (wh (m - m % 4))) p < m % 4 then 1 else 0) := by
  obtain ⟨hn, h1, h2, h3, h4, h5, h6⟩ := h
  have rg : ∀ k, k < n → (wh k).toInt = ((wn (wh k) : Nat) : Int) ∧ wn (wh k) ≤ 3 := by
    intro k hk
    obtain ⟨q, b, hq, hbN, e1, e2, e3⟩ := h4 k hk
    unfold wn
    omega
  intro m
  induction m with
  | zero =>
    intro _
    refine ⟨fun j hj => absurd hj (by omega), fun p hp => ?_⟩
    simp [cw]
  | succ m ih =>
    intro hm
    obtain ⟨i1, i2⟩ := ih (by omega)
    obtain ⟨r1, r2⟩ := rg m (by omega)
    by_cases h0 : m % 4 = 0
    · have hs : (m + 1) % 4 = 1 := by omega
      rw [hs, show m + 1 - 1 = m by omega]
      refine ⟨fun j hj => ?_, fun p hp => ?_⟩
      · have : j = 0 := by omega
        subst this
        rw [Nat.add_zero, Nat.add_zero, r1]
        omega
      · rw [cw_succ, i2 p hp, h0]
        unfold lvl
        by_cases hw : (wh m).toInt = (p : Int)
        · rw [if_pos hw, if_neg (by omega), if_pos (by omega)]; omega
        · rw [if_neg hw, if_neg (by omega), if_neg (by omega)]; omega
    · have hl := rg (m - m % 4) (by omega)
      generalize hL : wn (wh (m - m % 4)) = L at *
      have hprev := i1 (m % 4 - 1) (by omega)
      rw [show m - m % 4 + (m % 4 - 1) = m - 1 by omega] at hprev
      have hme := h6 m (by omega) h0
      rw [hprev] at hme
      have hme2 : (wh m).toInt = (((L + m % 4) % 4 : Nat) : Int) := by rw [hme]; omega
      by_cases hs : m % 4 = 3
      · have hs1 : (m + 1) % 4 = 0 := by omega
        rw [hs1]
        refine ⟨fun j hj => absurd hj (by omega), fun p hp => ?_⟩
        rw [cw_succ, i2 p hp]
        unfold lvl
        rw [if_neg (by omega : ¬ (p + 4 - wn (wh (m + 1 - 0))) % 4 < 0)]
        by_cases hw : (wh m).toInt = (p : Int)
        · rw [if_pos hw, if_neg (by omega)]; omega
        · rw [if_neg hw, if_pos (by omega)]; omega
      · have hs1 : (m + 1) % 4 = m % 4 + 1 := by omega
        rw [hs1, show m + 1 - (m % 4 + 1) = m - m % 4 by omega, hL]
        refine ⟨fun j hj => ?_, fun p hp => ?_⟩
        · by_cases hj2 : j = m % 4
          · subst hj2
            rw [show m - m % 4 + m % 4 = m by omega]
            exact hme2
          · exact i1 j (by omega)
        · rw [cw_succ, i2 p hp]
          unfold lvl
          by_cases hw : (wh m).toInt = (p : Int)
          · rw [if_pos hw, if_neg (by omega), if_pos (by omega)]; omega
          · rw [if_neg hw]
            by_cases hlt : (p + 4 - L) % 4 < m % 4
            · rw [if_pos hlt, if_pos (by omega)]; omega
            · rw [if_neg hlt, if_neg (by omega)]; omega
/-- how many each has left -/
theorem PL.count (h : PL N dl n cd wh) {p : Nat} (hp : p ≤ 3) : (List.range N).countP (hb dl cd wh n p) + n / 4 + (if lvl (wn (wh (n - n % 4))) p < n % 4 then 1 else 0) = N / 4 := by
  have a := PL.left h hp n (Nat.le_refl _)
  have b := (PL.order h n (Nat.le_refl _)).2 p hp
  omega
end PLs
