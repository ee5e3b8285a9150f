/-! bits: the two counts of a set of 16 agree; how many hands of four there are -/
def bt (h j : Nat) : Nat := h / 2 ^ j % 2
def pcn (h : Nat) : Nat → Nat
  | 0 => 0
  | c + 1 => pcn h c + bt h c
theorem sh_at {h : Nat} (hh : h < 2 ^ 31) (s : Int32) (j : Nat) (hs : (s.toBitVec.smod 32).toNat = j) : ((nI h >>> s) &&& 1) = nI (bt h j) := by
  rw [pk_shrN hh s j hs]
  exact pk_andN (Nat.lt_of_le_of_lt (Nat.div_le_self _ _) (by omega)) 1 (by decide)
theorem sbits_eq {h : Nat} (hh : h < 2 ^ 31) : sbits (nI h) = nI (pcn h 16) := by
  unfold sbits
  rw [sh_at hh _ 0 (by decide), sh_at hh _ 1 (by decide), sh_at hh _ 2 (by decide), sh_at hh _ 3 (by decide), sh_at hh _ 4 (by decide), sh_at hh _ 5 (by decide), sh_at hh _ 6 (by decide), sh_at hh _ 7 (by decide), sh_at hh _ 8 (by decide), sh_at hh _ 9 (by decide), sh_at hh _ 10 (by decide), sh_at hh _ 11 (by decide), sh_at hh _ 12 (by decide), sh_at hh _ 13 (by decide), sh_at hh _ 14 (by decide), sh_at hh _ 15 (by decide)]
  rw [← nI_0]
  simp only [nI_add, pcn]
theorem sh_sym {h : Nat} (hh : h < 2 ^ 31) {j : Nat} (hj : j < 16) : ((nI h >>> ((nI j) &&& 31)) &&& 1) = nI (bt h j) := by
  rcases (show j = 0 ∨ j = 1 ∨ j = 2 ∨ j = 3 ∨ j = 4 ∨ j = 5 ∨ j = 6 ∨ j = 7 ∨ j = 8 ∨ j = 9 ∨ j = 10 ∨ j = 11 ∨ j = 12 ∨ j = 13 ∨ j = 14 ∨ j = 15 by omega) with rfl | rfl | rfl | rfl | rfl | rfl | rfl | rfl | rfl | rfl | rfl | rfl | rfl | rfl | rfl | rfl <;> exact sh_at hh _ _ (by decide)
theorem bt_le (h j : Nat) : bt h j ≤ 1 := by unfold bt; omega
theorem pcn_le (h : Nat) : ∀ c, pcn h c ≤ c
  | 0 => Nat.le_refl 0
  | c + 1 => by
    have := pcn_le h c
    have := bt_le h c
    show pcn h c + bt h c ≤ c + 1
    omega
def cf (h : Nat) : Nat := if pcn h 16 = 4 then 4 else 0
def cnt : Nat → Nat
  | 0 => 0
  | h + 1 => cnt h + cf h
def cR (a : Nat) : Nat → Nat
  | 0 => 0
  | n + 1 => cR a n + cf (a + n)
def cS (a : Nat) : Nat → Nat
  | 0 => cf a
  | k + 1 => cS a k + cS (a + 2 ^ k) k
theorem cnt_cR : ∀ n, cnt n = cR 0 n
  | 0 => rfl
  | n + 1 => by
    show cnt n + cf n = cR 0 n + cf (0 + n)
    rw [cnt_cR n, Nat.zero_add]
theorem cR_add (a m : Nat) : ∀ n, cR a (m + n) = cR a m + cR (a + m) n
  | 0 => rfl
  | n + 1 => by
    show cR a (m + n) + cf (a + (m + n)) = cR a m + (cR (a + m) n + cf (a + m + n))
    rw [cR_add a m n, Nat.add_assoc, Nat.add_assoc a m n]
theorem cR_cS : ∀ (k a : Nat), cR a (2 ^ k) = cS a k
  | 0, a => by
    show 0 + cf (a + 0) = cf a
    rw [Nat.zero_add, Nat.add_zero]
  | k + 1, a => by
    show cR a (2 ^ (k + 1)) = cS a k + cS (a + 2 ^ k) k
    rw [Nat.pow_succ, Nat.mul_two, cR_add, cR_cS k a, cR_cS k (a + 2 ^ k)]
def cB (a : Nat) : Nat → Bool
  | 0 => decide (sbc (nI a) = nI (pcn a 16)) && decide ((nI a &&& (-65536)) = 0)
  | k + 1 => cB a k && cB (a + 2 ^ k) k
theorem cB_of : ∀ (k a : Nat), cB a k = true → ∀ i, i < 2 ^ k → sbc (nI (a + i)) = nI (pcn (a + i) 16) ∧ (nI (a + i) &&& (-65536)) = 0
  | 0, a, h, i, hi => by
    obtain rfl : i = 0 := by omega
    simp only [cB, Bool.and_eq_true, decide_eq_true_eq] at h
    exact h
  | k + 1, a, h, i, hi => by
    simp only [cB, Bool.and_eq_true] at h
    rcases Nat.lt_or_ge i (2 ^ k) with q | q
    · exact cB_of k a h.1 i q
    · obtain ⟨j, rfl⟩ : ∃ j, i = 2 ^ k + j := ⟨i - 2 ^ k, by omega⟩
      rw [← Nat.add_assoc]
      exact cB_of k (a + 2 ^ k) h.2 j (by rw [Nat.pow_succ] at hi; omega)

