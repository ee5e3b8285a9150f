theorem m_low {x : Int32} (h : (x &&& (-65536)) = 0) : x = (x &&& 65535) := by
  apply Int32.toBitVec_inj.mp
  have h1 : x.toBitVec &&& (-65536 : Int32).toBitVec = 0#32 := by
    have := congrArg Int32.toBitVec h
    simpa using this
  apply BitVec.eq_of_getLsbD_eq
  intro i hi
  have h2 : (x.toBitVec &&& (-65536 : Int32).toBitVec).getLsbD i = false := by rw [h1]; simp
  rw [BitVec.getLsbD_and] at h2
  have e : (x &&& 65535).toBitVec = x.toBitVec &&& (65535 : Int32).toBitVec := by simp
  rw [e, BitVec.getLsbD_and]
  rcases Nat.lt_or_ge i 16 with q | q
  · have : (65535 : Int32).toBitVec.getLsbD i = true := by
      have hc : ∀ i, i < 16 → (65535 : Int32).toBitVec.getLsbD i = true := by decide
      exact hc i q
    rw [this, Bool.and_true]
  · have : (-65536 : Int32).toBitVec.getLsbD i = true := by
      have hc : ∀ i, i < 32 → 16 ≤ i → (-65536 : Int32).toBitVec.getLsbD i = true := by decide
      exact hc i hi q
    rw [this, Bool.and_true] at h2
    rw [h2, Bool.false_and]
theorem m_in (x : Int32) : (x &&& (-65536)) = 0 ↔ (0 ≤ x ∧ x ≤ 65535) := by
  constructor
  · intro h
    have e := m_low h
    rw [pk_and x 16 (by decide)] at e
    have hlt : x.toBitVec.toNat % 2 ^ 16 < 65536 := Nat.mod_lt _ (by decide)
    rw [e]
    exact ⟨nI_pos' (by omega), nI_le (b := 65535) (by omega) (by decide)⟩
  · intro h
    obtain ⟨j, hj, rfl⟩ := nI_of2 (x := x) (M := 65535) (n := 65535) (by decide) (Int32.not_lt.mpr h.1) h.2
    exact (cB_all (by omega)).2
theorem ok_eq (x : Int32) : (decide (0 ≤ x ∧ x ≤ 65535) && decide (sbits x = 4)) = okX x := by
  unfold okX
  by_cases h : 0 ≤ x ∧ x ≤ 65535
  · have h2 := (m_in x).mpr h
    obtain ⟨j, hj, rfl⟩ := nI_of2 (x := x) (M := 65535) (n := 65535) (by decide) (Int32.not_lt.mpr h.1) h.2
    rw [sbits_eq (by omega), (cB_all (n := j) (by omega)).1]
    simp only [h, h2, and_self]
  · have h2 : ¬ (x &&& (-65536)) = 0 := fun q => h ((m_in x).mp q)
    simp only [h, h2, decide_false, Bool.false_and]
theorem hOK_eq (a b c : Int32) : hOKM a b c = hOK okX a b c := by
  unfold hOK hOKM
  rw [← ok_eq a, ← ok_eq b, ← ok_eq c]
  generalize decide (0 ≤ a ∧ a ≤ 65535) = x1
  generalize decide (0 ≤ b ∧ b ≤ 65535) = x2
  generalize decide (0 ≤ c ∧ c ≤ 65535) = x3
  generalize decide ((a &&& b) = 0) = x4
  generalize decide ((a &&& c) = 0) = x5
  generalize decide ((b &&& c) = 0) = x6
  generalize decide (sbits a = 4) = x7
  generalize decide (sbits b = 4) = x8
  generalize decide (sbits c = 4) = x9
  revert x1 x2 x3 x4 x5 x6 x7 x8 x9
  decide
