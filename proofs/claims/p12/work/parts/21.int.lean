/-! ranges of the operations on ints -/
theorem tn_iff (x : Int32) : x.toInt = if 2 * x.toBitVec.toNat < 2 ^ 32 then (x.toBitVec.toNat : Int) else (x.toBitVec.toNat : Int) - 2 ^ 32 := BitVec.toInt_eq_toNat_cond _
theorem tn_lt (x : Int32) : x.toBitVec.toNat < 4294967296 := x.toBitVec.isLt
theorem tn_nn {x : Int32} (h : 0 ≤ x.toInt) : x.toInt = (x.toBitVec.toNat : Int) ∧ x.toBitVec.toNat < 2147483648 := by
  have h1 := tn_iff x
  have h2 := tn_lt x
  split at h1 <;> omega
theorem tn_of {x : Int32} (h : x.toBitVec.toNat < 2147483648) : x.toInt = (x.toBitVec.toNat : Int) := by
  have h1 := tn_iff x
  split at h1 <;> omega
theorem bm_id {x : Int} (h1 : FL ≤ x) (h2 : x ≤ FH) : x.bmod (2 ^ 32) = x := by
  unfold FL at h1
  unfold FH at h2
  apply Int.bmod_eq_of_le <;> omega
theorem add_ex {x y : Int32} (h1 : FL ≤ x.toInt + y.toInt) (h2 : x.toInt + y.toInt ≤ FH) : (x + y).toInt = x.toInt + y.toInt := by
  rw [Int32.toInt_add, bm_id h1 h2]
theorem sub_ex {x y : Int32} (h1 : FL ≤ x.toInt - y.toInt) (h2 : x.toInt - y.toInt ≤ FH) : (x - y).toInt = x.toInt - y.toInt := by
  rw [Int32.toInt_sub, bm_id h1 h2]
theorem mul_ex {x y : Int32} (h1 : FL ≤ x.toInt * y.toInt) (h2 : x.toInt * y.toInt ≤ FH) : (x * y).toInt = x.toInt * y.toInt := by
  rw [Int32.toInt_mul, bm_id h1 h2]
theorem neg_ex {x : Int32} (h1 : FL ≤ -x.toInt) (h2 : -x.toInt ≤ FH) : (-x).toInt = -x.toInt := by
  rw [Int32.toInt_neg, bm_id h1 h2]
theorem div_ex {x y : Int32} (h0 : 0 < y.toInt) : (x / y).toInt = x.toInt.tdiv y.toInt := by
  rw [Int32.toInt_div, bm_id]
  · have h1 := w_lo x
    have h2 : -(x.toInt.natAbs : Int) ≤ x.toInt.tdiv y.toInt := by
      have := Int.natAbs_tdiv_le_natAbs x.toInt y.toInt
      omega
    by_cases hx : 0 ≤ x.toInt
    · have := Int.tdiv_nonneg hx (Int.le_of_lt h0); unfold FL; omega
    · omega
  · have h1 := w_hi x
    have := Int.natAbs_tdiv_le_natAbs x.toInt y.toInt
    by_cases hx : 0 ≤ x.toInt
    · omega
    · have : x.toInt.tdiv y.toInt ≤ 0 := by
        have := Int.tdiv_nonneg (a := -x.toInt) (b := y.toInt) (by omega) (Int.le_of_lt h0)
        rw [Int.neg_tdiv] at this
        omega
      unfold FH; omega
theorem rem_ex {x y : Int32} (h0 : 0 < y.toInt) : (x - x / y * y).toInt = x.toInt.tmod y.toInt := by
  have hd := div_ex (x := x) h0
  have hm : x.toInt.tdiv y.toInt * y.toInt = x.toInt - x.toInt.tmod y.toInt := by
    rw [Int.tmod_def, Int.mul_comm]
    omega
  have hb := Int.tmod_lt_of_pos x.toInt h0
  have hlo : -(y.toInt) < x.toInt.tmod y.toInt := Int.lt_tmod_of_pos x.toInt h0
  have hsg : (0 ≤ x.toInt → 0 ≤ x.toInt.tmod y.toInt) := fun h => Int.tmod_nonneg y.toInt h
  have hsn : (x.toInt ≤ 0 → x.toInt.tmod y.toInt ≤ 0) := fun h => by
    have := Int.tmod_nonneg (a := -x.toInt) y.toInt (by omega)
    rw [Int.neg_tmod] at this
    omega
  have hab : x.toInt.tmod y.toInt ≤ x.toInt.natAbs ∧ -(x.toInt.natAbs : Int) ≤ x.toInt.tmod y.toInt := by
    have := Int.natAbs_tmod x.toInt y.toInt
    have h9 := Nat.mod_le x.toInt.natAbs y.toInt.natAbs
    omega
  have h1 := w_lo x
  have h2 := w_hi x
  have h3 := w_hi y
  have hmul : (x / y * y).toInt = x.toInt - x.toInt.tmod y.toInt := by
    rw [mul_ex]
    · rw [hd, hm]
    · rw [hd, hm]
      by_cases hx : 0 ≤ x.toInt
      · have := hsg hx; unfold FL; omega
      · have := hsn (by omega); omega
    · rw [hd, hm]
      by_cases hx : 0 ≤ x.toInt
      · have := hsg hx; omega
      · have := hsn (by omega); unfold FH; omega
  rw [sub_ex]
  · rw [hmul]; omega
  · rw [hmul]; unfold FL; unfold FH at h3; omega
  · rw [hmul]; omega
theorem and_nn {x y : Int32} (h : 0 ≤ x.toInt) : 0 ≤ (x &&& y).toInt ∧ (x &&& y).toInt ≤ x.toInt := by
  obtain ⟨h1, h2⟩ := tn_nn h
  have h3 : (x &&& y).toBitVec.toNat ≤ x.toBitVec.toNat := by
    show (x.toBitVec &&& y.toBitVec).toNat ≤ _
    rw [BitVec.toNat_and]
    exact Nat.and_le_left
  have h4 := tn_of (x := x &&& y) (by omega)
  omega
theorem and_nn2 {x y : Int32} (h : 0 ≤ y.toInt) : 0 ≤ (x &&& y).toInt ∧ (x &&& y).toInt ≤ y.toInt := by
  obtain ⟨h1, h2⟩ := tn_nn h
  have h3 : (x &&& y).toBitVec.toNat ≤ y.toBitVec.toNat := by
    show (x.toBitVec &&& y.toBitVec).toNat ≤ _
    rw [BitVec.toNat_and]
    exact Nat.and_le_right
  have h4 := tn_of (x := x &&& y) (by omega)
  omega
theorem or_nn {x y : Int32} {k : Nat} (hk : k ≤ 31) (hx : 0 ≤ x.toInt) (hy : 0 ≤ y.toInt) (hxk : x.toInt < 2 ^ k) (hyk : y.toInt < 2 ^ k) : 0 ≤ (x ||| y).toInt ∧ (x ||| y).toInt < 2 ^ k := by
  obtain ⟨h1, h2⟩ := tn_nn hx
  obtain ⟨h3, h4⟩ := tn_nn hy
  have e1 : x.toBitVec.toNat < 2 ^ k := by rw [h1] at hxk; exact_mod_cast hxk
  have e2 : y.toBitVec.toNat < 2 ^ k := by rw [h3] at hyk; exact_mod_cast hyk
  have e3 : (x ||| y).toBitVec.toNat < 2 ^ k := by
    show (x.toBitVec ||| y.toBitVec).toNat < _
    rw [BitVec.toNat_or]
    exact Nat.or_lt_two_pow e1 e2
  have e4 : (2 : Nat) ^ k ≤ 2 ^ 31 := Nat.pow_le_pow_right (by decide) hk
  have e5 := tn_of (x := x ||| y) (by omega)
  rw [e5]
  exact ⟨by omega, by exact_mod_cast e3⟩
theorem xor_nn {x y : Int32} {k : Nat} (hk : k ≤ 31) (hx : 0 ≤ x.toInt) (hy : 0 ≤ y.toInt) (hxk : x.toInt < 2 ^ k) (hyk : y.toInt < 2 ^ k) : 0 ≤ (x ^^^ y).toInt ∧ (x ^^^ y).toInt < 2 ^ k := by
  obtain ⟨h1, h2⟩ := tn_nn hx
  obtain ⟨h3, h4⟩ := tn_nn hy
  have e1 : x.toBitVec.toNat < 2 ^ k := by rw [h1] at hxk; exact_mod_cast hxk
  have e2 : y.toBitVec.toNat < 2 ^ k := by rw [h3] at hyk; exact_mod_cast hyk
  have e3 : (x ^^^ y).toBitVec.toNat < 2 ^ k := by
    show (x.toBitVec ^^^ y.toBitVec).toNat < _
    rw [BitVec.toNat_xor]
    exact Nat.xor_lt_two_pow e1 e2
  have e4 : (2 : Nat) ^ k ≤ 2 ^ 31 := Nat.pow_le_pow_right (by decide) hk
  have e5 := tn_of (x := x ^^^ y) (by omega)
  rw [e5]
  exact ⟨by omega, by exact_mod_cast e3⟩
theorem i_nI {y : Int32} {n : Nat} (h : y.toInt = (n : Int)) (hn : n < 2 ^ 31) : y = nI n := Int32.toInt_inj.mp (by rw [h, nI_toInt hn])
theorem msk_lt : ∀ k : Nat, k < 32 → ((nI k &&& 31 : Int32).toBitVec.smod 32).toNat = k := by decide
theorem msk_ult : ∀ k : Nat, k < 32 → (((nI k).toUInt32 &&& Int32.toUInt32 31).toBitVec % 32).toNat = k := by decide
theorem msk_any (y : Int32) : ∃ k : Nat, k < 32 ∧ ((y &&& 31).toBitVec.smod 32).toNat = k := by
  obtain ⟨j, hj, he⟩ := pk_andE y (m := 31) 5 rfl
  refine ⟨j, hj, ?_⟩
  rw [he]
  have h5 := msk_lt j hj
  have : (nI j &&& 31 : Int32) = nI j := by
    have := pk_andN (n := j) (by omega) (m := 31) 5 rfl
    rw [this, Nat.mod_eq_of_lt hj]
  rw [this] at h5
  exact h5
theorem shl_ex {x y : Int32} {k : Nat} (hy : y.toInt = (k : Int)) (hk : k < 32) (hx : 0 ≤ x.toInt) (h : x.toInt * 2 ^ k ≤ FH) : (x <<< (y &&& 31)).toInt = x.toInt * 2 ^ k := by
  obtain ⟨h1, h2⟩ := tn_nn hx
  have hy2 : y = nI k := i_nI hy (by omega)
  have h3 := pk_shl x (y &&& 31) k (by rw [hy2]; exact msk_lt k hk)
  have h4 : x.toBitVec.toNat * 2 ^ k < 2147483648 := by
    rw [h1] at h
    unfold FH at h
    have : ((x.toBitVec.toNat * 2 ^ k : Nat) : Int) ≤ 2147483647 := by push_cast; exact h
    omega
  rw [Nat.mod_eq_of_lt (by omega)] at h3
  rw [tn_of (by omega), h3, h1]
  push_cast
  rfl
theorem shr_rg (x y : Int32) : ∃ k : Nat, k < 32 ∧ (x >>> (y &&& 31)).toInt = x.toInt >>> k := by
  obtain ⟨k, hk, he⟩ := msk_any y
  exact ⟨k, hk, pk_shr x (y &&& 31) k he⟩
theorem shr_bd (x : Int) (k : Nat) : (0 ≤ x → 0 ≤ x >>> k ∧ x >>> k ≤ x) ∧ (x < 0 → x ≤ x >>> k ∧ x >>> k ≤ -1) := by
  have hp : (0 : Int) < 2 ^ k := by exact_mod_cast Nat.two_pow_pos k
  rw [Int.shiftRight_eq_div_pow]
  have hc : (((2 ^ k : Nat)) : Int) = 2 ^ k := by push_cast; rfl
  rw [hc]
  refine ⟨fun h => ⟨Int.ediv_nonneg h (Int.le_of_lt hp), Int.ediv_le_self _ h⟩, fun h => ⟨?_, ?_⟩⟩
  · have h1 : x * 2 ^ k ≤ x := by
      have : x * 2 ^ k ≤ x * 1 := Int.mul_le_mul_of_nonpos_left (by omega) (by omega)
      omega
    exact Int.le_ediv_of_mul_le hp h1
  · have := Int.ediv_neg_of_neg_of_pos h hp
    omega
theorem ushr_ex {x y : Int32} {k : Nat} (hy : y.toInt = (k : Int)) (hk : k < 32) : (ush x y).toBitVec.toNat = x.toBitVec.toNat / 2 ^ k := by
  have hy2 : y = nI k := i_nI hy (by omega)
  exact pk_ushr x y k (by rw [hy2]; exact msk_ult k hk)
theorem i2b_rg (x : Int32) : -128 ≤ x.toInt8.toInt32.toInt ∧ x.toInt8.toInt32.toInt ≤ 127 := by
  rw [Int8.toInt_toInt32]
  have h1 := Int8.le_toInt x.toInt8
  have h2 := Int8.toInt_lt x.toInt8
  omega
theorem nar_b (x : Int32) : -128 ≤ (vp_nar .byte x).toInt ∧ (vp_nar .byte x).toInt ≤ 127 := by
  rw [vp_nar_byte]; exact i2b_rg x
theorem not_ex (x : Int32) : (x ^^^ (-1)).toInt = -1 - x.toInt := by
  have hm : (-1 : Int32).toBitVec = BitVec.allOnes 32 := by decide
  have h1 : (x ^^^ (-1)).toBitVec = ~~~ x.toBitVec := by
    show x.toBitVec ^^^ (-1 : Int32).toBitVec = _
    rw [hm, BitVec.xor_allOnes]
  have h2 : (x ^^^ (-1)).toBitVec.toNat = 4294967295 - x.toBitVec.toNat := by
    rw [h1, BitVec.toNat_not]
  have h3 := tn_iff x
  have h4 := tn_iff (x ^^^ (-1))
  have h5 := tn_lt x
  rw [h2] at h4
  split at h3 <;> split at h4 <;> omega
/-- no common bit with a number whose upper bits are all set -/
theorem and_up {x y : Int32} {k : Nat} (hk : k ≤ 31) (h1 : -(2 ^ k : Int) ≤ y.toInt) (h2 : y.toInt ≤ -1) (h : x &&& y = 0) : 0 ≤ x.toInt ∧ x.toInt ≤ 2 ^ k - 1 := by
  have hp : (2 : Nat) ^ k ≤ 2 ^ 31 := Nat.pow_le_pow_right (by decide) hk
  have hpc : ((2 ^ k : Nat) : Int) = (2 : Int) ^ k := by push_cast; rfl
  have hy := tn_iff y
  have hyl := tn_lt y
  have hyn : 4294967296 - 2 ^ k ≤ y.toBitVec.toNat := by
    split at hy <;> omega
  have hz : x.toBitVec.toNat &&& y.toBitVec.toNat = 0 := by
    have : (x &&& y).toBitVec.toNat = 0 := by rw [h]; rfl
    have h9 : (x &&& y).toBitVec.toNat = (x.toBitVec &&& y.toBitVec).toNat := rfl
    rw [h9, BitVec.toNat_and] at this
    exact this
  have hx : x.toBitVec.toNat < 2 ^ k := by
    apply Nat.lt_pow_two_of_testBit
    intro i hi
    by_cases h32 : i < 32
    · have hb : (x.toBitVec.toNat &&& y.toBitVec.toNat).testBit i = false := by rw [hz]; exact Nat.zero_testBit i
      rw [Nat.testBit_and] at hb
      have hyb : y.toBitVec.toNat.testBit i = true := by
        rw [Nat.testBit_eq_decide_div_mod_eq]
        have hpi : (2 : Nat) ^ k ≤ 2 ^ i := Nat.pow_le_pow_right (by decide) hi
        have hpp : (2 : Nat) ^ i * 2 ^ (32 - i) = 4294967296 := by
          rw [← Nat.pow_add]
          have : i + (32 - i) = 32 := by omega
          rw [this]
        have hpos : 0 < (2 : Nat) ^ i := Nat.two_pow_pos i
        have hq : y.toBitVec.toNat / 2 ^ i = 2 ^ (32 - i) - 1 := by
          apply Nat.div_eq_of_lt_le
          · rw [Nat.sub_mul, Nat.one_mul, Nat.mul_comm, hpp]
            omega
          · have h1 : 1 ≤ (2 : Nat) ^ (32 - i) := Nat.two_pow_pos _
            rw [Nat.sub_add_cancel h1, Nat.mul_comm, hpp]
            exact hyl
        rw [hq]
        have hodd : (2 : Nat) ^ (32 - i) = 2 * 2 ^ (31 - i) := by
          rw [← Nat.pow_succ']
          congr 1
          omega
        have h1 : 1 ≤ (2 : Nat) ^ (31 - i) := Nat.two_pow_pos _
        rw [hodd]
        apply decide_eq_true
        omega
      rw [hyb, Bool.and_true] at hb
      exact hb
    · apply Nat.testBit_lt_two_pow
      calc x.toBitVec.toNat < 2 ^ 32 := tn_lt x
        _ ≤ 2 ^ i := Nat.pow_le_pow_right (by decide) (by omega)
  have := tn_of (x := x) (by omega)
  rw [this]
  refine ⟨by omega, ?_⟩
  have : ((x.toBitVec.toNat : Nat) : Int) < ((2 ^ k : Nat) : Int) := by exact_mod_cast hx
  rw [hpc] at this
  omega
