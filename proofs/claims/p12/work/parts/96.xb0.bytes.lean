/-! bytes -/
theorem bit_255 : ∀ i, i < 32 → ¬ i < 8 → (Int32.toBitVec 255).getLsbD i = false := by decide
theorem and_255 {x y : Int32} (h : ∀ i, i < 8 → x.toBitVec.getLsbD i = y.toBitVec.getLsbD i) : x &&& 255 = y &&& 255 := by
  apply Int32.toBitVec_inj.mp
  rw [Int32.toBitVec_and, Int32.toBitVec_and]
  apply BitVec.eq_of_getLsbD_eq
  intro i hi
  rw [BitVec.getLsbD_and, BitVec.getLsbD_and]
  by_cases h8 : i < 8
  · rw [h i h8]
  · rw [bit_255 i hi h8, Bool.and_false, Bool.and_false]
theorem byte_255 (x : Int32) : x.toInt8.toInt32 &&& 255 = x &&& 255 := by
  apply and_255
  intro i hi
  rw [Int8.toBitVec_toInt32, Int32.toBitVec_toInt8, BitVec.getLsbD_signExtend, BitVec.getLsbD_signExtend, if_pos hi, if_pos (show i < 32 by omega), decide_eq_true (show i < 32 by omega), decide_eq_true hi, Bool.true_and, Bool.true_and]
theorem ush_bit (x : Int32) (k : Nat) (s : Int32) (hu : (ush x s).toBitVec = x.toBitVec >>> k) (hs : (x >>> (s &&& 31)).toBitVec = x.toBitVec.sshiftRight k) (hk : k ≤ 24) : (ush x s) &&& 255 = (x >>> (s &&& 31)) &&& 255 := by
  apply and_255
  intro i hi
  rw [hu, hs, BitVec.getLsbD_ushiftRight, BitVec.getLsbD_sshiftRight]
  simp [show ¬ 32 ≤ i by omega, show k + i < 32 by omega]
theorem ush_24 (x : Int32) : (ush x 24) &&& 255 = (x >>> ((24 : Int32) &&& 31)) &&& 255 := ush_bit x 24 24 rfl rfl (by omega)
theorem ush_16 (x : Int32) : (ush x 16) &&& 255 = (x >>> ((16 : Int32) &&& 31)) &&& 255 := ush_bit x 16 16 rfl rfl (by omega)
theorem ush_8 (x : Int32) : (ush x 8) &&& 255 = (x >>> ((8 : Int32) &&& 31)) &&& 255 := ush_bit x 8 8 rfl rfl (by omega)
theorem ush_0 (x : Int32) : (ush x 0) &&& 255 = (x >>> ((0 : Int32) &&& 31)) &&& 255 := ush_bit x 0 0 rfl rfl (by omega)
