set_option maxRecDepth 100000 in
theorem w_209_0 {d : Nat} {Q : Option Value → Sg → Prop} (σ : Sg) (x0 : Int32) (h : Rn PRG d 209 4 [(0, .int x0), (1, .int (0 : Int32)), (2, .int (0 : Int32))] [] σ Q) : Rn PRG d 209 0 [(0, .int x0)] [] σ Q := by
  have hM : PRG[209]? = some M_209 := rfl
  refine Rn.seg (pc' := 4) (ls' := [(2, .int (0 : Int32)), (1, .int (0 : Int32)), (0, .int x0)]) (st' := []) (σ' := σ) hM 4 rfl ?_
  exact Rn.sub h (subL_cons rfl (subL_cons rfl (subL_cons rfl subL_nil))) (show ndL _ from (by decide : List.Nodup ([0, 1, 2] : List Nat)))
set_option maxRecDepth 100000 in
theorem w_209_4 {d : Nat} {Q : Option Value → Sg → Prop} (σ : Sg) (x0 x1 x2 : Int32) (h : (((16 : Int32) ≤ x2 → Q (some (.int x1)) σ) ∧ (¬ (16 : Int32) ≤ x2 → Rn PRG d 209 4 [(0, .int x0), (1, .int (x1 + ((x0 >>> (x2 &&& 31)) &&& (1 : Int32)))), (2, .int (x2 + (1 : Int32)))] [] σ Q))) : Rn PRG d 209 4 [(0, .int x0), (1, .int x1), (2, .int x2)] [] σ Q := by
  have hM : PRG[209]? = some M_209 := rfl
  refine Rn.br (c := (16 : Int32) ≤ x2) (a := 24) (b := 10) (ls' := [(0, .int x0), (1, .int x1), (2, .int x2)]) (st' := []) (σ' := σ) hM 3 rfl (fun c => ?_) (fun c => ?_)
  · replace h := h.1 c
    refine Rn.seg (pc' := 25) (ls' := [(0, .int x0), (1, .int x1), (2, .int x2)]) (st' := [.int x1]) (σ' := σ) hM 1 rfl ?_
    exact Rn.ret hM rfl rfl h
  · replace h := h.2 c
    refine Rn.seg (pc' := 4) (ls' := [(2, .int (x2 + (1 : Int32))), (1, .int (x1 + ((x0 >>> (x2 &&& 31)) &&& (1 : Int32)))), (0, .int x0)]) (st' := []) (σ' := σ) hM 10 rfl ?_
    exact Rn.sub h (subL_cons rfl (subL_cons rfl (subL_cons rfl subL_nil))) (show ndL _ from (by decide : List.Nodup ([0, 1, 2] : List Nat)))
/-! sets of cards as bits -/
def bt (x : Int32) (i : Nat) : Bool := x.toBitVec.getLsbD i
def pop (x : Int32) : Nat := (List.range 16).countP (bt x)
theorem bt_and (x y : Int32) (i : Nat) : bt (x &&& y) i = (bt x i && bt y i) := BitVec.getLsbD_and
theorem bt_or (x y : Int32) (i : Nat) : bt (x ||| y) i = (bt x i || bt y i) := BitVec.getLsbD_or
theorem bt_xor (x y : Int32) (i : Nat) : bt (x ^^^ y) i = (bt x i ^^ bt y i) := BitVec.getLsbD_xor
theorem bt_big (x : Int32) {i : Nat} (h : 32 ≤ i) : bt x i = false := BitVec.getLsbD_of_ge _ _ h
theorem bt_m1 {i : Nat} (h : i < 32) : bt (-1) i = true := by
  revert i; decide
theorem bt_not (x : Int32) {i : Nat} (h : i < 32) : bt (x ^^^ (-1)) i = !bt x i := by
  rw [bt_xor, bt_m1 h, Bool.xor_true]
theorem bt_0 (i : Nat) : bt 0 i = false := BitVec.getLsbD_zero
theorem bt_ext {x y : Int32} (h : ∀ i, i < 32 → bt x i = bt y i) : x = y := by
  apply Int32.toBitVec_inj.mp
  exact BitVec.eq_of_getLsbD_eq h
theorem bt_nat (x : Int32) (i : Nat) : bt x i = x.toBitVec.toNat.testBit i := by
  unfold bt
  rw [BitVec.getLsbD]
/-- numbers below 2^k are those without bits from k on -/
theorem bt_lt {x : Int32} {k : Nat} (hk : k ≤ 31) (h0 : 0 ≤ x.toInt) (h : x.toInt < 2 ^ k) {i : Nat} (hi : k ≤ i) : bt x i = false := by
  obtain ⟨h1, h2⟩ := tn_nn h0
  rw [bt_nat]
  apply Nat.testBit_lt_two_pow
  have h3 : x.toBitVec.toNat < 2 ^ k := by
    rw [h1] at h
    exact_mod_cast h
  exact Nat.lt_of_lt_of_le h3 (Nat.pow_le_pow_right (by omega) hi)
theorem lt_bt {x : Int32} {k : Nat} (hk : k ≤ 31) (h : ∀ i, k ≤ i → i < 32 → bt x i = false) : 0 ≤ x.toInt ∧ x.toInt < 2 ^ k := by
  have h3 : x.toBitVec.toNat < 2 ^ k := by
    apply Nat.lt_pow_two_of_testBit
    intro i hi
    rw [← bt_nat]
    by_cases h32 : i < 32
    · exact h i hi h32
    · exact bt_big x (by omega)
  have h4 : 2 ^ k ≤ 2 ^ 31 := Nat.pow_le_pow_right (by omega) hk
  rw [tn_of (by omega)]
  refine ⟨by omega, ?_⟩
  exact_mod_cast h3
theorem one_bt : ∀ k : Nat, k < 32 → ∀ i : Nat, i < 32 → bt ((1 : Int32) <<< (nI k &&& 31)) i = Nat.beq i k := by decide
theorem bt_one {c : Int32} {k : Nat} (hc : c.toInt = (k : Int)) (hk : k < 32) {i : Nat} (hi : i < 32) : bt ((1 : Int32) <<< (c &&& 31)) i = Nat.beq i k := by
  rw [i_nI hc (by omega)]
  exact one_bt k hk i hi
/-- one bit, taken out -/
theorem shr_bt {x c : Int32} {k : Nat} (hc : c.toInt = (k : Int)) (hk : k < 32) : ((x >>> (c &&& 31)) &&& 1) = if bt x k then 1 else 0 := by
  have e1 : (x >>> (c &&& 31)).toInt = x.toInt >>> k := pk_shr x (c &&& 31) k (by rw [i_nI hc (by omega)]; exact msk_lt k hk)
  have e2 : bt (x >>> (c &&& 31)) 0 = bt x k := by
    have f1 : (x >>> (c &&& 31)).toBitVec.toInt = (x.toBitVec.sshiftRight k).toInt := by
      rw [BitVec.toInt_sshiftRight]; exact e1
    have f2 := BitVec.eq_of_toInt_eq f1
    unfold bt
    rw [f2, BitVec.getLsbD_sshiftRight]
    by_cases h : k < 32
    · simp [h, hk]
    · omega
  apply bt_ext
  intro i hi
  rw [bt_and]
  cases i with
  | zero =>
    rw [e2]
    have : bt (1 : Int32) 0 = true := by decide
    rw [this, Bool.and_true]
    cases bt x k
    · decide
    · decide
  | succ i =>
    have : ∀ i, i < 31 → bt (1 : Int32) (i + 1) = false := by decide
    rw [this i (by omega), Bool.and_false]
    cases bt x k
    · exact (bt_0 _).symm
    · exact (this i (by omega)).symm
theorem pop_le (x : Int32) : pop x ≤ 16 := by
  unfold pop
  have := List.countP_le_length (p := bt x) (l := List.range 16)
  simpa using this
theorem bits_go {d : Nat} {x0 : Int32} {σ : Sg} : ∀ (m k : Nat) (x1 x2 : Int32), k + m = 16 → x2.toInt = (k : Int) → x1.toInt = (((List.range k).countP (bt x0) : Nat) : Int) → Rn PRG d 209 4 [(0, .int x0), (1, .int x1), (2, .int x2)] [] σ (fun v σ' => ∃ w, v = some (.int w) ∧ σ' = σ ∧ w.toInt = ((pop x0 : Nat) : Int)) := by
  intro m
  induction m with
  | zero =>
    intro k x1 x2 hk h2 h1
    refine w_209_4 σ x0 x1 x2 ⟨fun _ => ⟨_, rfl, rfl, ?_⟩, fun c => absurd ?_ c⟩
    · rw [h1, show k = 16 by omega]; rfl
    · rw [Int32.le_iff_toInt_le, h2]
      have : (16 : Int32).toInt = 16 := by decide
      omega
  | succ m ih =>
    intro k x1 x2 hk h2 h1
    have hle : (List.range k).countP (bt x0) ≤ k := by
      have := List.countP_le_length (p := bt x0) (l := List.range k)
      simpa using this
    refine w_209_4 σ x0 x1 x2 ⟨fun c => ?_, fun _ => ih (k + 1) _ _ (by omega) ?_ ?_⟩
    · rw [Int32.le_iff_toInt_le, h2] at c
      have : (16 : Int32).toInt = 16 := by decide
      omega
    · rw [add_lit (k := 1) h2 (by decide) (by unfold FL; omega) (by unfold FH; omega)]
      push_cast; rfl
    · rw [shr_bt h2 (by omega), List.range_succ, List.countP_append]
      cases hb : bt x0 k with
      | true =>
        rw [if_pos rfl, add_lit (k := 1) h1 (by decide) (by unfold FL; omega) (by unfold FH; omega)]
        simp [hb]
      | false =>
        rw [if_neg (by decide), add_lit (k := 0) h1 (by decide) (by unfold FL; omega) (by unfold FH; omega)]
        simp [hb]
theorem bits_ok {d : Nat} {x : Int32} {σ : Sg} : OkI PRG d 209 [.int x] σ (fun w σ' => σ' = σ ∧ w.toInt = ((pop x : Nat) : Int)) :=
  ⟨M_209, rfl, Nat.le_of_ble_eq_true rfl, w_209_0 σ x (bits_go 16 0 0 0 rfl (by decide) rfl)⟩
/-- the next part of a set, upwards -/
def subS (x f : Int32) : Prop := ∀ i, bt x i = true → bt f i = true
theorem nat_lt_testBit {x y : Nat} (i : Nat) (hx : x.testBit i = false) (hy : y.testBit i = true) (hj : ∀ j, i < j → x.testBit j = y.testBit j) : x < y := by
  have h1 : x / 2 ^ (i + 1) = y / 2 ^ (i + 1) := by
    rw [← Nat.shiftRight_eq_div_pow, ← Nat.shiftRight_eq_div_pow]
    apply Nat.eq_of_testBit_eq
    intro j
    rw [Nat.testBit_shiftRight, Nat.testBit_shiftRight]
    exact hj _ (by omega)
  have h2 : ∀ z : Nat, z / 2 ^ (i + 1) = z / 2 ^ i / 2 := fun z => by rw [Nat.pow_succ, Nat.div_div_eq_div_mul]
  rw [h2, h2] at h1
  rw [Nat.testBit_eq_decide_div_mod_eq] at hx hy
  have h3 : ¬ x / 2 ^ i % 2 = 1 := of_decide_eq_false hx
  have h4 : y / 2 ^ i % 2 = 1 := of_decide_eq_true hy
  have h5 : x / 2 ^ i < y / 2 ^ i := by omega
  apply Nat.lt_of_not_le
  intro hle
  have := Nat.div_le_div_right (c := 2 ^ i) hle
  omega
theorem toNat_lt_bt {x y : Int32} (h0 : 0 ≤ x.toInt) (h1 : 0 ≤ y.toInt) (i : Nat) (hx : bt x i = false) (hy : bt y i = true) (hj : ∀ j, i < j → bt x j = bt y j) : x.toInt < y.toInt := by
  rw [(tn_nn h0).1, (tn_nn h1).1]
  have : x.toBitVec.toNat < y.toBitVec.toNat := by
    apply nat_lt_testBit i
    · rw [← bt_nat]; exact hx
    · rw [← bt_nat]; exact hy
    · intro j hij; rw [← bt_nat, ← bt_nat]; exact hj j hij
  omega
theorem nxt_bt {x f : Int32} (hs : subS x f) (i : Nat) (hi : i < 32) : bt ((x - f) &&& f) i = (bt f i && ((bt f i && !bt x i) ^^ decide (∃ j, j < i ∧ (bt f j && !bt x j) = true))) := by
  rw [bt_and, Bool.and_comm]
  congr 1
  have e1 : x.toBitVec - f.toBitVec = -(f.toBitVec &&& ~~~x.toBitVec) := by
    have e2 : (f.toBitVec &&& ~~~x.toBitVec) + x.toBitVec = f.toBitVec := by
      rw [BitVec.add_eq_or_of_and_eq_zero]
      · apply BitVec.eq_of_getLsbD_eq
        intro j hj
        have := hs j
        unfold bt at this
        simp only [BitVec.getLsbD_or, BitVec.getLsbD_and, BitVec.getLsbD_not, hj, decide_true, Bool.true_and]
        cases hx : x.toBitVec.getLsbD j <;> cases hf : f.toBitVec.getLsbD j <;> simp_all
      · apply BitVec.eq_of_getLsbD_eq
        intro j hj
        simp only [BitVec.getLsbD_and, BitVec.getLsbD_not, BitVec.getLsbD_zero, hj, decide_true, Bool.true_and]
        cases x.toBitVec.getLsbD j <;> simp
    conv => lhs; rw [← e2]
    rw [BitVec.sub_eq_add_neg, BitVec.neg_add, BitVec.sub_eq_add_neg, ← BitVec.add_assoc, BitVec.add_comm x.toBitVec, BitVec.add_assoc, ← BitVec.sub_eq_add_neg, BitVec.sub_self, BitVec.add_zero]
  show (x - f).toBitVec.getLsbD i = _
  have e3 : (x - f).toBitVec = x.toBitVec - f.toBitVec := rfl
  rw [e3, e1, BitVec.getLsbD_neg]
  simp only [BitVec.getLsbD_and, BitVec.getLsbD_not, hi, decide_true, Bool.true_and]
  congr 1
  apply decide_eq_decide.mpr
  constructor
  · rintro ⟨j, h1, h2⟩
    refine ⟨j, h1, ?_⟩
    have : j < 32 := by omega
    simpa [this, bt] using h2
  · rintro ⟨j, h1, h2⟩
    refine ⟨j, h1, ?_⟩
    have : j < 32 := by omega
    simpa [this, bt] using h2
theorem nxt_sub {x f : Int32} (hs : subS x f) (hne : ¬ x = f) (hx : 0 ≤ x.toInt) (hf : 0 ≤ f.toInt) : subS ((x - f) &&& f) f ∧ x.toInt < ((x - f) &&& f).toInt ∧ ((x - f) &&& f).toInt ≤ f.toInt := by
  have h3 := and_nn2 (x := x - f) hf
  refine ⟨fun i hi => by rw [bt_and] at hi; simp only [Bool.and_eq_true] at hi; exact hi.2, ?_, h3.2⟩
  have hex : ∃ i, i < 32 ∧ (bt f i && !bt x i) = true := by
    apply Classical.byContradiction
    intro hn
    apply hne
    apply bt_ext
    intro i hi
    have : ¬ (bt f i && !bt x i) = true := fun h => hn ⟨i, hi, h⟩
    have h5 := hs i
    cases hb : bt x i <;> cases hc : bt f i <;> simp_all
  have hmin : ∀ n, (∃ i, i < n ∧ i < 32 ∧ (bt f i && !bt x i) = true) → ∃ i, i < 32 ∧ (bt f i && !bt x i) = true ∧ ∀ j, j < i → ¬ (bt f j && !bt x j) = true := by
    intro n
    induction n with
    | zero => rintro ⟨i, h, _⟩; omega
    | succ n ih =>
      rintro ⟨i, h1, h2, h3⟩
      by_cases hb : ∃ i, i < n ∧ i < 32 ∧ (bt f i && !bt x i) = true
      · exact ih hb
      · refine ⟨i, h2, h3, fun j hj hc => hb ⟨j, by omega, by omega, hc⟩⟩
  obtain ⟨i0, hi0, hb0⟩ := hex
  obtain ⟨i, hi, hb, hl⟩ := hmin 32 ⟨i0, hi0, hi0, hb0⟩
  simp only [Bool.and_eq_true, Bool.not_eq_true'] at hb
  apply toNat_lt_bt hx h3.1 i hb.2
  · rw [nxt_bt hs i hi]
    have : ¬ ∃ j, j < i ∧ (bt f j && !bt x j) = true := fun ⟨j, h1, h2⟩ => hl j h1 h2
    rw [decide_eq_false this, hb.1, hb.2]; rfl
  · intro j hj
    by_cases h32 : j < 32
    · rw [nxt_bt hs j h32]
      have : ∃ j', j' < j ∧ (bt f j' && !bt x j') = true := ⟨i, hj, by rw [hb.1, hb.2]; rfl⟩
      rw [decide_eq_true this]
      have := hs j
      cases hx2 : bt x j <;> cases hf2 : bt f j <;> simp_all
    · rw [bt_big x (by omega), bt_big _ (by omega)]
