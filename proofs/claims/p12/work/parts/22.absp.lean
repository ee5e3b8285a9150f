/-! ranges along instructions that touch no cell -/
def rgO (lo hi : Int) : Int × Int := if FL ≤ lo ∧ hi ≤ FH then (lo, hi) else (FL, FH)
theorem rgO_in {lo hi x : Int} {w : Int32} (hx : FL ≤ x → x ≤ FH → w.toInt = x) (h1 : lo ≤ x) (h2 : x ≤ hi) : (rgO lo hi).1 ≤ w.toInt ∧ w.toInt ≤ (rgO lo hi).2 := by
  unfold rgO
  split
  · rename_i h
    rw [hx (by omega) (by omega)]
    exact ⟨h1, h2⟩
  · exact ⟨w_lo w, w_hi w⟩
def bitsUp (h : Int) : Nat := h.toNat.log2 + 1
theorem bitsUp_lt {x h : Int} (h0 : 0 ≤ x) (hx : x ≤ h) : x < 2 ^ bitsUp h := by
  have h1 : h.toNat < 2 ^ bitsUp h := Nat.lt_log2_self
  have h2 : ((h.toNat : Nat) : Int) = h := Int.toNat_of_nonneg (by omega)
  have h3 : ((h.toNat : Nat) : Int) < ((2 ^ bitsUp h : Nat) : Int) := by exact_mod_cast h1
  push_cast at h3
  omega
/-- the range of an operation's answer; none: it may throw, or is no such operation -/
def bnA (i : Instr) (lx hx ly hy : Int) : Option (Int × Int) := match i with
  | .iadd => some (rgO (lx + ly) (hx + hy))
  | .isub => some (rgO (lx - hy) (hx - ly))
  | .imul => some (if 0 ≤ lx ∧ 0 ≤ ly then rgO (lx * ly) (hx * hy) else (FL, FH))
  | .idiv => if 1 ≤ ly then some (if 0 ≤ lx then (lx / hy, hx / ly) else (lx, imax hx 0)) else none
  | .irem => if 1 ≤ ly then some (if 0 ≤ lx then (if ly = hy ∧ lx / ly = hx / ly then (lx - lx / ly * ly, hx - lx / ly * ly) else (0, imin hx (hy - 1))) else (1 - hy, hy - 1)) else none
  | .iand => some (if 0 ≤ lx then (if 0 ≤ ly then (0, imin hx hy) else (0, hx)) else if 0 ≤ ly then (0, hy) else (FL, FH))
  | .ior => some (if 0 ≤ lx ∧ 0 ≤ ly ∧ bitsUp (imax hx hy) ≤ 31 then (0, 2 ^ bitsUp (imax hx hy) - 1) else (FL, FH))
  | .ixor => some (if ly = -1 ∧ hy = -1 then (-1 - hx, -1 - lx) else if 0 ≤ lx ∧ 0 ≤ ly ∧ bitsUp (imax hx hy) ≤ 31 then (0, 2 ^ bitsUp (imax hx hy) - 1) else (FL, FH))
  | .ishl => some (if 0 ≤ lx ∧ 0 ≤ ly ∧ hy ≤ 31 ∧ hx * 2 ^ hy.toNat ≤ FH then (lx * 2 ^ ly.toNat, hx * 2 ^ hy.toNat) else (FL, FH))
  | .ishr => some (if 0 ≤ lx then (0, hx) else (lx, imax hx (-1)))
  | .iushr => some (if 0 ≤ lx then (if ly = hy ∧ 0 ≤ ly ∧ ly ≤ 31 then (lx / 2 ^ ly.toNat, hx / 2 ^ ly.toNat) else (0, hx)) else if ly = hy ∧ 1 ≤ ly ∧ ly ≤ 31 then (0, 2 ^ (32 - ly.toNat) - 1) else (FL, FH))
  | _ => none
def fI (i : Instr) : Int32 → Int32 → Int32 := match i with
  | .iadd => fun x y => x + y
  | .isub => fun x y => x - y
  | .imul => fun x y => x * y
  | .idiv => fun x y => x / y
  | .irem => fun x y => x - x / y * y
  | .iand => fun x y => x &&& y
  | .ior => fun x y => x ||| y
  | .ixor => fun x y => x ^^^ y
  | .ishl => fun x y => x <<< (y &&& 31)
  | .ishr => fun x y => x >>> (y &&& 31)
  | .iushr => ush
  | _ => fun x _ => x
theorem ine {y : Int32} (h : 1 ≤ y.toInt) : ¬ y = 0 := fun e => by rw [e] at h; exact absurd h (by decide)
theorem pow_le_pow {a b : Nat} (h : a ≤ b) : (2 : Int) ^ a ≤ 2 ^ b := by exact_mod_cast Nat.pow_le_pow_right (by decide) h
set_option maxHeartbeats 1000000 in
theorem bnA_ok {i : Instr} {lx hx ly hy lo hi : Int} {x y : Int32} (h : bnA i lx hx ly hy = some (lo, hi)) (h1 : lx ≤ x.toInt) (h2 : x.toInt ≤ hx) (h3 : ly ≤ y.toInt) (h4 : y.toInt ≤ hy) : lo ≤ (fI i x y).toInt ∧ (fI i x y).toInt ≤ hi := by
  cases i with
  | iadd =>
    simp only [bnA, Option.some.injEq] at h
    have := rgO_in (lo := lx + ly) (hi := hx + hy) (fun a b => add_ex (x := x) (y := y) a b) (by omega) (by omega)
    rw [h] at this; exact this
  | isub =>
    simp only [bnA, Option.some.injEq] at h
    have := rgO_in (lo := lx - hy) (hi := hx - ly) (fun a b => sub_ex (x := x) (y := y) a b) (by omega) (by omega)
    rw [h] at this; exact this
  | imul =>
    simp only [bnA, Option.some.injEq] at h
    split at h
    · rename_i hc
      have m1 : lx * ly ≤ x.toInt * y.toInt := Int.mul_le_mul h1 h3 hc.2 (by omega)
      have m2 : x.toInt * y.toInt ≤ hx * hy := Int.mul_le_mul h2 h4 (by omega) (by omega)
      have := rgO_in (lo := lx * ly) (hi := hx * hy) (fun a b => mul_ex (x := x) (y := y) a b) m1 m2
      rw [h] at this; exact this
    · cases h; exact ⟨w_lo _, w_hi _⟩
  | idiv =>
    simp only [bnA] at h
    split at h
    · rename_i hc
      have hy0 : 0 < y.toInt := by omega
      simp only [Option.some.injEq] at h
      have hd := div_ex (x := x) hy0
      show lo ≤ (x / y).toInt ∧ (x / y).toInt ≤ hi
      rw [hd]
      split at h
      · rename_i hx0
        cases h
        rw [Int.tdiv_eq_ediv_of_nonneg (by omega)]
        refine ⟨?_, ?_⟩
        · apply Int.le_ediv_of_mul_le hy0
          have e1 : lx / hy * y.toInt ≤ lx / hy * hy := Int.mul_le_mul_of_nonneg_left h4 (Int.ediv_nonneg hx0 (by omega))
          have e2 : lx / hy * hy ≤ lx := Int.ediv_mul_le lx (by omega)
          omega
        · apply Int.le_ediv_of_mul_le (by omega)
          have e1 : x.toInt / y.toInt * ly ≤ x.toInt / y.toInt * y.toInt := Int.mul_le_mul_of_nonneg_left h3 (Int.ediv_nonneg (by omega) (by omega))
          have e2 : x.toInt / y.toInt * y.toInt ≤ x.toInt := Int.ediv_mul_le x.toInt (by omega)
          omega
      · cases h
        have hn := Int.natAbs_tdiv_le_natAbs x.toInt y.toInt
        by_cases hx0 : 0 ≤ x.toInt
        · have := Int.tdiv_nonneg hx0 (Int.le_of_lt hy0)
          unfold imax
          split <;> omega
        · have : x.toInt.tdiv y.toInt ≤ 0 := by
            have := Int.tdiv_nonneg (a := -x.toInt) (b := y.toInt) (by omega) (Int.le_of_lt hy0)
            rw [Int.neg_tdiv] at this
            omega
          unfold imax
          split <;> omega
    · cases h
  | irem =>
    simp only [bnA] at h
    split at h
    · rename_i hc
      have hy0 : 0 < y.toInt := by omega
      simp only [Option.some.injEq] at h
      have hd := rem_ex (x := x) hy0
      show lo ≤ (x - x / y * y).toInt ∧ (x - x / y * y).toInt ≤ hi
      rw [hd]
      have hb := Int.tmod_lt_of_pos x.toInt hy0
      have hlo : -(y.toInt) < x.toInt.tmod y.toInt := Int.lt_tmod_of_pos x.toInt hy0
      split at h
      · rename_i hx0
        split at h
        · rename_i hq
          obtain ⟨q1, q2⟩ := hq
          have hyl : y.toInt = ly := by omega
          have d1 : lx / ly ≤ x.toInt / ly := Int.ediv_le_ediv (by omega) h1
          have d2 : x.toInt / ly ≤ hx / ly := Int.ediv_le_ediv (by omega) h2
          have d3 : x.toInt / ly = lx / ly := by omega
          cases h
          rw [Int.tmod_def, hyl, Int.tdiv_eq_ediv_of_nonneg (by omega), d3, Int.mul_comm]
          omega
        · cases h
          have hs := Int.tmod_nonneg (a := x.toInt) y.toInt (by omega)
          have hn := Int.natAbs_tmod x.toInt y.toInt
          have h9 := Nat.mod_le x.toInt.natAbs y.toInt.natAbs
          unfold imin
          split <;> omega
      · cases h
        omega
    · cases h
  | iand =>
    simp only [bnA, Option.some.injEq] at h
    show lo ≤ (x &&& y).toInt ∧ (x &&& y).toInt ≤ hi
    split at h
    · have a1 := and_nn (x := x) (y := y) (by omega)
      split at h
      · have a2 := and_nn2 (x := x) (y := y) (by omega)
        cases h
        unfold imin
        split <;> omega
      · cases h; omega
    · split at h
      · have a2 := and_nn2 (x := x) (y := y) (by omega)
        cases h; omega
      · cases h; exact ⟨w_lo _, w_hi _⟩
  | ior =>
    simp only [bnA, Option.some.injEq] at h
    show lo ≤ (x ||| y).toInt ∧ (x ||| y).toInt ≤ hi
    split at h
    · rename_i hc
      have e1 : hx ≤ imax hx hy ∧ hy ≤ imax hx hy := by unfold imax; split <;> omega
      have := or_nn (x := x) (y := y) hc.2.2 (by omega) (by omega) (bitsUp_lt (by omega) (by omega)) (bitsUp_lt (by omega) (by omega))
      cases h; omega
    · cases h; exact ⟨w_lo _, w_hi _⟩
  | ixor =>
    simp only [bnA, Option.some.injEq] at h
    show lo ≤ (x ^^^ y).toInt ∧ (x ^^^ y).toInt ≤ hi
    split at h
    · rename_i hc
      have hy1 : y = -1 := Int32.toInt_inj.mp (by have : (-1 : Int32).toInt = -1 := rfl; omega)
      cases h
      rw [hy1, not_ex]
      omega
    split at h
    · rename_i _ hc
      have e1 : hx ≤ imax hx hy ∧ hy ≤ imax hx hy := by unfold imax; split <;> omega
      have := xor_nn (x := x) (y := y) hc.2.2 (by omega) (by omega) (bitsUp_lt (by omega) (by omega)) (bitsUp_lt (by omega) (by omega))
      cases h; omega
    · cases h; exact ⟨w_lo _, w_hi _⟩
  | ishl =>
    simp only [bnA, Option.some.injEq] at h
    show lo ≤ (x <<< (y &&& 31)).toInt ∧ (x <<< (y &&& 31)).toInt ≤ hi
    split at h
    · rename_i hc
      obtain ⟨c1, c2, c3, c4⟩ := hc
      have k1 : y.toInt = ((y.toInt.toNat : Nat) : Int) := (Int.toNat_of_nonneg (by omega)).symm
      have p1 : (2 : Int) ^ ly.toNat ≤ 2 ^ y.toInt.toNat := pow_le_pow (by omega)
      have p2 : (2 : Int) ^ y.toInt.toNat ≤ 2 ^ hy.toNat := pow_le_pow (by omega)
      have p0 : (0 : Int) ≤ 2 ^ ly.toNat := Int.le_of_lt (by exact_mod_cast Nat.two_pow_pos _)
      have m1 : lx * 2 ^ ly.toNat ≤ x.toInt * 2 ^ y.toInt.toNat := Int.mul_le_mul h1 p1 p0 (by omega)
      have m2 : x.toInt * 2 ^ y.toInt.toNat ≤ hx * 2 ^ hy.toNat := Int.mul_le_mul h2 p2 (by omega) (by omega)
      have := shl_ex (x := x) (y := y) k1 (by omega) (by omega) (by omega)
      cases h
      omega
    · cases h; exact ⟨w_lo _, w_hi _⟩
  | ishr =>
    simp only [bnA, Option.some.injEq] at h
    show lo ≤ (x >>> (y &&& 31)).toInt ∧ (x >>> (y &&& 31)).toInt ≤ hi
    obtain ⟨k, -, hk⟩ := shr_rg x y
    rw [hk]
    obtain ⟨b1, b2⟩ := shr_bd x.toInt k
    split at h
    · cases h
      have := b1 (by omega)
      omega
    · cases h
      by_cases h0 : 0 ≤ x.toInt
      · have := b1 h0
        unfold imax; split <;> omega
      · have := b2 (by omega)
        unfold imax; split <;> omega
  | iushr =>
    simp only [bnA, Option.some.injEq] at h
    show lo ≤ (ush x y).toInt ∧ (ush x y).toInt ≤ hi
    split at h
    · rename_i hx0
      obtain ⟨t1, t2⟩ := tn_nn (x := x) (by omega)
      split at h
      · rename_i hc
        have k1 : y.toInt = ((ly.toNat : Nat) : Int) := by omega
        have := ushr_ex (x := x) k1 (by omega)
        have hle : x.toBitVec.toNat / 2 ^ ly.toNat ≤ x.toBitVec.toNat := Nat.div_le_self _ _
        have e5 := tn_of (x := ush x y) (by omega)
        cases h
        rw [e5, this]
        have hp : (0 : Int) < 2 ^ ly.toNat := by exact_mod_cast Nat.two_pow_pos _
        have hcast : (((x.toBitVec.toNat / 2 ^ ly.toNat : Nat)) : Int) = x.toInt / 2 ^ ly.toNat := by rw [t1]; push_cast; rfl
        rw [hcast]
        exact ⟨Int.ediv_le_ediv hp h1, Int.ediv_le_ediv hp h2⟩
      · cases h
        have hu : ∃ k : Nat, k < 32 ∧ (ush x y).toBitVec.toNat = x.toBitVec.toNat / 2 ^ k := by
          refine ⟨((y.toUInt32 &&& Int32.toUInt32 31).toBitVec % 32).toNat, ?_, pk_ushr x y _ rfl⟩
          rw [BitVec.toNat_umod]
          exact Nat.mod_lt _ (by decide)
        obtain ⟨k, -, hk⟩ := hu
        have hle : x.toBitVec.toNat / 2 ^ k ≤ x.toBitVec.toNat := Nat.div_le_self _ _
        have e5 := tn_of (x := ush x y) (by omega)
        omega
    · split at h
      · rename_i hc
        have k1 : y.toInt = ((ly.toNat : Nat) : Int) := by omega
        have hu := ushr_ex (x := x) k1 (by omega)
        have hl := tn_lt x
        have hlt : x.toBitVec.toNat / 2 ^ ly.toNat < 2 ^ (32 - ly.toNat) := by
          apply Nat.div_lt_of_lt_mul
          rw [← Nat.pow_add]
          have : ly.toNat + (32 - ly.toNat) = 32 := by omega
          rw [this]
          exact hl
        have hp : (2 : Nat) ^ (32 - ly.toNat) ≤ 2 ^ 31 := Nat.pow_le_pow_right (by decide) (by omega)
        have e5 := tn_of (x := ush x y) (by omega)
        cases h
        rw [e5, hu]
        have : (((x.toBitVec.toNat / 2 ^ ly.toNat : Nat)) : Int) < ((2 ^ (32 - ly.toNat) : Nat) : Int) := by exact_mod_cast hlt
        have hz : (0 : Int) ≤ (((x.toBitVec.toNat / 2 ^ ly.toNat : Nat)) : Int) := Int.natCast_nonneg _
        push_cast at this hz ⊢
        omega
      · cases h; exact ⟨w_lo _, w_hi _⟩
  | _ => cases h
/-- an answer that is a number of ours and a constant -/
def offA (i : Instr) (gx gy : SI) (lx hx ly hy : Int) : Option (Nat × Int) := match i with
  | .iadd => if FL ≤ lx + ly ∧ hx + hy ≤ FH then (if ly = hy then some (gx.2.2.2.1, gx.2.2.2.2.1 + ly) else if lx = hx then some (gy.2.2.2.1, gy.2.2.2.2.1 + lx) else none) else none
  | .isub => if FL ≤ lx - hy ∧ hx - ly ≤ FH then (if ly = hy then some (gx.2.2.2.1, gx.2.2.2.2.1 - ly) else none) else none
  | _ => none
theorem offA_ok {ρ : List Value} {i : Instr} {gx gy : SI} {lx hx ly hy : Int} {b : Nat} {o : Int} {x y : Int32} (h : offA i gx gy lx hx ly hy = some (b, o)) (h1 : lx ≤ x.toInt) (h2 : x.toInt ≤ hx) (h3 : ly ≤ y.toInt) (h4 : y.toInt ≤ hy) (bx : ∃ z, iv ρ gx.2.2.2.1 z ∧ x.toInt = z + gx.2.2.2.2.1) (by_ : ∃ z, iv ρ gy.2.2.2.1 z ∧ y.toInt = z + gy.2.2.2.2.1) : ∃ z, iv ρ b z ∧ (fI i x y).toInt = z + o := by
  cases i with
  | iadd =>
    simp only [offA] at h
    split at h
    · have e1 : (x + y).toInt = x.toInt + y.toInt := add_ex (by omega) (by omega)
      split at h
      · cases h
        obtain ⟨z, g1, g2⟩ := bx
        exact ⟨z, g1, by show (x + y).toInt = _; omega⟩
      · split at h
        · cases h
          obtain ⟨z, g1, g2⟩ := by_
          exact ⟨z, g1, by show (x + y).toInt = _; omega⟩
        · cases h
    · cases h
  | isub =>
    simp only [offA] at h
    split at h
    · have e1 : (x - y).toInt = x.toInt - y.toInt := sub_ex (by omega) (by omega)
      split at h
      · cases h
        obtain ⟨z, g1, g2⟩ := bx
        exact ⟨z, g1, by show (x - y).toInt = _; omega⟩
      · cases h
    · cases h
  | _ => cases h
def nwA (S : List SI) (r : Int × Int) (o : Option (Nat × Int)) : SI := match o with
  | some (b, c) => (0, r.1, r.2, b, c, [])
  | none => (0, r.1, r.2, S.length, 0, [])
theorem nwA_ok {ρ : List Value} {S : List SI} {w : Int32} {r : Int × Int} {o : Option (Nat × Int)} (hl : ρ.length = S.length) (h1 : r.1 ≤ w.toInt) (h2 : w.toInt ≤ r.2) (ho : ∀ b c, o = some (b, c) → ∃ z, iv ρ b z ∧ w.toInt = z + c) : okS (ρ ++ [.int w]) (nwA S r o) (.int w) := by
  unfold nwA
  split
  · rename_i b c
    obtain ⟨z, g1, g2⟩ := ho b c rfl
    exact okS_off h1 h2 g1 g2
  · exact okS_new hl h1 h2
def isL (S : List SI) (p : Nat × Nat) : Bool := Nat.ble 3 (gS S p.2).1
def stL (S : List SI) (k s : Nat) (L : List (Nat × Nat)) : List (Nat × Nat) := (k, s) :: L.filter (fun p => !(Nat.beq p.1 k) && !(Nat.beq (p.1 + 1) k && isL S p))
def stL2 (S : List SI) (k s : Nat) (L : List (Nat × Nat)) : List (Nat × Nat) := (k, s) :: L.filter (fun p => !(Nat.beq p.1 k) && (!(Nat.beq p.1 (k + 1)) && !(Nat.beq (p.1 + 1) k && isL S p)))
theorem lookup_filter {α : Type} {f : Nat × α → Bool} {k : Nat} {v : α} : ∀ {l : List (Nat × α)}, l.lookup k = some v → f (k, v) = true → (∀ w, f (k, w) = false → True) → (l.filter f).lookup k = some v
  | [], h, _, _ => by cases h
  | (j, w) :: l, h, hf, hz => by
    rw [List.lookup_cons] at h
    by_cases hk : k = j
    · subst hk
      simp at h
      subst h
      rw [List.filter_cons_of_pos hf, List.lookup_cons]
      simp
    · have hb : (k == j) = false := by simp [hk]
      rw [hb] at h
      by_cases hj : f (j, w) = true
      · rw [List.filter_cons_of_pos hj, List.lookup_cons, hb]
        exact lookup_filter h hf hz
      · rw [List.filter_cons_of_neg hj]
        exact lookup_filter h hf hz
theorem okS_cat {ρ : List Value} {si : SI} {v : Value} (h : okS ρ si v) : (v.category = 2 → 3 ≤ si.1) ∧ (3 ≤ si.1 → v.category = 2) := by
  unfold okS at h
  split at h
  · rename_i e; obtain ⟨w, rfl, -⟩ := h; exact ⟨fun z => (by cases z), fun z => absurd z (by omega)⟩
  · rename_i e; obtain ⟨q, rfl, -⟩ := h; exact ⟨fun z => (by cases z), fun z => absurd z (by omega)⟩
  · rename_i e
    rcases h with rfl | ⟨q, rfl, -⟩
    · exact ⟨fun z => (by cases z), fun z => absurd z (by omega)⟩
    · exact ⟨fun z => (by cases z), fun z => absurd z (by omega)⟩
  · obtain ⟨w, rfl⟩ := h
    rename_i a1 a2 a3
    refine ⟨fun _ => ?_, fun _ => rfl⟩
    rcases Nat.lt_or_ge si.1 3 with hl | hl
    · have : si.1 = 0 ∨ si.1 = 1 ∨ si.1 = 2 := by omega
      rcases this with e | e | e
      · exact absurd e a1
      · exact absurd e a2
      · exact absurd e a3
    · exact hl
section AbsP
variable {ρ0 ρ : List Value} {S : List SI} {L : List (Nat × Nat)} {K : List Nat} {M : List ME} {ls : Lcl} {st : List Value} {σ : Sg}
theorem Rel.catL (h : Rel ρ0 ρ (S, L, K, M) ls st σ) {s : Nat} {v : Value} (hv : ρ[s]? = some v) : (3 ≤ (gS S s).1 ↔ v.category = 2) := by
  have hlt : s < S.length := by have := (List.getElem?_eq_some_iff.mp hv).1; rw [h.1] at this; exact this
  have hs : S[s]? = some (gS S s) := by unfold gS; rw [List.getElem?_eq_getElem hlt]; rfl
  obtain ⟨w, g1, g2⟩ := h.val hs
  rw [hv] at g1
  cases g1
  exact ⟨(okS_cat g2).2, (okS_cat g2).1⟩
theorem Rel.store {k s : Nat} {v : Value} (h : Rel ρ0 ρ (S, L, K, M) ls st σ) (hv : ρ[s]? = some v) : Rel ρ0 ρ (S, stL S k s L, K, M) (set1 k v ls) st σ := by
  have hc := fun (s : Nat) (v : Value) (hv : ρ[s]? = some v) => h.catL hv
  obtain ⟨h1, h2, h3, h4, h5, h6⟩ := h
  refine ⟨h1, h2, ?_, h4, h5, h6⟩
  intro p hp
  rcases List.mem_cons.mp hp with rfl | hp
  · exact ⟨v, by simp [set1], hv⟩
  · obtain ⟨hp1, hp2⟩ := List.mem_filter.mp hp
    obtain ⟨w, g1, g2⟩ := h3 p hp1
    refine ⟨w, ?_, g2⟩
    simp only [Bool.and_eq_true, Bool.not_eq_true', Bool.and_eq_false_iff] at hp2
    have hne : ¬ p.1 = k := fun e => by rw [e, Nat.beq_refl] at hp2; cases hp2.1
    unfold set1
    rw [List.lookup_cons]
    have hb : (p.1 == k) = false := by simp [hne]
    rw [hb]
    refine lookup_filter g1 ?_ (fun _ _ => trivial)
    simp only [Bool.and_eq_true, Bool.not_eq_true', Bool.and_eq_false_iff]
    refine ⟨hb, ?_⟩
    rcases hp2.2 with e | e
    · left
      simp only [beq_eq_false_iff_ne, ne_eq]
      intro e2
      rw [e2, Nat.beq_refl] at e
      cases e
    · right
      unfold isL at e
      simp only [beq_eq_false_iff_ne, ne_eq]
      intro e2
      have := (hc p.2 w g2).mpr e2
      rw [Nat.ble_eq_true_of_le this] at e
      cases e
theorem Rel.store2 {k s : Nat} {v : Value} (h : Rel ρ0 ρ (S, L, K, M) ls st σ) (hv : ρ[s]? = some v) : Rel ρ0 ρ (S, stL2 S k s L, K, M) (set2 k v ls) st σ := by
  have hc := fun (s : Nat) (v : Value) (hv : ρ[s]? = some v) => h.catL hv
  obtain ⟨h1, h2, h3, h4, h5, h6⟩ := h
  refine ⟨h1, h2, ?_, h4, h5, h6⟩
  intro p hp
  rcases List.mem_cons.mp hp with rfl | hp
  · exact ⟨v, by simp [set2], hv⟩
  · obtain ⟨hp1, hp2⟩ := List.mem_filter.mp hp
    obtain ⟨w, g1, g2⟩ := h3 p hp1
    refine ⟨w, ?_, g2⟩
    simp only [Bool.and_eq_true, Bool.not_eq_true', Bool.and_eq_false_iff] at hp2
    have hne : ¬ p.1 = k := fun e => by rw [e, Nat.beq_refl] at hp2; cases hp2.1
    have hne2 : ¬ p.1 = k + 1 := fun e => by rw [e, Nat.beq_refl] at hp2; cases hp2.2.1
    unfold set2
    rw [List.lookup_cons]
    have hb : (p.1 == k) = false := by simp [hne]
    rw [hb]
    refine lookup_filter g1 ?_ (fun _ _ => trivial)
    simp only [Bool.and_eq_true, Bool.not_eq_true', Bool.and_eq_false_iff]
    refine ⟨hb, by simp [hne2], ?_⟩
    rcases hp2.2.2 with e | e
    · left
      simp only [beq_eq_false_iff_ne, ne_eq]
      intro e2
      rw [e2, Nat.beq_refl] at e
      cases e
    · right
      unfold isL at e
      simp only [beq_eq_false_iff_ne, ne_eq]
      intro e2
      have := (hc p.2 w g2).mpr e2
      rw [Nat.ble_eq_true_of_le this] at e
      cases e
end AbsP
