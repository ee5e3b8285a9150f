/-! the greatest, the least of a set -/
def nl1 (p : Nat × Nat) : Nat × Nat := if p.1 < 256 then p else (p.1 / 256, p.2 - 8)
def nl2 (p : Nat × Nat) : Nat × Nat := if p.1 < 16 then p else (p.1 / 16, p.2 - 4)
def nl3 (p : Nat × Nat) : Nat × Nat := if p.1 < 4 then p else (p.1 / 4, p.2 - 2)
def nlN (x : Nat) : Nat := (nl3 (nl2 (nl1 (x, 31)))).2 - (nl3 (nl2 (nl1 (x, 31)))).1 / 2
def lwY (x : Nat) : Nat := Nat.land (Nat.xor x 4294967295) (x - 1)
def hiN (x : Nat) : Nat := Nat.log2 x
def loN (x : Nat) : Nat := Nat.log2 (lwY x + 1)
def zrN (x : Nat) : Bool := Nat.beq x 0 || (Nat.beq (nlN x) (31 - hiN x) && (Nat.blt x (2 ^ (hiN x + 1)) && (Nat.testBit x (hiN x) && (Nat.blt (hiN x) 16 && (Nat.blt (loN x) 16 && (Nat.beq (lwY x + 1) (2 ^ loN x) && (Nat.beq (x % 2 ^ loN x) 0 && Nat.testBit x (loN x))))))))
def zrQ (q : Nat) : Bool := (List.range 64).all (fun b => (List.range 64).all (fun c => zrN (4096 * q + (64 * b + c))))
set_option maxRecDepth 100000 in
theorem zrq_0 : zrQ 0 = true := by decide +kernel
set_option maxRecDepth 100000 in
theorem zrq_1 : zrQ 1 = true := by decide +kernel
set_option maxRecDepth 100000 in
theorem zrq_2 : zrQ 2 = true := by decide +kernel
set_option maxRecDepth 100000 in
theorem zrq_3 : zrQ 3 = true := by decide +kernel
set_option maxRecDepth 100000 in
theorem zrq_4 : zrQ 4 = true := by decide +kernel
set_option maxRecDepth 100000 in
theorem zrq_5 : zrQ 5 = true := by decide +kernel
set_option maxRecDepth 100000 in
theorem zrq_6 : zrQ 6 = true := by decide +kernel
set_option maxRecDepth 100000 in
theorem zrq_7 : zrQ 7 = true := by decide +kernel
set_option maxRecDepth 100000 in
theorem zrq_8 : zrQ 8 = true := by decide +kernel
set_option maxRecDepth 100000 in
theorem zrq_9 : zrQ 9 = true := by decide +kernel
set_option maxRecDepth 100000 in
theorem zrq_10 : zrQ 10 = true := by decide +kernel
set_option maxRecDepth 100000 in
theorem zrq_11 : zrQ 11 = true := by decide +kernel
set_option maxRecDepth 100000 in
theorem zrq_12 : zrQ 12 = true := by decide +kernel
set_option maxRecDepth 100000 in
theorem zrq_13 : zrQ 13 = true := by decide +kernel
set_option maxRecDepth 100000 in
theorem zrq_14 : zrQ 14 = true := by decide +kernel
set_option maxRecDepth 100000 in
theorem zrq_15 : zrQ 15 = true := by decide +kernel
theorem zr_all {x : Nat} (h : x < 65536) : zrN x = true := by
  have hq : ∀ q, q < 16 → zrQ q = true := by
    intro q hq
    rcases (show q = 0 ∨ q = 1 ∨ q = 2 ∨ q = 3 ∨ q = 4 ∨ q = 5 ∨ q = 6 ∨ q = 7 ∨ q = 8 ∨ q = 9 ∨ q = 10 ∨ q = 11 ∨ q = 12 ∨ q = 13 ∨ q = 14 ∨ q = 15 by omega) with rfl | rfl | rfl | rfl | rfl | rfl | rfl | rfl | rfl | rfl | rfl | rfl | rfl | rfl | rfl | rfl
    · exact zrq_0
    · exact zrq_1
    · exact zrq_2
    · exact zrq_3
    · exact zrq_4
    · exact zrq_5
    · exact zrq_6
    · exact zrq_7
    · exact zrq_8
    · exact zrq_9
    · exact zrq_10
    · exact zrq_11
    · exact zrq_12
    · exact zrq_13
    · exact zrq_14
    · exact zrq_15
  have key := List.all_eq_true.mp (List.all_eq_true.mp (hq (x / 4096) (by omega)) (x % 4096 / 64) (List.mem_range.mpr (by omega))) (x % 64) (List.mem_range.mpr (by omega))
  rw [show 4096 * (x / 4096) + (64 * (x % 4096 / 64) + x % 64) = x by omega] at key
  exact key
theorem zr_is {x : Nat} (h : x < 65536) (h0 : 0 < x) : nlN x = 31 - hiN x ∧ x < 2 ^ (hiN x + 1) ∧ Nat.testBit x (hiN x) = true ∧ hiN x < 16 ∧ loN x < 16 ∧ lwY x + 1 = 2 ^ loN x ∧ x % 2 ^ loN x = 0 ∧ Nat.testBit x (loN x) = true := by
  have h1 := zr_all h
  unfold zrN at h1
  rw [Bool.or_eq_true] at h1
  rcases h1 with h1 | h1
  · exact absurd (Nat.eq_of_beq_eq_true h1) (by omega)
  · simp only [Bool.and_eq_true] at h1
    obtain ⟨a1, a2, a3, a4, a5, a6, a7, a8⟩ := h1
    exact ⟨Nat.eq_of_beq_eq_true a1, Nat.le_of_ble_eq_true a2, a3, Nat.le_of_ble_eq_true a4, Nat.le_of_ble_eq_true a5, Nat.eq_of_beq_eq_true a6, Nat.eq_of_beq_eq_true a7, a8⟩
theorem tnI {x : Nat} (h : x < 2 ^ 31) : (nI x).toBitVec.toNat = x := by
  have h1 := nI_toInt h
  have h2 := tn_nn (x := nI x) (by omega)
  omega
theorem of_tn {y : Int32} {k : Nat} (h : y.toBitVec.toNat = k) (hk : k < 2 ^ 31) : y = nI k := i_nI (by rw [tn_of (by omega), h]) hk
theorem ush_nI {x j : Nat} (hx : x < 2 ^ 31) (hj : j < 32) : ush (nI x) (nI j) = nI (x / 2 ^ j) := by
  have h : (ush (nI x) (nI j)).toBitVec.toNat = x / 2 ^ j := by
    have := ushr_ex (x := nI x) (y := nI j) (k := j) (nI_toInt (by omega)) hj
    rw [tnI hx] at this
    exact this
  exact of_tn h (by have := Nat.div_le_self x (2 ^ j); omega)
theorem rc0 {n x : Nat} {w : Int32} {σ σ1 : Sg} (h : RCx PRG n 0 [.int (nI x)] σ (some (.int w)) σ1) (hx : x < 65536) (h0 : 0 < x) : σ1 = σ ∧ (31 : Int32) - w = nI (hiN x) := by
  obtain ⟨z1, z2, z3, z4, -⟩ := zr_is hx h0
  have st : ∀ (m d : Nat), Pl PRG m d 0 33 [(0, .int (nI x)), (1, .int (nI 31))] [] σ (fun v s' => s' = σ ∧ v = some (.int (nI (nlN x)))) := by
    intro m d
    have p73 : ∀ m (p : Nat × Nat), p.1 < 65536 → p.1 / 2 ≤ p.2 → p.2 < 100 → p.2 - p.1 / 2 = nlN x → Pl PRG m d 0 73 [(0, .int (nI p.1)), (1, .int (nI p.2))] [] σ (fun v s' => s' = σ ∧ v = some (.int (nI (nlN x)))) := fun m p h1 h2 h3 h4 => Pl.pos (fun m2 _ => p_0_73 σ (nI p.1) (nI p.2) ⟨rfl, by
      rw [show (1 : Int32) = nI 1 by decide, ush_nI (by omega) (by decide), nI_subI (by omega), ← h4]⟩)
    have p61 : ∀ m (p : Nat × Nat), p.1 < 65536 → (nl3 p).1 / 2 ≤ (nl3 p).2 → 2 ≤ p.2 → p.2 < 100 → (nl3 p).2 - (nl3 p).1 / 2 = nlN x → Pl PRG m d 0 61 [(0, .int (nI p.1)), (1, .int (nI p.2))] [] σ (fun v s' => s' = σ ∧ v = some (.int (nI (nlN x)))) := fun m p h1 h2 h3 h3' h4 => Pl.pos (fun m2 _ => p_0_61 σ (nI p.1) (nI p.2) ⟨fun c => by
      have c' : p.1 < 4 := by
        rcases Nat.lt_or_ge p.1 4 with g | g
        · exact g
        · exact absurd c (nI_nlt (a := p.1) (b := 4) g (by omega))
      have e : nl3 p = p := if_pos c'
      rw [e] at h2 h4
      exact p73 m2 p h1 h2 h3' h4, fun c => by
      have c' : ¬ p.1 < 4 := fun g => c (nI_lt g (by decide))
      have e : nl3 p = (p.1 / 4, p.2 - 2) := if_neg c'
      rw [e] at h2 h4
      have e1 : ush (nI p.1) (2 : Int32) = nI (p.1 / 4) := ush_nI (j := 2) (by omega) (by decide)
      have e2 : nI p.2 + (-2 : Int32) = nI (p.2 - 2) := by rw [← nI_subI (a := p.2) (b := 2) h3]; exact (Int32.sub_eq_add_neg _ _).symm
      rw [e1, e2]
      exact p73 m2 (p.1 / 4, p.2 - 2) (by show p.1 / 4 < _; omega) h2 (by show p.2 - 2 < _; omega) h4⟩)
    have p48 : ∀ m (p : Nat × Nat), p.1 < 65536 → (nl3 (nl2 p)).1 / 2 ≤ (nl3 (nl2 p)).2 → 6 ≤ p.2 → p.2 < 100 → (nl3 (nl2 p)).2 - (nl3 (nl2 p)).1 / 2 = nlN x → Pl PRG m d 0 48 [(0, .int (nI p.1)), (1, .int (nI p.2))] [] σ (fun v s' => s' = σ ∧ v = some (.int (nI (nlN x)))) := fun m p h1 h2 h3 h3' h4 => Pl.pos (fun m2 _ => p_0_48 σ (nI p.1) (nI p.2) ⟨fun c => by
      have c' : p.1 < 16 := by
        rcases Nat.lt_or_ge p.1 16 with g | g
        · exact g
        · exact absurd c (nI_nlt (a := p.1) (b := 16) g (by omega))
      have e : nl2 p = p := if_pos c'
      rw [e] at h2 h4
      exact p61 m2 p h1 h2 (by omega) h3' h4, fun c => by
      have c' : ¬ p.1 < 16 := fun g => c (nI_lt g (by decide))
      have e : nl2 p = (p.1 / 16, p.2 - 4) := if_neg c'
      rw [e] at h2 h4
      have e1 : ush (nI p.1) (4 : Int32) = nI (p.1 / 16) := ush_nI (j := 4) (by omega) (by decide)
      have e2 : nI p.2 + (-4 : Int32) = nI (p.2 - 4) := by rw [← nI_subI (a := p.2) (b := 4) (by omega)]; exact (Int32.sub_eq_add_neg _ _).symm
      rw [e1, e2]
      exact p61 m2 (p.1 / 16, p.2 - 4) (by show p.1 / 16 < _; omega) h2 (by show 2 ≤ p.2 - 4; omega) (by show p.2 - 4 < _; omega) h4⟩)
    refine Pl.pos (fun m2 _ => p_0_33 σ (nI x) (nI 31) ⟨fun c => ?_, fun c => ?_⟩)
    · have c' : x < 256 := by
        rcases Nat.lt_or_ge x 256 with g | g
        · exact g
        · exact absurd c (nI_nlt (a := x) (b := 256) g (by omega))
      have e : nl1 (x, 31) = (x, 31) := if_pos c'
      have hn : nlN x = (nl3 (nl2 (x, 31))).2 - (nl3 (nl2 (x, 31))).1 / 2 := by unfold nlN; rw [e]
      refine p48 m2 (x, 31) hx ?_ (by show 6 ≤ 31; decide) (by show 31 < 100; decide) hn.symm
      unfold nl3 nl2
      split <;> (split <;> (simp only; omega))
    · have c' : ¬ x < 256 := fun g => c (nI_lt g (by decide))
      have e : nl1 (x, 31) = (x / 256, 31 - 8) := if_neg c'
      have hn : nlN x = (nl3 (nl2 (x / 256, 31 - 8))).2 - (nl3 (nl2 (x / 256, 31 - 8))).1 / 2 := by unfold nlN; rw [e]
      have e1 : ush (nI x) (8 : Int32) = nI (x / 256) := ush_nI (j := 8) (by omega) (by decide)
      have e2 : nI 31 + (-8 : Int32) = nI (31 - 8) := by decide
      rw [e1, e2]
      refine p48 m2 (x / 256, 31 - 8) (by show x / 256 < _; omega) ?_ (by show 6 ≤ 31 - 8; decide) (by show 31 - 8 < 100; decide) hn.symm
      unfold nl3 nl2
      split <;> (split <;> (simp only; omega))
  obtain ⟨k1, k2⟩ := h.by (Q := fun v s' => s' = σ ∧ v = some (.int (nI (nlN x)))) (fun m d => p_0_0 σ (nI x) ⟨fun _ => ⟨fun _ => st m d, fun c => absurd (nI_lt (b := 65536) hx (by decide)) c⟩, fun c => absurd (nI_lt (a := 0) h0 (by omega)) c⟩)
  cases k2
  refine ⟨k1, ?_⟩
  rw [z1, show (31 : Int32) = nI 31 by decide, nI_subI (by omega), show 31 - (31 - hiN x) = hiN x by omega]
def t1 (p : Int32 × Int32) : Int32 × Int32 := if p.1 ≤ 256 then p else (ush p.1 8, p.2 + 8)
def t2 (p : Int32 × Int32) : Int32 × Int32 := if p.1 ≤ 16 then p else (ush p.1 4, p.2 + 4)
def t3 (p : Int32 × Int32) : Int32 × Int32 := if p.1 ≤ 4 then p else (ush p.1 2, p.2 + 2)
def ntF (y : Int32) : Int32 := if 0 < y then (t3 (t2 (t1 (y, 1)))).2 + ush (t3 (t2 (t1 (y, 1)))).1 1 else y &&& 32
theorem nt_all : ∀ k, k < 16 → ntF (nI (2 ^ k - 1)) = nI k := by decide +kernel
theorem rc1 {n x : Nat} {w : Int32} {σ σ1 : Sg} (h : RCx PRG n 1 [.int (nI x)] σ (some (.int w)) σ1) (hx : x < 65536) (h0 : 0 < x) : σ1 = σ ∧ w = nI (loN x) := by
  obtain ⟨-, -, -, -, z5, z6, -⟩ := zr_is hx h0
  have ey : (nI x ^^^ (-1 : Int32)) &&& (nI x - (1 : Int32)) = nI (2 ^ loN x - 1) := by
    have hp : 2 ^ loN x ≤ 2 ^ 15 := Nat.pow_le_pow_right (by decide) (by omega)
    refine of_tn ?_ (by omega)
    rw [show ((nI x ^^^ (-1 : Int32)) &&& (nI x - (1 : Int32))).toBitVec.toNat = (nI x ^^^ (-1 : Int32)).toBitVec.toNat &&& (nI x - (1 : Int32)).toBitVec.toNat from BitVec.toNat_and _ _, show (nI x ^^^ (-1 : Int32)).toBitVec.toNat = (nI x).toBitVec.toNat ^^^ (-1 : Int32).toBitVec.toNat from BitVec.toNat_xor _ _, tnI (by omega), show (-1 : Int32).toBitVec.toNat = 4294967295 by decide, show nI x - (1 : Int32) = nI (x - 1) from nI_subI (b := 1) h0, tnI (by omega)]
    have : lwY x = 2 ^ loN x - 1 := by omega
    exact this
  have hle : (nI (2 ^ loN x - 1)) ≤ (65536 : Int32) := by
    have hp : 2 ^ loN x ≤ 2 ^ 15 := Nat.pow_le_pow_right (by decide) (by omega)
    exact (nI_leI (b := 65536) (by omega) (by decide)).mpr (by omega)
  have goal : ∀ m d, Pl PRG (m + 1) d 1 0 (lv_args 0 [.int (nI x)]) [] σ (fun v s' => s' = σ ∧ v = some (.int (ntF (nI (2 ^ loN x - 1))))) := by
    intro m d
    refine p_1_0 σ (nI x) ?_
    rw [ey]
    generalize nI (2 ^ loN x - 1) = y at hle
    refine ⟨fun c => ⟨fun _ => ?_, fun c2 => absurd hle c2⟩, fun c => ⟨rfl, by unfold ntF; rw [if_neg c]⟩⟩
    have hr : ntF y = (t3 (t2 (t1 (y, 1)))).2 + ush (t3 (t2 (t1 (y, 1)))).1 1 := if_pos c
    rw [hr]
    have p74 : ∀ m (p q : Int32 × Int32), p = q → Pl PRG m d 1 74 [(0, .int p.1), (1, .int p.2)] [] σ (fun v s' => s' = σ ∧ v = some (.int (q.2 + ush q.1 1))) := fun m p q e => Pl.pos (fun m2 _ => p_1_74 σ p.1 p.2 ⟨rfl, by rw [e]⟩)
    have p62 : ∀ m (p : Int32 × Int32), Pl PRG m d 1 62 [(0, .int p.1), (1, .int p.2)] [] σ (fun v s' => s' = σ ∧ v = some (.int ((t3 p).2 + ush (t3 p).1 1))) := fun m p => Pl.pos (fun m2 _ => p_1_62 σ p.1 p.2 ⟨fun c => p74 m2 p (t3 p) (if_pos c).symm, fun c => p74 m2 (ush p.1 2, p.2 + 2) (t3 p) (if_neg c).symm⟩)
    have p49 : ∀ m (p : Int32 × Int32), Pl PRG m d 1 49 [(0, .int p.1), (1, .int p.2)] [] σ (fun v s' => s' = σ ∧ v = some (.int ((t3 (t2 p)).2 + ush (t3 (t2 p)).1 1))) := fun m p => Pl.pos (fun m2 _ => p_1_49 σ p.1 p.2 ⟨fun c => by
      have := p62 m2 (t2 p)
      rw [show t2 p = p from if_pos c] at this ⊢
      exact this, fun c => by
      have := p62 m2 (t2 p)
      rw [show t2 p = (ush p.1 4, p.2 + 4) from if_neg c] at this ⊢
      exact this⟩)
    exact Pl.pos (fun m2 _ => p_1_34 σ y 1 ⟨fun c => by
      have := p49 m2 (t1 (y, 1))
      rw [show t1 (y, 1) = (y, 1) from if_pos c] at this ⊢
      exact this, fun c => by
      have := p49 m2 (t1 (y, 1))
      rw [show t1 (y, 1) = (ush y 8, 1 + 8) from if_neg c] at this ⊢
      exact this⟩)
  obtain ⟨k1, k2⟩ := h.by (Q := fun v s' => s' = σ ∧ v = some (.int (ntF (nI (2 ^ loN x - 1))))) goal
  cases k2
  exact ⟨k1, nt_all _ z5⟩
