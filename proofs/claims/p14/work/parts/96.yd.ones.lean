/-! the number of ones -/
set_option maxRecDepth 100000 in
theorem p_2_0 {n d : Nat} {Q : Option Value → Sg → Prop} (σ : Sg) (x0 : Int32) (h : Q (some (.int ((((((((x0 - ((ush x0 (1 : Int32)) &&& (1431655765 : Int32))) &&& (858993459 : Int32)) + ((ush (x0 - ((ush x0 (1 : Int32)) &&& (1431655765 : Int32))) (2 : Int32)) &&& (858993459 : Int32))) + (ush (((x0 - ((ush x0 (1 : Int32)) &&& (1431655765 : Int32))) &&& (858993459 : Int32)) + ((ush (x0 - ((ush x0 (1 : Int32)) &&& (1431655765 : Int32))) (2 : Int32)) &&& (858993459 : Int32))) (4 : Int32))) &&& (252645135 : Int32)) + (ush (((((x0 - ((ush x0 (1 : Int32)) &&& (1431655765 : Int32))) &&& (858993459 : Int32)) + ((ush (x0 - ((ush x0 (1 : Int32)) &&& (1431655765 : Int32))) (2 : Int32)) &&& (858993459 : Int32))) + (ush (((x0 - ((ush x0 (1 : Int32)) &&& (1431655765 : Int32))) &&& (858993459 : Int32)) + ((ush (x0 - ((ush x0 (1 : Int32)) &&& (1431655765 : Int32))) (2 : Int32)) &&& (858993459 : Int32))) (4 : Int32))) &&& (252645135 : Int32)) (8 : Int32))) + (ush ((((((x0 - ((ush x0 (1 : Int32)) &&& (1431655765 : Int32))) &&& (858993459 : Int32)) + ((ush (x0 - ((ush x0 (1 : Int32)) &&& (1431655765 : Int32))) (2 : Int32)) &&& (858993459 : Int32))) + (ush (((x0 - ((ush x0 (1 : Int32)) &&& (1431655765 : Int32))) &&& (858993459 : Int32)) + ((ush (x0 - ((ush x0 (1 : Int32)) &&& (1431655765 : Int32))) (2 : Int32)) &&& (858993459 : Int32))) (4 : Int32))) &&& (252645135 : Int32)) + (ush (((((x0 - ((ush x0 (1 : Int32)) &&& (1431655765 : Int32))) &&& (858993459 : Int32)) + ((ush (x0 - ((ush x0 (1 : Int32)) &&& (1431655765 : Int32))) (2 : Int32)) &&& (858993459 : Int32))) + (ush (((x0 - ((ush x0 (1 : Int32)) &&& (1431655765 : Int32))) &&& (858993459 : Int32)) + ((ush (x0 - ((ush x0 (1 : Int32)) &&& (1431655765 : Int32))) (2 : Int32)) &&& (858993459 : Int32))) (4 : Int32))) &&& (252645135 : Int32)) (8 : Int32))) (16 : Int32))) &&& (63 : Int32)))) σ) : Pl PRG (n + 1) d 2 0 [(0, .int x0)] [] σ Q := by
  have hM : PRG[2]? = some M_2 := rfl
  refine Pl.sg1 (pc' := 52) (ls' := [(0, .int (((((((x0 - ((ush x0 (1 : Int32)) &&& (1431655765 : Int32))) &&& (858993459 : Int32)) + ((ush (x0 - ((ush x0 (1 : Int32)) &&& (1431655765 : Int32))) (2 : Int32)) &&& (858993459 : Int32))) + (ush (((x0 - ((ush x0 (1 : Int32)) &&& (1431655765 : Int32))) &&& (858993459 : Int32)) + ((ush (x0 - ((ush x0 (1 : Int32)) &&& (1431655765 : Int32))) (2 : Int32)) &&& (858993459 : Int32))) (4 : Int32))) &&& (252645135 : Int32)) + (ush (((((x0 - ((ush x0 (1 : Int32)) &&& (1431655765 : Int32))) &&& (858993459 : Int32)) + ((ush (x0 - ((ush x0 (1 : Int32)) &&& (1431655765 : Int32))) (2 : Int32)) &&& (858993459 : Int32))) + (ush (((x0 - ((ush x0 (1 : Int32)) &&& (1431655765 : Int32))) &&& (858993459 : Int32)) + ((ush (x0 - ((ush x0 (1 : Int32)) &&& (1431655765 : Int32))) (2 : Int32)) &&& (858993459 : Int32))) (4 : Int32))) &&& (252645135 : Int32)) (8 : Int32))) + (ush ((((((x0 - ((ush x0 (1 : Int32)) &&& (1431655765 : Int32))) &&& (858993459 : Int32)) + ((ush (x0 - ((ush x0 (1 : Int32)) &&& (1431655765 : Int32))) (2 : Int32)) &&& (858993459 : Int32))) + (ush (((x0 - ((ush x0 (1 : Int32)) &&& (1431655765 : Int32))) &&& (858993459 : Int32)) + ((ush (x0 - ((ush x0 (1 : Int32)) &&& (1431655765 : Int32))) (2 : Int32)) &&& (858993459 : Int32))) (4 : Int32))) &&& (252645135 : Int32)) + (ush (((((x0 - ((ush x0 (1 : Int32)) &&& (1431655765 : Int32))) &&& (858993459 : Int32)) + ((ush (x0 - ((ush x0 (1 : Int32)) &&& (1431655765 : Int32))) (2 : Int32)) &&& (858993459 : Int32))) + (ush (((x0 - ((ush x0 (1 : Int32)) &&& (1431655765 : Int32))) &&& (858993459 : Int32)) + ((ush (x0 - ((ush x0 (1 : Int32)) &&& (1431655765 : Int32))) (2 : Int32)) &&& (858993459 : Int32))) (4 : Int32))) &&& (252645135 : Int32)) (8 : Int32))) (16 : Int32))))]) (st' := [.int ((((((((x0 - ((ush x0 (1 : Int32)) &&& (1431655765 : Int32))) &&& (858993459 : Int32)) + ((ush (x0 - ((ush x0 (1 : Int32)) &&& (1431655765 : Int32))) (2 : Int32)) &&& (858993459 : Int32))) + (ush (((x0 - ((ush x0 (1 : Int32)) &&& (1431655765 : Int32))) &&& (858993459 : Int32)) + ((ush (x0 - ((ush x0 (1 : Int32)) &&& (1431655765 : Int32))) (2 : Int32)) &&& (858993459 : Int32))) (4 : Int32))) &&& (252645135 : Int32)) + (ush (((((x0 - ((ush x0 (1 : Int32)) &&& (1431655765 : Int32))) &&& (858993459 : Int32)) + ((ush (x0 - ((ush x0 (1 : Int32)) &&& (1431655765 : Int32))) (2 : Int32)) &&& (858993459 : Int32))) + (ush (((x0 - ((ush x0 (1 : Int32)) &&& (1431655765 : Int32))) &&& (858993459 : Int32)) + ((ush (x0 - ((ush x0 (1 : Int32)) &&& (1431655765 : Int32))) (2 : Int32)) &&& (858993459 : Int32))) (4 : Int32))) &&& (252645135 : Int32)) (8 : Int32))) + (ush ((((((x0 - ((ush x0 (1 : Int32)) &&& (1431655765 : Int32))) &&& (858993459 : Int32)) + ((ush (x0 - ((ush x0 (1 : Int32)) &&& (1431655765 : Int32))) (2 : Int32)) &&& (858993459 : Int32))) + (ush (((x0 - ((ush x0 (1 : Int32)) &&& (1431655765 : Int32))) &&& (858993459 : Int32)) + ((ush (x0 - ((ush x0 (1 : Int32)) &&& (1431655765 : Int32))) (2 : Int32)) &&& (858993459 : Int32))) (4 : Int32))) &&& (252645135 : Int32)) + (ush (((((x0 - ((ush x0 (1 : Int32)) &&& (1431655765 : Int32))) &&& (858993459 : Int32)) + ((ush (x0 - ((ush x0 (1 : Int32)) &&& (1431655765 : Int32))) (2 : Int32)) &&& (858993459 : Int32))) + (ush (((x0 - ((ush x0 (1 : Int32)) &&& (1431655765 : Int32))) &&& (858993459 : Int32)) + ((ush (x0 - ((ush x0 (1 : Int32)) &&& (1431655765 : Int32))) (2 : Int32)) &&& (858993459 : Int32))) (4 : Int32))) &&& (252645135 : Int32)) (8 : Int32))) (16 : Int32))) &&& (63 : Int32))]) (σ' := σ) hM 40 rfl ?_
  refine Pl.weak (Pl.ret hM rfl rfl h)
def bcF (x0 : Int32) : Int32 := ((((((((x0 - ((ush x0 (1 : Int32)) &&& (1431655765 : Int32))) &&& (858993459 : Int32)) + ((ush (x0 - ((ush x0 (1 : Int32)) &&& (1431655765 : Int32))) (2 : Int32)) &&& (858993459 : Int32))) + (ush (((x0 - ((ush x0 (1 : Int32)) &&& (1431655765 : Int32))) &&& (858993459 : Int32)) + ((ush (x0 - ((ush x0 (1 : Int32)) &&& (1431655765 : Int32))) (2 : Int32)) &&& (858993459 : Int32))) (4 : Int32))) &&& (252645135 : Int32)) + (ush (((((x0 - ((ush x0 (1 : Int32)) &&& (1431655765 : Int32))) &&& (858993459 : Int32)) + ((ush (x0 - ((ush x0 (1 : Int32)) &&& (1431655765 : Int32))) (2 : Int32)) &&& (858993459 : Int32))) + (ush (((x0 - ((ush x0 (1 : Int32)) &&& (1431655765 : Int32))) &&& (858993459 : Int32)) + ((ush (x0 - ((ush x0 (1 : Int32)) &&& (1431655765 : Int32))) (2 : Int32)) &&& (858993459 : Int32))) (4 : Int32))) &&& (252645135 : Int32)) (8 : Int32))) + (ush ((((((x0 - ((ush x0 (1 : Int32)) &&& (1431655765 : Int32))) &&& (858993459 : Int32)) + ((ush (x0 - ((ush x0 (1 : Int32)) &&& (1431655765 : Int32))) (2 : Int32)) &&& (858993459 : Int32))) + (ush (((x0 - ((ush x0 (1 : Int32)) &&& (1431655765 : Int32))) &&& (858993459 : Int32)) + ((ush (x0 - ((ush x0 (1 : Int32)) &&& (1431655765 : Int32))) (2 : Int32)) &&& (858993459 : Int32))) (4 : Int32))) &&& (252645135 : Int32)) + (ush (((((x0 - ((ush x0 (1 : Int32)) &&& (1431655765 : Int32))) &&& (858993459 : Int32)) + ((ush (x0 - ((ush x0 (1 : Int32)) &&& (1431655765 : Int32))) (2 : Int32)) &&& (858993459 : Int32))) + (ush (((x0 - ((ush x0 (1 : Int32)) &&& (1431655765 : Int32))) &&& (858993459 : Int32)) + ((ush (x0 - ((ush x0 (1 : Int32)) &&& (1431655765 : Int32))) (2 : Int32)) &&& (858993459 : Int32))) (4 : Int32))) &&& (252645135 : Int32)) (8 : Int32))) (16 : Int32))) &&& (63 : Int32))
def frc (n : Nat) (f : Nat → Nat) : Nat := Nat.rec (f 0) (fun k _ => f (k + 1)) n
def frcB (n : Nat) (f : Nat → Bool) : Bool := Nat.rec (f 0) (fun k _ => f (k + 1)) n
theorem frc_eq (n : Nat) (f : Nat → Nat) : frc n f = f n := by cases n <;> rfl
theorem frcB_eq (n : Nat) (f : Nat → Bool) : frcB n f = f n := by cases n <;> rfl
def bcN (n : Nat) : Nat := frc ((4294967296 - (n / 2 &&& 1431655765) + n) % 4294967296) (fun a => frc (((a &&& 858993459) + (a / 4 &&& 858993459)) % 4294967296) (fun b => frc (((b + b / 16) % 4294967296) &&& 252645135) (fun c => frc ((c + c / 256) % 4294967296) (fun d => frc ((d + d / 65536) % 4294967296) (fun e => e &&& 63)))))
def poN (n : Nat) : Nat → Nat
  | 0 => 0
  | k + 1 => poN n k + n / 2 ^ k % 2
def bp (n : Nat) : Bool := frcB n (fun n => Nat.beq (bcN n) (n / 1 % 2 + n / 2 % 2 + n / 4 % 2 + n / 8 % 2 + n / 16 % 2 + n / 32 % 2 + n / 64 % 2 + n / 128 % 2 + n / 256 % 2 + n / 512 % 2 + n / 1024 % 2 + n / 2048 % 2 + n / 4096 % 2 + n / 8192 % 2 + n / 16384 % 2 + n / 32768 % 2))
def bpq (q : Nat) : Bool := (List.range 64).all (fun h => (List.range 64).all (fun l => bp (4096 * q + (64 * h + l))))
set_option maxRecDepth 100000 in
theorem bpq_0 : bpq 0 = true := by decide +kernel
set_option maxRecDepth 100000 in
theorem bpq_1 : bpq 1 = true := by decide +kernel
set_option maxRecDepth 100000 in
theorem bpq_2 : bpq 2 = true := by decide +kernel
set_option maxRecDepth 100000 in
theorem bpq_3 : bpq 3 = true := by decide +kernel
set_option maxRecDepth 100000 in
theorem bpq_4 : bpq 4 = true := by decide +kernel
set_option maxRecDepth 100000 in
theorem bpq_5 : bpq 5 = true := by decide +kernel
set_option maxRecDepth 100000 in
theorem bpq_6 : bpq 6 = true := by decide +kernel
set_option maxRecDepth 100000 in
theorem bpq_7 : bpq 7 = true := by decide +kernel
set_option maxRecDepth 100000 in
theorem bpq_8 : bpq 8 = true := by decide +kernel
set_option maxRecDepth 100000 in
theorem bpq_9 : bpq 9 = true := by decide +kernel
set_option maxRecDepth 100000 in
theorem bpq_10 : bpq 10 = true := by decide +kernel
set_option maxRecDepth 100000 in
theorem bpq_11 : bpq 11 = true := by decide +kernel
set_option maxRecDepth 100000 in
theorem bpq_12 : bpq 12 = true := by decide +kernel
set_option maxRecDepth 100000 in
theorem bpq_13 : bpq 13 = true := by decide +kernel
set_option maxRecDepth 100000 in
theorem bpq_14 : bpq 14 = true := by decide +kernel
set_option maxRecDepth 100000 in
theorem bpq_15 : bpq 15 = true := by decide +kernel
theorem bc_po {n : Nat} (h : n < 65536) : bcN n = poN n 16 := by
  have hq : ∀ q, q < 16 → bpq q = true := by
    intro q hq
    rcases (show q = 0 ∨ q = 1 ∨ q = 2 ∨ q = 3 ∨ q = 4 ∨ q = 5 ∨ q = 6 ∨ q = 7 ∨ q = 8 ∨ q = 9 ∨ q = 10 ∨ q = 11 ∨ q = 12 ∨ q = 13 ∨ q = 14 ∨ q = 15 by omega) with rfl | rfl | rfl | rfl | rfl | rfl | rfl | rfl | rfl | rfl | rfl | rfl | rfl | rfl | rfl | rfl
    · exact bpq_0
    · exact bpq_1
    · exact bpq_2
    · exact bpq_3
    · exact bpq_4
    · exact bpq_5
    · exact bpq_6
    · exact bpq_7
    · exact bpq_8
    · exact bpq_9
    · exact bpq_10
    · exact bpq_11
    · exact bpq_12
    · exact bpq_13
    · exact bpq_14
    · exact bpq_15
  have key := List.all_eq_true.mp (List.all_eq_true.mp (hq (n / 4096) (by omega)) (n % 4096 / 64) (List.mem_range.mpr (by omega))) (n % 64) (List.mem_range.mpr (by omega))
  rw [show 4096 * (n / 4096) + (64 * (n % 4096 / 64) + n % 64) = n by omega] at key
  unfold bp at key
  rw [frcB_eq] at key
  have key := Nat.eq_of_beq_eq_true key
  rw [key]
  show _ = 0 + _ + _ + _ + _ + _ + _ + _ + _ + _ + _ + _ + _ + _ + _ + _ + _
  rw [Nat.zero_add]
theorem bcF_N (x : Int32) : (bcF x).toBitVec.toNat = bcN x.toBitVec.toNat := by
  have u : ∀ (y k : Int32) (j : Nat), k.toInt = (j : Int) → j < 32 → (ush y k).toBitVec.toNat = y.toBitVec.toNat / 2 ^ j := fun y k j h1 h2 => ushr_ex h1 h2
  have ad : ∀ y z : Int32, (y + z).toBitVec.toNat = (y.toBitVec.toNat + z.toBitVec.toNat) % 4294967296 := fun y z => BitVec.toNat_add _ _
  have su : ∀ y z : Int32, (y - z).toBitVec.toNat = (4294967296 - z.toBitVec.toNat + y.toBitVec.toNat) % 4294967296 := fun y z => BitVec.toNat_sub _ _
  have an : ∀ y z : Int32, (y &&& z).toBitVec.toNat = y.toBitVec.toNat &&& z.toBitVec.toNat := fun y z => BitVec.toNat_and _ _
  unfold bcF bcN
  rw [frc_eq, frc_eq, frc_eq, frc_eq, frc_eq]
  simp only [an, ad, su, u _ 1 1 (by decide) (by decide), u _ 2 2 (by decide) (by decide), u _ 4 4 (by decide) (by decide), u _ 8 8 (by decide) (by decide), u _ 16 16 (by decide) (by decide)]
  rfl
theorem poF_N {x : Int32} : ∀ k, k ≤ 16 → poF x k = nI (poN x.toBitVec.toNat k) := by
  intro k
  induction k with
  | zero => intro _; rfl
  | succ k ih =>
    intro hk
    have e : (x >>> (nI k &&& 31)) &&& 1 = if bt x k then 1 else 0 := shr_bt (nI_toInt (by omega)) (by omega)
    show poF x k + _ = nI (poN _ k + _)
    rw [e, ih (by omega), bt_nat, Nat.testBit_eq_decide_div_mod_eq]
    have h2 := Nat.mod_lt (x.toBitVec.toNat / 2 ^ k) (show 0 < 2 by decide)
    rcases (show x.toBitVec.toNat / 2 ^ k % 2 = 0 ∨ x.toBitVec.toNat / 2 ^ k % 2 = 1 by omega) with z | z
    · rw [z]; exact Int32.add_zero _
    · rw [z]; exact nI_1 _
theorem poN_le (n : Nat) : ∀ k, poN n k ≤ k := by
  intro k
  induction k with
  | zero => exact Nat.le_refl _
  | succ k ih =>
    have h2 := Nat.mod_lt (n / 2 ^ k) (show 0 < 2 by decide)
    show poN n k + n / 2 ^ k % 2 ≤ k + 1
    omega
theorem bcF_po {x : Int32} (h0 : 0 ≤ x.toInt) (h1 : x.toInt < 65536) : bcF x = poF x 16 := by
  obtain ⟨e1, e2⟩ := tn_nn h0
  have hlt : x.toBitVec.toNat < 65536 := by omega
  have key := bc_po hlt
  have hle := poN_le x.toBitVec.toNat 16
  rw [poF_N 16 (Nat.le_refl _)]
  apply i_nI _ (by omega)
  rw [tn_of (by rw [bcF_N, key]; omega), bcF_N, key]
theorem rc2 {n : Nat} {x w : Int32} {σ σ1 : Sg} (h : RCx PRG n 2 [.int x] σ (some (.int w)) σ1) : σ1 = σ ∧ w = bcF x := by
  obtain ⟨a, b⟩ := h.by (Q := fun v s' => s' = σ ∧ v = some (.int (bcF x))) (fun n d => p_2_0 σ x ⟨rfl, rfl⟩)
  cases b
  exact ⟨a, rfl⟩
/-- a set of cards of the pack -/
theorem sub_all {N : Nat} (hN : N ≤ 16) {x : Int32} : x &&& ((((1 : Int32) <<< (nI N &&& 31)) - 1) ^^^ (-1)) = 0 ↔ (¬ x < 0 ∧ ¬ (((1 : Int32) <<< (nI N &&& 31)) - 1) < x) := by
  have all : ∀ N, N ≤ 16 → ((1 : Int32) <<< (nI N &&& 31)) - 1 = nI (2 ^ N - 1) := by decide
  have hp : 2 ^ N ≤ 2 ^ 16 := Nat.pow_le_pow_right (by omega) hN
  have hp0 : 0 < 2 ^ N := Nat.pow_pos (by decide)
  rw [all N hN]
  have bb : ∀ i, i < 32 → bt (nI (2 ^ N - 1)) i = decide (i < N) := by
    intro i hi
    have e : (nI (2 ^ N - 1)).toBitVec.toNat = 2 ^ N - 1 := by
      have h1 := nI_toInt (n := 2 ^ N - 1) (by omega)
      have h2 := tn_nn (x := nI (2 ^ N - 1)) (by omega)
      omega
    rw [bt_nat, e, Nat.testBit_two_pow_sub_one]
  constructor
  · intro h
    have hz : ∀ i, N ≤ i → i < 32 → bt x i = false := by
      intro i h1 h2
      have := congrArg (fun y => bt y i) h
      simp only [bt_and, bt_not _ h2, bb i h2, bt_0] at this
      rw [decide_eq_false (by omega)] at this
      simpa using this
    obtain ⟨a, b⟩ := lt_bt (k := N) (by omega) hz
    refine ⟨fun c => ?_, fun c => ?_⟩
    · rw [Int32.lt_iff_toInt_lt] at c
      have : (0 : Int32).toInt = 0 := rfl
      omega
    · rw [Int32.lt_iff_toInt_lt, nI_toInt (by omega)] at c
      have b2 : x.toInt < ((2 ^ N : Nat) : Int) := by exact_mod_cast b
      omega
  · intro ⟨h1, h2⟩
    rw [Int32.lt_iff_toInt_lt] at h1
    rw [Int32.lt_iff_toInt_lt, nI_toInt (by omega)] at h2
    have : (0 : Int32).toInt = 0 := rfl
    apply bt_ext
    intro i hi
    rw [bt_and, bt_not _ hi, bb i hi, bt_0]
    by_cases c : i < N
    · rw [decide_eq_true c]; simp
    · have b2 : x.toInt < 2 ^ N := by
        have : x.toInt < ((2 ^ N : Nat) : Int) := by omega
        exact_mod_cast this
      rw [bt_lt (k := N) (by omega) (by omega) b2 (by omega)]
      rfl
