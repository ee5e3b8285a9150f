/-! texts: letters, digits, names by twoK codes, tokens -/
def isLt (c : Int32) : Bool := !(decide (c < 97)) && !(decide (122 < c))
def isD (c : Int32) : Bool := !(decide (c < 48)) && !(decide (57 < c))
def isW (c : Int32) : Bool := decide (c = 9) || (decide (c = 10) || (decide (c = 13) || decide (c = 32)))
def lrun (p : Int32 → Bool) (b : Nat → Int32) : Nat → Nat → Nat
  | 0, _ => 0
  | k + 1, i => bif p (b i) then lrun p b k (i + 1) + 1 else 0
theorem lrun_of {p : Int32 → Bool} {b : Nat → Int32} {L : Nat} : ∀ (r s : Nat), (∀ k, k < r → p (b (s + k)) = true) → s + r ≤ L → ¬ (s + r < L ∧ p (b (s + r)) = true) → lrun p b (L - s) s = r := by
  intro r
  induction r with
  | zero =>
    intro s _ h2 h3
    cases hk : L - s with
    | zero => rfl
    | succ k =>
      have : p (b s) = false := by
        cases hp : p (b s) with
        | false => rfl
        | true => exact absurd ⟨by omega, hp⟩ h3
      unfold lrun
      rw [this]
      rfl
  | succ r ih =>
    intro s h1 h2 h3
    have hk : L - s = (L - (s + 1)) + 1 := by omega
    rw [hk]
    have h0 : p (b s) = true := h1 0 (by omega)
    unfold lrun
    rw [h0]
    have e : ∀ k, s + 1 + k = s + (k + 1) := fun k => by omega
    have := ih (s + 1) (fun k hk => by rw [e]; exact h1 (k + 1) (by omega)) (by omega) (by rw [e]; exact h3)
    rw [this]
    rfl
theorem lrun_is {p : Int32 → Bool} {b : Nat → Int32} {L : Nat} : ∀ (m s : Nat), L - s = m → s ≤ L → (∀ k, k < lrun p b m s → p (b (s + k)) = true) ∧ s + lrun p b m s ≤ L ∧ ¬ (s + lrun p b m s < L ∧ p (b (s + lrun p b m s)) = true) := by
  intro m
  induction m with
  | zero => intro s h hs; exact ⟨fun k hk => absurd hk (Nat.not_lt_zero _), by unfold lrun; omega, fun h2 => by unfold lrun at h2; omega⟩
  | succ m ih =>
    intro s h hs
    cases hp : p (b s) with
    | false =>
      have e : lrun p b (m + 1) s = 0 := by unfold lrun; rw [hp]; rfl
      rw [e]
      exact ⟨fun k hk => absurd hk (Nat.not_lt_zero _), by omega, fun h2 => by rw [Nat.add_zero, hp] at h2; cases h2.2⟩
    | true =>
      have e : lrun p b (m + 1) s = lrun p b m (s + 1) + 1 := by
        show (bif p (b s) then lrun p b m (s + 1) + 1 else 0) = _
        rw [hp]; rfl
      rw [e]
      obtain ⟨h1, h2, h3⟩ := ih (s + 1) (by omega) (by omega)
      have e2 : s + (lrun p b m (s + 1) + 1) = s + 1 + lrun p b m (s + 1) := by omega
      rw [e2]
      refine ⟨fun k hk => ?_, h2, h3⟩
      cases k with
      | zero => exact hp
      | succ k =>
        have := h1 k (by omega)
        rw [show s + 1 + k = s + (k + 1) by omega] at this
        exact this
def c32 (b : Nat → Int32) (s : Nat) : Nat → Int64
  | 0 => 0
  | k + 1 => c32 b s k * (Int64.ofNat 32) + ((b (s + k) - 97) + 1).toInt64
def c27 (b : Nat → Int32) (s : Nat) : Nat → Int64
  | 0 => 0
  | k + 1 => Int64.ofNat 27 * c27 b s k + ((b (s + k) - 97) + 1).toInt64
def num10 (b : Nat → Int32) (s : Nat) : Nat → Int32
  | 0 => 0
  | k + 1 => num10 b s k * 10 + (b (s + k) - 48)
def dg (c : Int32) : Nat := (c.toInt - 96).toNat
def eN (B : Nat) (b : Nat → Int32) (s : Nat) : Nat → Nat
  | 0 => 0
  | k + 1 => eN B b s k * B + dg (b (s + k))
theorem isL_rg {c : Int32} (h : isLt c = true) : 97 ≤ c.toInt ∧ c.toInt ≤ 122 := by
  unfold isLt at h
  simp only [Bool.and_eq_true, Bool.not_eq_true', decide_eq_false_iff_not] at h
  obtain ⟨h1, h2⟩ := h
  rw [Int32.lt_iff_toInt_lt] at h1 h2
  have k1 : (97 : Int32).toInt = 97 := by decide
  have k2 : (122 : Int32).toInt = 122 := by decide
  omega
theorem dg_rg {c : Int32} (h : isLt c = true) : 1 ≤ dg c ∧ dg c ≤ 26 := by
  have := isL_rg h
  unfold dg
  omega
theorem dg_l {c : Int32} (h : isLt c = true) : (((c - 97) + 1).toInt64).toInt = (dg c : Int) := by
  have hr := isL_rg h
  have k1 : (97 : Int32).toInt = 97 := by decide
  have k2 : (1 : Int32).toInt = 1 := by decide
  have e1 : (c - 97).toInt = c.toInt - 97 := by
    rw [sub_ex, k1]
    · unfold FL; omega
    · unfold FH; omega
  have e2 : ((c - 97) + 1).toInt = c.toInt - 97 + 1 := by
    rw [add_ex, e1, k2]
    · rw [e1, k2]; unfold FL; omega
    · rw [e1, k2]; unfold FH; omega
  rw [Int32.toInt_toInt64, e2]
  unfold dg
  omega
theorem l_mulI {x : Int64} {k : Nat} {m : Nat} (hk : k = 32 ∨ k = 27) (hx : x.toInt = (m : Int)) (hm : m < 1099511627776) : (x * Int64.ofNat k).toInt = ((m * k : Nat) : Int) := by
  have h3 : (Int64.ofNat k).toInt = (k : Int) := by rcases hk with rfl | rfl <;> decide
  rw [Int64.toInt_mul, hx, h3, Int.bmod_eq_of_le]
  · exact (Int.natCast_mul m k).symm
  · rcases hk with rfl | rfl <;> omega
  · rcases hk with rfl | rfl <;> omega
theorem l_addI {x y : Int64} {m k : Nat} (hx : x.toInt = (m : Int)) (hy : y.toInt = (k : Int)) (hm : m < 1099511627776 * 32) (hk : k < 100) : (x + y).toInt = ((m + k : Nat) : Int) := by
  rw [Int64.toInt_add, hx, hy, Int.bmod_eq_of_le]
  · exact (Int.natCast_add m k).symm
  · omega
  · omega
theorem eN_lt {B : Nat} {b : Nat → Int32} {s : Nat} (hB : 27 ≤ B) : ∀ n, (∀ k, k < n → isLt (b (s + k)) = true) → eN B b s n + 1 ≤ B ^ n := by
  intro n
  induction n with
  | zero => intro _; exact Nat.le_refl _
  | succ n ih =>
    intro h
    have h1 := ih (fun k hk => h k (by omega))
    have h2 := dg_rg (h n (by omega))
    have h3 := Nat.mul_le_mul_right B h1
    rw [Nat.add_mul] at h3
    have h4 : B ^ (n + 1) = B ^ n * B := Nat.pow_succ B n
    show eN B b s n * B + dg (b (s + n)) + 1 ≤ B ^ (n + 1)
    omega
theorem pw_le {B n : Nat} (hB : B = 32 ∨ B = 27) (hn : n ≤ 8) : B ^ n ≤ 1099511627776 := by
  refine Nat.le_trans (Nat.pow_le_pow_right (by omega) hn) ?_
  rcases hB with rfl | rfl <;> decide
theorem c32_N {b : Nat → Int32} {s : Nat} : ∀ n, n ≤ 8 → (∀ k, k < n → isLt (b (s + k)) = true) → (c32 b s n).toInt = (eN 32 b s n : Int) := by
  intro n
  induction n with
  | zero => intro _ _; show (0 : Int64).toInt = ((0 : Nat) : Int); decide
  | succ n ih =>
    intro hn h
    have h1 := ih (by omega) (fun k hk => h k (by omega))
    have h2 := dg_l (h n (by omega))
    have h3 := dg_rg (h n (by omega))
    have h4 := eN_lt (B := 32) (b := b) (s := s) (by omega) n (fun k hk => h k (by omega))
    have h5 := pw_le (B := 32) (n := n) (Or.inl rfl) (by omega)
    show (c32 b s n * (Int64.ofNat 32) + ((b (s + n) - 97) + 1).toInt64).toInt = ((eN 32 b s n * 32 + dg (b (s + n)) : Nat) : Int)
    exact l_addI (l_mulI (Or.inl rfl) h1 (by omega)) h2 (by omega) (by omega)
theorem c27_N {b : Nat → Int32} {s : Nat} : ∀ n, n ≤ 8 → (∀ k, k < n → isLt (b (s + k)) = true) → (c27 b s n).toInt = (eN 27 b s n : Int) := by
  intro n
  induction n with
  | zero => intro _ _; show (0 : Int64).toInt = ((0 : Nat) : Int); decide
  | succ n ih =>
    intro hn h
    have h1 := ih (by omega) (fun k hk => h k (by omega))
    have h2 := dg_l (h n (by omega))
    have h3 := dg_rg (h n (by omega))
    have h4 := eN_lt (B := 27) (b := b) (s := s) (by omega) n (fun k hk => h k (by omega))
    have h5 := pw_le (B := 27) (n := n) (Or.inr rfl) (by omega)
    show (Int64.ofNat 27 * c27 b s n + ((b (s + n) - 97) + 1).toInt64).toInt = ((eN 27 b s n * 27 + dg (b (s + n)) : Nat) : Int)
    rw [Int64.mul_comm]
    exact l_addI (l_mulI (Or.inr rfl) h1 (by omega)) h2 (by omega) (by omega)
theorem eN_inj {B : Nat} (hB : 27 ≤ B) {b b' : Nat → Int32} {s s' : Nat} : ∀ n n', (∀ k, k < n → isLt (b (s + k)) = true) → (∀ k, k < n' → isLt (b' (s' + k)) = true) → eN B b s n = eN B b' s' n' → n = n' ∧ ∀ k, k < n → dg (b (s + k)) = dg (b' (s' + k)) := by
  intro n
  induction n with
  | zero =>
    intro n' _ h2 h
    cases n' with
    | zero => exact ⟨rfl, fun k hk => absurd hk (Nat.not_lt_zero _)⟩
    | succ n' =>
      have := dg_rg (h2 n' (by omega))
      have h' : 0 = eN B b' s' n' * B + dg (b' (s' + n')) := h
      omega
  | succ n ih =>
    intro n' h1 h2 h
    have a1 := dg_rg (h1 n (by omega))
    cases n' with
    | zero =>
      have h' : eN B b s n * B + dg (b (s + n)) = 0 := h
      omega
    | succ n' =>
      have a2 := dg_rg (h2 n' (by omega))
      have h' : eN B b s n * B + dg (b (s + n)) = eN B b' s' n' * B + dg (b' (s' + n')) := h
      have hBp : 0 < B := by omega
      have m1 : (eN B b s n * B + dg (b (s + n))) % B = dg (b (s + n)) := by
        rw [Nat.mul_comm, Nat.mul_add_mod]; exact Nat.mod_eq_of_lt (by omega)
      have m2 : (eN B b' s' n' * B + dg (b' (s' + n'))) % B = dg (b' (s' + n')) := by
        rw [Nat.mul_comm, Nat.mul_add_mod]; exact Nat.mod_eq_of_lt (by omega)
      have hd : dg (b (s + n)) = dg (b' (s' + n')) := by rw [← m1, ← m2, h']
      have hq : eN B b s n = eN B b' s' n' := by
        have : eN B b s n * B = eN B b' s' n' * B := by omega
        exact Nat.eq_of_mul_eq_mul_right hBp this
      obtain ⟨e1, e2⟩ := ih n' (fun k hk => h1 k (by omega)) (fun k hk => h2 k (by omega)) hq
      subst e1
      refine ⟨rfl, fun k hk => ?_⟩
      rcases Nat.lt_or_ge k n with g | g
      · exact e2 k g
      · obtain rfl : k = n := by omega
        exact hd
theorem eN_congr {B : Nat} {b b' : Nat → Int32} {s s' : Nat} : ∀ n, (∀ k, k < n → dg (b (s + k)) = dg (b' (s' + k))) → eN B b s n = eN B b' s' n := by
  intro n
  induction n with
  | zero => intro _; rfl
  | succ n ih =>
    intro h
    show eN B b s n * B + dg (b (s + n)) = eN B b' s' n * B + dg (b' (s' + n))
    rw [ih (fun k hk => h k (by omega)), h n (by omega)]
/-- twoK names are the same by one code if they are so by the other -/
theorem c_iff {b b' : Nat → Int32} {s s' n n' : Nat} (hn : n ≤ 8) (hn' : n' ≤ 8) (h1 : ∀ k, k < n → isLt (b (s + k)) = true) (h2 : ∀ k, k < n' → isLt (b' (s' + k)) = true) : c32 b s n = c32 b' s' n' ↔ c27 b s n = c27 b' s' n' := by
  have i32 : c32 b s n = c32 b' s' n' ↔ eN 32 b s n = eN 32 b' s' n' := by
    rw [← Int64.toInt_inj, c32_N n hn h1, c32_N n' hn' h2]; exact Int.ofNat_inj
  have i27 : c27 b s n = c27 b' s' n' ↔ eN 27 b s n = eN 27 b' s' n' := by
    rw [← Int64.toInt_inj, c27_N n hn h1, c27_N n' hn' h2]; exact Int.ofNat_inj
  rw [i32, i27]
  constructor
  · intro h
    obtain ⟨rfl, h3⟩ := eN_inj (by omega) n n' h1 h2 h
    exact eN_congr n h3
  · intro h
    obtain ⟨rfl, h3⟩ := eN_inj (by omega) n n' h1 h2 h
    exact eN_congr n h3
/-! the words in quotes -/
def wdW : List (List Nat) := [[112, 97, 99, 107], [116, 114, 117, 109, 112], [99, 117, 115, 116, 111, 109], [108, 101, 97, 100], [102, 111, 108, 108, 111, 119], [100, 105, 115, 99, 97, 114, 100], [119, 104, 101, 110], [115, 97, 121, 115], [111, 114], [97, 110, 100], [110, 111, 116], [99, 111, 117, 110, 116], [115, 117, 105, 116], [114, 97, 110, 107], [108, 101, 100], [116, 114, 105, 99, 107], [98, 101, 102, 111, 114, 101], [104, 101, 108, 100], [104, 105, 103, 104], [108, 111, 119], [118, 111, 105, 100, 115], [116, 114, 117, 109, 112, 115]]
def wb (j : Nat) : Nat → Int32 := fun k => Int32.ofNat ((wdW.getD j []).getD k 0)
def wl (j : Nat) : Nat := (wdW.getD j []).length
def wdl : List Int64 := [525419, 21583280, 123326957, 398372, 217461239, 4616980036, 762030, 624435, 498, 1476, 14836, 3659220, 644404, 591307, 12452, 21570667, 72564293, 267652, 271592, 12791, 23569555, 690664979]
/-- in the class's order, in the reference's -/
def kyl : List Int64 := [315749, 10998790, 54595957, 239872, 94310429, 1688979766, 458690, 375400, 423, 1111, 10631, 1905275, 389549, 355412, 8887, 10989767, 31484543, 161437, 164222, 9176, 11993635, 296967349]
def kyR : List Int64 := [315749, 10998790, 54595957, 239872, 94310429, 1688979766, 458690, 375400, 423, 1111, 10631, 389549, 355412, 8887, 10989767, 31484543, 161437, 164222, 9176, 11993635, 296967349, 1905275]
theorem wd_32 : ∀ j, j < 22 → c32 (wb j) 0 (wl j) = wdl.getD j 0 := by decide +kernel
theorem wd_27 : ∀ j, j < 22 → c27 (wb j) 0 (wl j) = kyl.getD j 0 := by decide +kernel
theorem wd_L : ∀ j, j < 22 → wl j ≤ 7 ∧ ∀ k, k < wl j → isLt (wb j (0 + k)) = true := by decide +kernel
def kdx : List Int64 → Nat → Int64 → Nat
  | [], _, _ => 2
  | w :: l, j, x => if w = x then 15 + j else kdx l (j + 1) x
def kdm : List Int64 → Nat → Int64 → Nat → Nat
  | [], _, _, c => c
  | w :: l, k, x, c => kdm l (k + 1) x (if w = x then 20 + k else c)
def kd32 (x : Int64) : Nat := kdx wdl 0 x
/-- a kind of token of the class, of the reference -/
def rkl : List Nat := [0, 3, 1, 2, 4, 8, 9, 10, 15, 11, 12, 13, 14, 6, 7, 20, 21, 22, 23, 24, 25, 26, 27, 28, 29, 30, 41, 31, 32, 33, 34, 35, 36, 37, 38, 39, 40]
def rk (k : Nat) : Nat := rkl.getD k 99
theorem kdx_none {x : Int64} : ∀ (l : List Int64) (j : Nat), (∀ w ∈ l, ¬ w = x) → kdx l j x = 2 := by
  intro l
  induction l with
  | nil => intro j _; rfl
  | cons w l ih =>
    intro j h
    unfold kdx
    rw [if_neg (h w List.mem_cons_self)]
    exact ih _ (fun w' hw => h w' (List.mem_cons_of_mem _ hw))
theorem kdm_none {x : Int64} : ∀ (l : List Int64) (j c : Nat), (∀ w ∈ l, ¬ w = x) → kdm l j x c = c := by
  intro l
  induction l with
  | nil => intro j c _; rfl
  | cons w l ih =>
    intro j c h
    unfold kdm
    rw [if_neg (h w List.mem_cons_self)]
    exact ih _ _ (fun w' hw => h w' (List.mem_cons_of_mem _ hw))
theorem kd_all : ∀ j, j < 22 → rk (kd32 (wdl.getD j 0)) = kdm kyR 0 (kyl.getD j 0) 1 := by decide +kernel
theorem ky_perm : ∀ w ∈ kyR, ∃ j, j < 22 ∧ kyl.getD j 0 = w := by decide +kernel
theorem wdl_mem : ∀ w ∈ wdl, ∃ j, j < 22 ∧ wdl.getD j 0 = w := by decide +kernel
theorem kdx_le : ∀ (l : List Int64) (j : Nat) (x : Int64), kdx l j x ≤ 15 + j + l.length := by
  intro l
  induction l with
  | nil => intro j x; unfold kdx; omega
  | cons w l ih =>
    intro j x
    unfold kdx
    split
    · omega
    · have := ih (j + 1) x
      rw [List.length_cons]
      omega
theorem kdx_ge : ∀ (l : List Int64) (j : Nat) (x : Int64), 2 ≤ kdx l j x := by
  intro l
  induction l with
  | nil => intro j x; exact Nat.le_refl _
  | cons w l ih =>
    intro j x
    unfold kdx
    split
    · omega
    · exact ih _ _
theorem kd_name {b : Nat → Int32} {s n : Nat} (hn : n ≤ 8) (h : ∀ k, k < n → isLt (b (s + k)) = true) : rk (kd32 (c32 b s n)) = kdm kyR 0 (c27 b s n) 1 := by
  by_cases hj : ∃ j, j < 22 ∧ wdl.getD j 0 = c32 b s n
  · obtain ⟨j, h1, h2⟩ := hj
    have hL := wd_L j h1
    have h3 : c27 (wb j) 0 (wl j) = c27 b s n := (c_iff (by omega) hn hL.2 h).mp (by rw [wd_32 j h1, h2])
    rw [wd_27 j h1] at h3
    rw [← h2, ← h3]
    exact kd_all j h1
  · have n1 : kd32 (c32 b s n) = 2 := kdx_none wdl 0 (fun w hw e => by
      obtain ⟨j, h1, h2⟩ := wdl_mem w hw
      exact hj ⟨j, h1, by rw [h2, e]⟩)
    have n2 : kdm kyR 0 (c27 b s n) 1 = 1 := kdm_none kyR 0 1 (fun w hw e => by
      obtain ⟨j, h1, h2⟩ := ky_perm w hw
      have hL := wd_L j h1
      refine hj ⟨j, h1, ?_⟩
      rw [← wd_32 j h1]
      exact (c_iff (by omega) hn hL.2 h).mpr (by rw [wd_27 j h1, h2, e]))
    rw [n1, n2]
    rfl
theorem kd_8 {b : Nat → Int32} {s : Nat} (h : ∀ k, k < 8 → isLt (b (s + k)) = true) : rk (kd32 (c32 b s 8)) = 1 := by
  have n1 : kd32 (c32 b s 8) = 2 := kdx_none wdl 0 (fun w hw e => by
    obtain ⟨j, h1, h2⟩ := wdl_mem w hw
    have hL := wd_L j h1
    have h3 : c32 (wb j) 0 (wl j) = c32 b s 8 := by rw [wd_32 j h1, h2, e]
    have h4 : eN 32 (wb j) 0 (wl j) = eN 32 b s 8 := by
      have h5 := congrArg Int64.toInt h3
      rw [c32_N _ (by omega) hL.2, c32_N 8 (by omega) h] at h5
      exact Int.ofNat_inj.mp h5
    have := (eN_inj (by omega) (wl j) 8 hL.2 h h4).1
    omega)
  rw [n1]
  rfl
/-! tokens: kind (as the class counts), place, number, name by twoK codes -/
abbrev Tk : Type := Nat × Nat × Int32 × Int64 × Int64
def sgk (c : Int32) (eq : Bool) : Nat := if c = 59 then 4 else if c = 43 then 5 else if c = 45 then 6 else if c = 42 then 7 else if c = 47 then 8 else if c = 40 then 13 else if c = 41 then 14 else if c = 60 then (if eq then 12 else 11) else if c = 61 then (if eq then 9 else 1) else if c = 33 then (if eq then 10 else 1) else 1
def twoK (k : Nat) : Bool := decide (k = 9) || (decide (k = 10) || decide (k = 12))
def tk1 (b : Nat → Int32) (L i : Nat) : Tk × Nat :=
  if isLt (b i) then (let n := lrun isLt b (L - i) i; if n ≤ 8 then ((kd32 (c32 b i n), i, 0, c32 b i n, c27 b i n), i + n) else ((1, i, 0, 0, 0), i + n))
  else if isD (b i) then (let n := lrun isD b (L - i) i; if n ≤ 4 then ((3, i, num10 b i n, 0, 0), i + n) else ((1, i, 0, 0, 0), i + n))
  else let k := sgk (b i) (decide (i + 1 < L) && decide (b (i + 1) = 61)); ((k, i, 0, 0, 0), if twoK k then i + 2 else i + 1)
def toks (b : Nat → Int32) (L : Nat) : Nat → Nat → List Tk
  | 0, _ => []
  | f + 1, i => if L ≤ i then [(0, L, 0, 0, 0)] else if isW (b i) then toks b L f (i + 1) else (tk1 b L i).1 :: toks b L f (tk1 b L i).2
