/-! a game told by its cards: what both sides answer of it -/
section Lean5
variable {P : List MI} {M : MI} {n d mi pc : Nat} {ls : Lcl} {σ : Sg} {Q : Option Value → Sg → Prop}
theorem Pl.aald5 {i : Int32} {q : Nat} {fs : List (Nat × Nat)} {ex : List Nat} {r : List Value} (hM : P[mi]? = some M) (hen : M.2.2.2.2.lookup pc = some (.aaload, 1, ex)) (hk : knd q = some (5, 2, fs)) (h0 : i = 0 → Pl P n d mi (pc + 1) ls (.ref (tg q 0) :: r) σ Q) (h1 : i = 1 → Pl P n d mi (pc + 1) ls (.ref (tg q 1) :: r) σ Q) : Pl P (n + 1) d mi pc ls (.int i :: .ref q :: r) σ Q := by
  refine Pl.any hM hen (fun r' h' => ?_)
  by_cases hi : inR i 2 = true
  · have : hpI .aaload ex (.int i :: .ref q :: r) σ = some (.ref (tg q i.toNatClampNeg) :: r, σ) := by
      simp only [hpI, ldA, hk, hi, and_self, if_true, Option.some_or]
    simp only [stp, pureI, this] at h'
    cases h'
    obtain ⟨a, b⟩ := inR_lo hi
    have e : i = 0 ∨ i = 1 := by
      rcases (show i.toInt = 0 ∨ i.toInt = 1 by omega) with z | z
      · exact Or.inl (Int32.toInt_inj.mp z)
      · exact Or.inr (Int32.toInt_inj.mp z)
    rcases e with rfl | rfl
    · exact h0 rfl
    · exact h1 rfl
  · have : hpI .aaload ex (.int i :: .ref q :: r) σ = none := by
      have n6 : ¬ (5 : Nat) = 6 := by decide
      have n7 : ¬ (5 : Nat) = 7 := by decide
      simp only [hpI, ldA, hk, hi, and_false, Bool.false_eq_true, if_false, n6, n7, false_and, Option.none_or]
    simp only [stp, pureI, this, brI, caI, rtI] at h'
    cases h'
end Lean5
theorem nI_div {a b : Nat} (hb : 0 < b) (ha : a < 2 ^ 31) (hb2 : b < 2 ^ 31) : nI a / nI b = nI (a / b) := by
  apply Int32.toInt_inj.mp
  have hle := Nat.div_le_self a b
  rw [div_ex (by rw [nI_toInt hb2]; omega), nI_toInt ha, nI_toInt hb2, nI_toInt (by omega), Int.tdiv_eq_ediv_of_nonneg (by omega)]
  rfl
theorem nI_rem {a b : Nat} (hb : 0 < b) (ha : a < 2 ^ 31) (hb2 : b < 2 ^ 31) : nI a - nI a / nI b * nI b = nI (a % b) := by
  apply Int32.toInt_inj.mp
  have hle := Nat.mod_le a b
  rw [rem_ex (by rw [nI_toInt hb2]; omega), nI_toInt ha, nI_toInt hb2, nI_toInt (by omega), Int.tmod_eq_emod_of_nonneg (by omega)]
  rfl
theorem nI_4 : (4 : Int32) = nI 4 := by decide
theorem div_4 {a : Nat} (ha : a < 2 ^ 31) : nI a / (4 : Int32) = nI (a / 4) := by
  rw [nI_4]; exact nI_div (by decide) ha (by decide)
theorem rem_4 {a : Nat} (ha : a < 2 ^ 31) : nI a - nI a / (4 : Int32) * (4 : Int32) = nI (a % 4) := by
  rw [nI_4]; exact nI_rem (by decide) ha (by decide)
theorem nI_mulI {a b : Nat} (h : a * b < 2 ^ 31) (ha : a < 2 ^ 31) (hb : b < 2 ^ 31) : nI a * nI b = nI (a * b) := by
  apply Int32.toInt_inj.mp
  have e : (nI a).toInt * (nI b).toInt = ((a * b : Nat) : Int) := by
    rw [nI_toInt ha, nI_toInt hb]; rfl
  rw [mul_ex (by rw [e]; unfold FL; omega) (by rw [e]; unfold FH; omega), e, nI_toInt h]
def suF (r : Nat) (c : Int32) : Int32 := c / nI r
def rkG (r : Nat) (c : Int32) : Int32 := c - c / nI r * nI r
def scF (s r : Nat) (u : Int32) : Int32 := if 0 ≤ u ∧ u < nI s then (((1 : Int32) <<< (nI r &&& 31)) - 1) <<< ((u * nI r) &&& 31) else 0
def bxF (r : Nat) (t c l : Int32) : Bool := if suF r c = suF r l then decide (l < c) else decide (suF r c = t)
def bsF (r : Nat) (t : Int32) (C : Nat → Int32) (a : Nat) : Nat → Nat
  | 0 => a
  | j + 1 => if bxF r t (C (a + j + 1)) (C (bsF r t C a j)) then a + j + 1 else bsF r t C a j
def ldG (r : Nat) (C : Nat → Int32) (i : Nat) : Int32 := if i % 4 = 0 then -1 else suF r (C (i - i % 4))
def tnF (N r : Nat) (t ld : Int32) (C W : Nat → Int32) (n : Nat) : Int32 := if N ≤ n then -2 else if n % 4 = 0 then (if n = 0 then ld else W (bsF r t C (n - 4) 3)) else (W (n - 1) + 1) &&& 3
def bfF (r : Nat) (C W : Nat → Int32) (T u : Int32) : Nat → Int32
  | 0 => -1
  | n + 1 => if W n = T ∧ suF r (C n) = u then rkG r (C n) else bfF r C W T u n
def pbF (C W : Nat → Int32) (p : Int32) : Nat → Int32
  | 0 => 0
  | n + 1 => if W n = p then pbF C W p n ||| ((1 : Int32) <<< (C n &&& 31)) else pbF C W p n
def hnF (D C W : Nat → Int32) (p n : Nat) : Int32 := D p &&& (pbF C W (nI p) n ^^^ (-1))
def kdG (r : Nat) (x u : Int32) : Int32 := if 0 ≤ u then (if suF r x = u then 1 else 2) else 0
def kdF (r : Nat) (C : Nat → Int32) (i : Nat) : Int32 := kdG r (C i) (ldG r C i)
def brF (s r : Nat) (D C W : Nat → Int32) (i : Nat) : Int32 := if kdF r C i = 2 ∧ ¬ (hnF D C W (W i).toNatClampNeg i &&& scF s r (ldG r C i)) = 0 then 1 else 0
def upF (C : Nat → Int32) (n : Nat) (x : Int32) (i : Nat) : Int32 := if i = n then x else C i
theorem upF_on {C : Nat → Int32} {n : Nat} {x : Int32} : upF C n x n = x := if_pos rfl
theorem upF_off {C : Nat → Int32} {n i : Nat} {x : Int32} (h : ¬ i = n) : upF C n x i = C i := if_neg h
section Cg
variable {s r N : Nat} {t ld : Int32} {C C' W W' D : Nat → Int32}
theorem bsF_rg (a : Nat) : ∀ j, a ≤ bsF r t C a j ∧ bsF r t C a j ≤ a + j := by
  intro j
  induction j with
  | zero => exact ⟨Nat.le_refl _, Nat.le_refl _⟩
  | succ j ih =>
    have e : bsF r t C a (j + 1) = if bxF r t (C (a + j + 1)) (C (bsF r t C a j)) then a + j + 1 else bsF r t C a j := rfl
    rw [e]
    split <;> omega
theorem bsF_cg {a : Nat} : ∀ j, (∀ i, i ≤ a + j → C i = C' i) → bsF r t C a j = bsF r t C' a j := by
  intro j
  induction j with
  | zero => intro _; rfl
  | succ j ih =>
    intro h
    have e := ih (fun i hi => h i (by omega))
    have hr := bsF_rg (r := r) (t := t) (C := C) a j
    show (if bxF r t (C (a + j + 1)) (C (bsF r t C a j)) then _ else _) = (if bxF r t (C' (a + j + 1)) (C' (bsF r t C' a j)) then _ else _)
    rw [← e, h (a + j + 1) (by omega), h (bsF r t C a j) (by omega)]
theorem ldG_cg {i : Nat} (h : ∀ k, k < i → C k = C' k) : ldG r C i = ldG r C' i := by
  unfold ldG
  by_cases c : i % 4 = 0
  · rw [if_pos c, if_pos c]
  · rw [if_neg c, if_neg c, h _ (by omega)]
theorem tnF_cg {n : Nat} (h : ∀ k, k < n → C k = C' k) (hw : ∀ k, k < n → W k = W' k) : tnF N r t ld C W n = tnF N r t ld C' W' n := by
  unfold tnF
  by_cases c : N ≤ n
  · rw [if_pos c, if_pos c]
  · rw [if_neg c, if_neg c]
    by_cases c2 : n % 4 = 0
    · rw [if_pos c2, if_pos c2]
      by_cases c3 : n = 0
      · rw [if_pos c3, if_pos c3]
      · rw [if_neg c3, if_neg c3]
        have hr := bsF_rg (r := r) (t := t) (C := C) (n - 4) 3
        rw [hw _ (by omega), bsF_cg 3 (fun i hi => h i (by omega))]
    · rw [if_neg c2, if_neg c2, hw _ (by omega)]
theorem bfF_cg {T u : Int32} : ∀ n, (∀ k, k < n → C k = C' k) → (∀ k, k < n → W k = W' k) → bfF r C W T u n = bfF r C' W' T u n := by
  intro n
  induction n with
  | zero => intro _ _; rfl
  | succ n ih =>
    intro h hw
    show (if _ then _ else _) = (if _ then _ else _)
    rw [h n (by omega), hw n (by omega), ih (fun k hk => h k (by omega)) (fun k hk => hw k (by omega))]
theorem pbF_cg {p : Int32} : ∀ n, (∀ k, k < n → C k = C' k) → (∀ k, k < n → W k = W' k) → pbF C W p n = pbF C' W' p n := by
  intro n
  induction n with
  | zero => intro _ _; rfl
  | succ n ih =>
    intro h hw
    show (if _ then _ else _) = (if _ then _ else _)
    rw [h n (by omega), hw n (by omega), ih (fun k hk => h k (by omega)) (fun k hk => hw k (by omega))]
theorem hnF_cg {p n : Nat} (h : ∀ k, k < n → C k = C' k) (hw : ∀ k, k < n → W k = W' k) : hnF D C W p n = hnF D C' W' p n := by
  unfold hnF
  rw [pbF_cg n h hw]
theorem kdF_cg {i : Nat} (h : ∀ k, k ≤ i → C k = C' k) : kdF r C i = kdF r C' i := by
  unfold kdF
  rw [h i (Nat.le_refl _), ldG_cg (fun k hk => h k (by omega))]
theorem brF_cg {i : Nat} (h : ∀ k, k ≤ i → C k = C' k) (hw : ∀ k, k ≤ i → W k = W' k) : brF s r D C W i = brF s r D C' W' i := by
  unfold brF
  rw [kdF_cg h, hw i (Nat.le_refl _), hnF_cg (fun k hk => h k (by omega)) (fun k hk => hw k (by omega)), ldG_cg (fun k hk => h k (by omega))]
end Cg
theorem hn_or {a b D : Int32} : D &&& ((a ||| b) ^^^ (-1)) = (D &&& (a ^^^ (-1))) &&& (b ^^^ (-1)) := by
  apply bt_ext
  intro i hi
  rw [bt_and, bt_and, bt_and, bt_not _ hi, bt_not _ hi, bt_not _ hi, bt_or]
  cases bt D i <;> cases bt a i <;> cases bt b i <;> rfl
theorem hnF_on {D C W : Nat → Int32} {p n : Nat} (h : W n = nI p) : hnF D C W p (n + 1) = hnF D C W p n &&& (((1 : Int32) <<< (C n &&& 31)) ^^^ (-1)) := by
  unfold hnF
  rw [show pbF C W (nI p) (n + 1) = pbF C W (nI p) n ||| ((1 : Int32) <<< (C n &&& 31)) from if_pos h]
  exact hn_or
theorem hnF_off {D C W : Nat → Int32} {p n : Nat} (h : ¬ W n = nI p) : hnF D C W p (n + 1) = hnF D C W p n := by
  unfold hnF
  rw [show pbF C W (nI p) (n + 1) = pbF C W (nI p) n from if_neg h]
/-- a card of a hand, put away and taken back -/
theorem tk_back {h : Int32} {c : Nat} (hc : c < 16) (hb : bt h c = true) : (h &&& (((1 : Int32) <<< (nI c &&& 31)) ^^^ (-1))) ||| ((1 : Int32) <<< (nI c &&& 31)) = h := by
  apply bt_ext
  intro i hi
  rw [bt_or, bt_and, bt_not _ hi, one_bt c (by omega) i hi]
  cases e : Nat.beq i c with
  | true =>
    have := Nat.eq_of_beq_eq_true e
    subst this
    rw [hb]; rfl
  | false => cases bt h i <;> rfl
/-! laws and games, as such -/
def lOK (s r : Nat) (t : Int32) : Prop := 1 ≤ s ∧ s ≤ 4 ∧ 1 ≤ r ∧ r ≤ 16 ∧ s * r ≤ 16 ∧ s * r % 4 = 0 ∧ (t = -1 ∨ ∃ u, u < s ∧ t = nI u)
def gV (s r : Nat) (t : Int32) (D : Nat → Int32) (ld : Int32) (C W : Nat → Int32) (n : Nat) : Prop :=
  (∃ l, l < 4 ∧ ld = nI l) ∧ n ≤ s * r ∧ (∀ i, i < n → ∃ c, c < s * r ∧ C i = nI c) ∧ (∀ i, i < n → W i = tnF (s * r) r t ld C W i) ∧ (∀ i, i < n → ∃ w, w < 4 ∧ W i = nI w) ∧ (∀ i, i < n → bt (hnF D C W (W i).toNatClampNeg i) (C i).toNatClampNeg = true)
theorem add1_3 : ∀ w, w < 4 → (nI w + 1) &&& (3 : Int32) = nI ((w + 1) % 4) := by decide
theorem tn_rg {s r n : Nat} {t ld : Int32} {C W : Nat → Int32} (hl : ∃ l, l < 4 ∧ ld = nI l) (hW : ∀ i, i < n → ∃ w, w < 4 ∧ W i = nI w) (hn : n < s * r) : ∃ w, w < 4 ∧ tnF (s * r) r t ld C W n = nI w := by
  unfold tnF
  rw [if_neg (by omega)]
  by_cases c2 : n % 4 = 0
  · rw [if_pos c2]
    by_cases c3 : n = 0
    · rw [if_pos c3]; exact hl
    · rw [if_neg c3]
      have hr := bsF_rg (r := r) (t := t) (C := C) (n - 4) 3
      exact hW _ (by omega)
  · rw [if_neg c2]
    obtain ⟨w, hw, e⟩ := hW (n - 1) (by omega)
    rw [e, add1_3 w hw]
    exact ⟨_, Nat.mod_lt _ (by decide), rfl⟩
theorem gV.turn {s r n : Nat} {t ld : Int32} {D C W : Nat → Int32} (h : gV s r t D ld C W n) (hn : n < s * r) : ∃ w, w < 4 ∧ tnF (s * r) r t ld C W n = nI w := tn_rg h.1 h.2.2.2.2.1 hn
theorem tn_end {N r n : Nat} {t ld : Int32} {C W : Nat → Int32} (h : N ≤ n) : tnF N r t ld C W n = -2 := if_pos h
/-- a card is put -/
theorem gV.put {s r n c : Nat} {t ld : Int32} {D C W : Nat → Int32} (h : gV s r t D ld C W n) (hn : n < s * r) (hc : c < s * r) (hb : bt (hnF D C W (tnF (s * r) r t ld C W n).toNatClampNeg n) c = true) : gV s r t D ld (upF C n (nI c)) (upF W n (tnF (s * r) r t ld C W n)) (n + 1) := by
  have hC : ∀ k, k < n → upF C n (nI c) k = C k := fun k hk => upF_off (by omega)
  have hW : ∀ k, k < n → upF W n (tnF (s * r) r t ld C W n) k = W k := fun k hk => upF_off (by omega)
  obtain ⟨w, hw, ew⟩ := h.turn hn
  obtain ⟨h1, h2, h3, h4, h5, h6⟩ := h
  have s2 : s * r ≤ 2 ^ 31 ∨ 2 ^ 31 < s * r := by omega
  refine ⟨h1, by omega, fun i hi => ?_, fun i hi => ?_, fun i hi => ?_, fun i hi => ?_⟩
  · by_cases e : i = n
    · subst e; rw [upF_on]; exact ⟨c, hc, rfl⟩
    · rw [upF_off e]; exact h3 i (by omega)
  · rw [tnF_cg (fun k hk => hC k (by omega)) (fun k hk => hW k (by omega))]
    by_cases e : i = n
    · subst e; rw [upF_on]
    · rw [upF_off e]; exact h4 i (by omega)
  · by_cases e : i = n
    · subst e; rw [upF_on]; exact ⟨w, hw, ew⟩
    · rw [upF_off e]; exact h5 i (by omega)
  · rw [hnF_cg (fun k hk => hC k (by omega)) (fun k hk => hW k (by omega))]
    by_cases e : i = n
    · subst e
      rw [upF_on, upF_on]
      by_cases g : c < 2 ^ 31
      · rw [nI_clamp g]; exact hb
      · exfalso
        have : bt (hnF D C W (tnF (s * r) r t ld C W i).toNatClampNeg i) c = false := bt_big _ (by omega)
        rw [this] at hb
        cases hb
    · rw [upF_off e, upF_off e]; exact h6 i (by omega)
theorem gV.less {s r n m : Nat} {t ld : Int32} {D C W : Nat → Int32} (h : gV s r t D ld C W n) (hm : m ≤ n) : gV s r t D ld C W m := by
  obtain ⟨h1, h2, h3, h4, h5, h6⟩ := h
  exact ⟨h1, by omega, fun i hi => h3 i (by omega), fun i hi => h4 i (by omega), fun i hi => h5 i (by omega), fun i hi => h6 i (by omega)⟩
theorem gV.cg {s r n : Nat} {t ld : Int32} {D C W C' W' : Nat → Int32} (h : gV s r t D ld C W n) (hC : ∀ k, k < n → C k = C' k) (hW : ∀ k, k < n → W k = W' k) : gV s r t D ld C' W' n := by
  obtain ⟨h1, h2, h3, h4, h5, h6⟩ := h
  refine ⟨h1, h2, fun i hi => by rw [← hC i hi]; exact h3 i hi, fun i hi => ?_, fun i hi => by rw [← hW i hi]; exact h5 i hi, fun i hi => ?_⟩
  · rw [← hW i hi, h4 i hi]
    exact tnF_cg (fun k hk => hC k (by omega)) (fun k hk => hW k (by omega))
  · rw [← hW i hi, ← hC i hi, ← hnF_cg (fun k hk => hC k (by omega)) (fun k hk => hW k (by omega))]
    exact h6 i hi
