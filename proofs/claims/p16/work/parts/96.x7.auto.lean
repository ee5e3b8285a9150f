/-! the grammar as steps over tokens -/
abbrev DT : Type := Nat × Nat × List (Nat × Nat × Nat) × Option Nat × Option Nat
abbrev GSt : Type := (Nat × Nat) × DT
def dfT : Tk := (1, 0, 0, 0, 0)
def kdT (TT : List Tk) (i : Nat) : Nat := (TT.getD i dfT).1
def plT (TT : List Tk) (i : Nat) : Nat := (TT.getD i dfT).2.1
def vlT (TT : List Tk) (i : Nat) : Int32 := (TT.getD i dfT).2.2.1
def n32T (TT : List Tk) (i : Nat) : Int64 := (TT.getD i dfT).2.2.2.1
def n27T (TT : List Tk) (i : Nat) : Int64 := (TT.getD i dfT).2.2.2.2
def gu (a u c dp k : Nat) : Nat ⊕ (Nat × Nat) := if k = 13 then (if 6 ≤ dp then .inl 2 else .inr (u, dp + 1)) else if 27 ≤ k ∧ k ≤ 36 then .inr (a, dp) else if k = 26 then .inr (c, dp) else if k = 3 then .inr (a, dp) else .inl 1
def ga (a u dp k : Nat) (rest : Nat ⊕ (Nat × Nat)) : Nat ⊕ (Nat × Nat) := if 5 ≤ k ∧ k ≤ 8 then .inr (u, dp) else if k = 14 ∧ 0 < dp then .inr (a, dp - 1) else if dp = 0 then rest else .inl 1
def gs (m dp c k : Nat) : Nat ⊕ (Nat × Nat) := match m with
  | 0 => if k = 0 then .inl 0 else if k = 15 then .inr (1, 0) else if k = 16 then .inr (4, 0) else if k = 17 then (if 6 ≤ c then .inl 2 else .inr (6, 0)) else .inl 1
  | 1 => if k = 3 then .inr (2, 0) else .inl 1
  | 2 => if k = 3 then .inr (3, 0) else .inl 1
  | 3 => if k = 4 then .inr (0, 0) else .inl 1
  | 4 => if k = 3 then .inr (5, 0) else .inl 1
  | 5 => if k = 4 then .inr (0, 0) else .inl 1
  | 6 => if k = 2 then .inr (7, 0) else .inl 1
  | 7 => if k = 3 then .inr (8, 0) else .inl 1
  | 8 => if 18 ≤ k ∧ k ≤ 20 then .inr (9, 0) else .inl 1
  | 9 => if k = 21 then .inr (10, 0) else if k = 22 then .inr (20, 0) else .inl 1
  | 10 => if k = 25 then .inr (10, 0) else gu 12 11 13 dp k
  | 11 => gu 12 11 13 dp k
  | 12 => ga 12 11 dp k (if 9 ≤ k ∧ k ≤ 12 then .inr (14, 0) else .inl 1)
  | 13 => if k = 3 then .inr (12, dp) else .inl 1
  | 14 => gu 15 14 16 dp k
  | 15 => ga 15 14 dp k (if k = 23 ∨ k = 24 then .inr (10, 0) else if k = 22 then .inr (20, 0) else .inl 1)
  | 16 => if k = 3 then .inr (15, dp) else .inl 1
  | 20 => if k = 25 then .inr (20, 0) else gu 22 21 23 dp k
  | 21 => gu 22 21 23 dp k
  | 22 => ga 22 21 dp k (if 9 ≤ k ∧ k ≤ 12 then .inr (24, 0) else .inl 1)
  | 23 => if k = 3 then .inr (22, dp) else .inl 1
  | 24 => gu 25 24 26 dp k
  | 25 => ga 25 24 dp k (if k = 23 ∨ k = 24 then .inr (20, 0) else if k = 4 then .inr (0, 0) else .inl 1)
  | 26 => if k = 3 then .inr (25, dp) else .inl 1
  | _ => .inl 1
theorem gu_k {a u c dp k : Nat} {q : Nat × Nat} (h : gu a u c dp k = .inr q) : ¬ k = 0 ∧ ¬ k = 1 ∧ ¬ k = 2 ∧ ¬ k = 4 ∧ ¬ k = 22 := by
  unfold gu at h
  split at h
  · omega
  · split at h
    · omega
    · split at h
      · omega
      · split at h
        · omega
        · cases h
theorem ga_k {a u dp k : Nat} {rest : Nat ⊕ (Nat × Nat)} {q : Nat × Nat} (h : ga a u dp k rest = .inr q) : (¬ k = 0 ∧ ¬ k = 1 ∧ ¬ k = 2) ∨ rest = .inr q := by
  unfold ga at h
  split at h
  · exact Or.inl (by omega)
  · split at h
    · exact Or.inl (by omega)
    · split at h
      · exact Or.inr h
      · cases h
theorem gs_k {m dp c k : Nat} {q : Nat × Nat} (h : gs m dp c k = .inr q) : ¬ k = 0 ∧ ¬ k = 1 := by
  have one : ∀ {P : Prop} [Decidable P] {x : Nat × Nat} {n : Nat}, (if P then (Sum.inr x : Nat ⊕ (Nat × Nat)) else .inl n) = .inr q → P := by
    intro P _ x n h
    by_cases hp : P
    · exact hp
    · rw [if_neg hp] at h; cases h
  unfold gs at h
  split at h
  · split at h
    · cases h
    · split at h
      · omega
      · split at h
        · omega
        · split at h
          · omega
          · cases h
  all_goals first
    | (have := one h; omega)
    | (have := gu_k h; omega)
    | (split at h
       · omega
       · first | (have := gu_k h; omega) | (have := one h; omega))
    | (rcases ga_k h with g | g
       · omega
       · first
         | (have := one g; omega)
         | (split at g
            · omega
            · have := one g; omega))
    | (cases h; done)
def updD (m k i : Nat) (D : DT) : DT := if m = 6 then (i, D.2) else if k = 22 then (D.1, i, D.2.2) else if m = 25 ∧ k = 4 then (D.1, D.2.1, D.2.2.1 ++ [(D.1, D.2.1, i)], D.2.2.2) else if m = 3 then (D.1, D.2.1, D.2.2.1, some (i - 2), D.2.2.2.2) else if m = 5 then (D.1, D.2.1, D.2.2.1, D.2.2.2.1, some (i - 1)) else D
theorem upd_id {m k i : Nat} {D : DT} (h1 : ¬ m = 6 ∧ ¬ m = 3 ∧ ¬ m = 5) (h2 : ¬ k = 22) (h3 : ¬ (m = 25 ∧ k = 4)) : updD m k i D = D := by
  unfold updD
  rw [if_neg h1.1, if_neg h2, if_neg h3, if_neg h1.2.1, if_neg h1.2.2]
def st1 (s : GSt) (k i : Nat) : Nat ⊕ GSt := match gs s.1.1 s.1.2 s.2.2.2.1.length k with
  | .inl f => .inl f
  | .inr q => if i = 400 then .inl 2 else .inr (q, updD s.1.1 k i s.2)
def pr (TT : List Tk) : Nat → Nat ⊕ GSt
  | 0 => .inr ((0, 0), 0, 0, [], none, none)
  | i + 1 => match pr TT i with
    | .inr s => st1 s (kdT TT i) i
    | .inl f => .inl f
/-- where it stops, and why: 0 the end, 1 no text goes on, 2 no room -/
def stopAt (TT : List Tk) (i f : Nat) : Prop := ∃ s, pr TT i = .inr s ∧ st1 s (kdT TT i) i = .inl f
theorem pr_inl {TT : List Tk} {i f : Nat} (h : pr TT i = .inl f) : ∀ k, pr TT (i + k) = .inl f := by
  intro k
  induction k with
  | zero => exact h
  | succ k ih =>
    show (match pr TT (i + k) with
      | .inr s => st1 s (kdT TT (i + k)) (i + k)
      | .inl f => .inl f) = _
    rw [ih]
theorem stop_lt {TT : List Tk} {i j f : Nat} {s : GSt} (h : stopAt TT i f) (hs : pr TT j = .inr s) : j ≤ i := by
  obtain ⟨s', h1, h2⟩ := h
  rcases Nat.lt_or_ge i j with g | g
  · have e : pr TT (i + 1) = .inl f := by
      show (match pr TT i with
        | .inr s => st1 s (kdT TT i) i
        | .inl f => .inl f) = _
      rw [h1]; exact h2
    have := pr_inl e (j - (i + 1))
    rw [show i + 1 + (j - (i + 1)) = j by omega, hs] at this
    cases this
  · exact g
theorem stop_one {TT : List Tk} {i j f g : Nat} (h1 : stopAt TT i f) (h2 : stopAt TT j g) : i = j ∧ f = g := by
  obtain ⟨s, a1, a2⟩ := h1
  obtain ⟨t, b1, b2⟩ := h2
  have e1 := stop_lt ⟨s, a1, a2⟩ b1
  have e2 := stop_lt ⟨t, b1, b2⟩ a1
  obtain rfl : i = j := by omega
  rw [a1] at b1
  cases b1
  rw [a2] at b2
  cases b2
  exact ⟨rfl, rfl⟩
theorem pr_next {TT : List Tk} {i : Nat} {s : GSt} {q : Nat × Nat} (h : pr TT i = .inr s) (hq : gs s.1.1 s.1.2 s.2.2.2.1.length (kdT TT i) = .inr q) (hi : i < 400) : pr TT (i + 1) = .inr (q, updD s.1.1 (kdT TT i) i s.2) := by
  show (match pr TT i with
    | .inr s => st1 s (kdT TT i) i
    | .inl f => .inl f) = _
  rw [h]
  show st1 s (kdT TT i) i = _
  unfold st1
  rw [hq]
  exact if_neg (by omega)
theorem stop_f {TT : List Tk} {i f : Nat} {s : GSt} (h : pr TT i = .inr s) (hq : gs s.1.1 s.1.2 s.2.2.2.1.length (kdT TT i) = .inl f) : stopAt TT i f := by
  refine ⟨s, h, ?_⟩
  unfold st1
  rw [hq]
theorem stop_2 {TT : List Tk} {s : GSt} {q : Nat × Nat} (h : pr TT 400 = .inr s) (hq : gs s.1.1 s.1.2 s.2.2.2.1.length (kdT TT 400) = .inr q) : stopAt TT 400 2 := by
  refine ⟨s, h, ?_⟩
  unfold st1
  rw [hq]
  exact if_pos rfl
/-! what is wrong with what is told -/
def off (x lo hi : Int32) : Bool := decide (x < lo) || decide (hi < x)
def badP (a b : Int32) : Bool := decide (16 < a * b) || !(decide (a * b - a * b / 4 * 4 = 0))
def evT (TT : List Tk) (s : GSt) (i : Nat) : Nat :=
  if s.1.1 = 1 then (bif off (vlT TT i) 1 4 then 5 else 0)
  else if s.1.1 = 2 then (bif off (vlT TT i) 1 16 || badP (vlT TT (i - 1)) (vlT TT i) then 5 else 0)
  else if s.1.1 = 4 then (bif off (vlT TT i) 0 3 then 5 else 0)
  else if s.1.1 = 7 then (bif off (vlT TT i) 0 2 then 5 else 0)
  else if s.1.1 = 13 ∨ s.1.1 = 16 ∨ s.1.1 = 23 ∨ s.1.1 = 26 then (bif off (vlT TT i) 0 3 then 5 else 0)
  else if s.1.1 = 6 then (bif s.2.2.2.1.any (fun e => decide (n32T TT e.1 = n32T TT i)) then 3 else 0)
  else 0
def evs (TT : List Tk) : Nat → Option (Nat × Nat)
  | 0 => none
  | i + 1 => match evs TT i with
    | some e => some e
    | none => match pr TT i with
      | .inr s => if evT TT s i = 0 then none else some (evT TT s i, i)
      | .inl _ => none
theorem evs_same {TT : List Tk} {i : Nat} {s : GSt} (h : pr TT i = .inr s) (he : evT TT s i = 0) : evs TT (i + 1) = evs TT i := by
  show (match evs TT i with
    | some e => some e
    | none => match pr TT i with
      | .inr s => if evT TT s i = 0 then none else some (evT TT s i, i)
      | .inl _ => none) = _
  cases hv : evs TT i with
  | some e => rfl
  | none =>
    rw [h]
    show (if evT TT s i = 0 then none else some (evT TT s i, i)) = none
    rw [if_pos he]
theorem evs_new {TT : List Tk} {i : Nat} {s : GSt} (h : pr TT i = .inr s) (he : ¬ evT TT s i = 0) : evs TT (i + 1) = match evs TT i with
    | some e => some e
    | none => some (evT TT s i, i) := by
  show (match evs TT i with
    | some e => some e
    | none => match pr TT i with
      | .inr s => if evT TT s i = 0 then none else some (evT TT s i, i)
      | .inl _ => none) = _
  cases hv : evs TT i with
  | some e => rfl
  | none =>
    rw [h]
    show (if evT TT s i = 0 then none else some (evT TT s i, i)) = some (evT TT s i, i)
    rw [if_neg he]
theorem evs_lt {TT : List Tk} : ∀ {i : Nat} {e : Nat × Nat}, evs TT i = some e → e.2 < i ∧ ¬ e.1 = 0 := by
  intro i
  induction i with
  | zero => intro e h; cases h
  | succ i ih =>
    intro e h
    cases hv : evs TT i with
    | some e' =>
      have h' : (match evs TT i with
        | some e => some e
        | none => match pr TT i with
          | .inr s => if evT TT s i = 0 then none else some (evT TT s i, i)
          | .inl _ => none) = some e := h
      rw [hv] at h'
      cases h'
      have := ih hv
      exact ⟨by omega, this.2⟩
    | none =>
      have h' : (match evs TT i with
        | some e => some e
        | none => match pr TT i with
          | .inr s => if evT TT s i = 0 then none else some (evT TT s i, i)
          | .inl _ => none) = some e := h
      rw [hv] at h'
      cases hp : pr TT i with
      | inl f => rw [hp] at h'; cases h'
      | inr s =>
        rw [hp] at h'
        have h2 : (if evT TT s i = 0 then none else some (evT TT s i, i)) = some e := h'
        split at h2
        · cases h2
        · rename_i hn
          cases h2
          exact ⟨Nat.lt_succ_self i, hn⟩
/-! texts that were cut -/
def WT (TT : List Tk) : Prop := (∃ n t, TT.length = n + 1 ∧ TT[n]? = some t ∧ t.1 = 0) ∧ (∀ t ∈ TT, 0 ≤ t.2.2.1.toInt ∧ t.2.2.1.toInt ≤ 9999) ∧ (∀ i j, i < j → j < TT.length → plT TT i < plT TT j) ∧ (∀ t ∈ TT, ∀ t' ∈ TT, t.1 = 2 → t'.1 = 2 → (t.2.2.2.1 = t'.2.2.2.1 ↔ t.2.2.2.2 = t'.2.2.2.2)) ∧ (∀ t ∈ TT, t.1 ≤ 36 ∧ t.2.1 ≤ 2000)
theorem getD_at {TT : List Tk} {i : Nat} (h : i < TT.length) : TT[i]? = some (TT.getD i dfT) := by
  rw [List.getD_eq_getElem?_getD, List.getElem?_eq_getElem h]
  rfl
theorem mem_at {TT : List Tk} {i : Nat} (h : i < TT.length) : TT.getD i dfT ∈ TT := List.mem_of_getElem? (getD_at h)
theorem tok_in {TT : List Tk} (hW : WT TT) : ∀ {i : Nat} {s : GSt}, pr TT i = .inr s → i < TT.length ∧ ∀ j, j < i → ¬ kdT TT j = 0 ∧ ¬ kdT TT j = 1 := by
  obtain ⟨⟨n, t, h1, h2, h3⟩, -⟩ := hW
  intro i
  induction i with
  | zero => intro s _; exact ⟨by omega, fun j hj => absurd hj (Nat.not_lt_zero _)⟩
  | succ i ih =>
    intro s h
    have h' : (match pr TT i with
      | .inr s => st1 s (kdT TT i) i
      | .inl f => .inl f) = .inr s := h
    cases hp : pr TT i with
    | inl f => rw [hp] at h'; cases h'
    | inr s0 =>
      rw [hp] at h'
      have h4 : st1 s0 (kdT TT i) i = .inr s := h'
      obtain ⟨a1, a2⟩ := ih hp
      unfold st1 at h4
      cases hg : gs s0.1.1 s0.1.2 s0.2.2.2.1.length (kdT TT i) with
      | inl f => rw [hg] at h4; cases h4
      | inr q =>
        have hk := gs_k hg
        refine ⟨?_, fun j hj => ?_⟩
        · rcases Nat.lt_or_ge (i + 1) TT.length with g | g
          · exact g
          · have : i = n := by omega
            subst this
            have e : TT.getD i dfT = t := by
              have := getD_at a1
              rw [h2] at this
              exact (Option.some.inj this).symm
            exact absurd (show kdT TT i = 0 by unfold kdT; rw [e]; exact h3) hk.1
        · rcases Nat.lt_or_ge j i with g | g
          · exact a2 j g
          · rw [show j = i by omega]; exact hk
theorem GB_of {TT : List Tk} {i : Nat} (h : ∀ j, j < i → ¬ kdT TT j = 0 ∧ ¬ kdT TT j = 1) : GB TT i := by
  intro j t hj ht e
  have : TT.getD j dfT = t := by rw [List.getD_eq_getElem?_getD, ht]; rfl
  exact (h j hj).2 (by unfold kdT; rw [this]; exact e)
theorem CQ_at {TT : List Tk} {σ : Sg} (hW : WT TT) (hC : CQ TT σ) {i : Nat} {s : GSt} (h : pr TT i = .inr s) (hi : i ≤ 400) : σ.1 18 i = nI (kdT TT i) ∧ σ.1 19 i = nI (plT TT i) ∧ (kdT TT i = 3 → σ.2 20 i = (vlT TT i).toInt64) ∧ (kdT TT i = 2 → σ.2 20 i = n32T TT i) := by
  obtain ⟨h1, h2⟩ := tok_in hW h
  exact hC i _ hi (getD_at h1) (GB_of h2)
theorem RQ_at {TT : List Tk} {σ : Sg} (hW : WT TT) (hC : RQ TT σ) {i : Nat} {s : GSt} (h : pr TT i = .inr s) (hi : i ≤ 400) : σ.1 100 i = nI (rk (kdT TT i)) ∧ σ.1 101 i = nI (plT TT i) ∧ (kdT TT i = 3 → σ.1 102 i = vlT TT i) ∧ (kdT TT i = 2 → σ.2 103 i = n27T TT i) := by
  obtain ⟨h1, h2⟩ := tok_in hW h
  exact hC i _ hi (getD_at h1)
theorem kd_le {TT : List Tk} (hW : WT TT) {i : Nat} {s : GSt} (h : pr TT i = .inr s) : kdT TT i ≤ 36 ∧ plT TT i ≤ 2000 := hW.2.2.2.2 _ (mem_at (tok_in hW h).1)
theorem vl_rg {TT : List Tk} (hW : WT TT) {i : Nat} {s : GSt} (h : pr TT i = .inr s) : 0 ≤ (vlT TT i).toInt ∧ (vlT TT i).toInt ≤ 9999 := hW.2.1 _ (mem_at (tok_in hW h).1)
/-! the tokens of any text are such -/
theorem num10_rg {b : Nat → Int32} {s : Nat} : ∀ n, n ≤ 4 → (∀ k, k < n → isD (b (s + k)) = true) → 0 ≤ (num10 b s n).toInt ∧ (num10 b s n).toInt + 1 ≤ (10 ^ n : Nat) := by
  intro n
  induction n with
  | zero => intro _ _; exact ⟨(by decide : (0 : Int) ≤ (0 : Int32).toInt), (by decide : (0 : Int32).toInt + 1 ≤ ((10 ^ 0 : Nat) : Int))⟩
  | succ n ih =>
    intro hn h
    obtain ⟨h1, h2⟩ := ih (by omega) (fun k hk => h k (by omega))
    have h3 := h n (by omega)
    unfold isD at h3
    simp only [Bool.and_eq_true, Bool.not_eq_true', decide_eq_false_iff_not] at h3
    obtain ⟨h4, h5⟩ := h3
    rw [Int32.lt_iff_toInt_lt] at h4 h5
    have k1 : (48 : Int32).toInt = 48 := by decide
    have k2 : (57 : Int32).toInt = 57 := by decide
    have k3 : (10 : Int32).toInt = 10 := by decide
    have hp : (10 ^ n : Nat) ≤ 1000 := by
      refine Nat.le_trans (Nat.pow_le_pow_right (by omega) (show n ≤ 3 by omega)) (by decide)
    have e1 : (b (s + n) - 48).toInt = (b (s + n)).toInt - 48 := by
      rw [sub_ex, k1]
      · unfold FL; omega
      · unfold FH; omega
    have e2 : (num10 b s n * 10).toInt = (num10 b s n).toInt * 10 := by
      rw [mul_ex, k3]
      · rw [k3]; unfold FL; omega
      · rw [k3]; unfold FH; omega
    have e3 : (num10 b s (n + 1)).toInt = (num10 b s n).toInt * 10 + ((b (s + n)).toInt - 48) := by
      show (num10 b s n * 10 + (b (s + n) - 48)).toInt = _
      rw [add_ex, e1, e2]
      · rw [e1, e2]; unfold FL; omega
      · rw [e1, e2]; unfold FH; omega
    rw [e3]
    have e4 : (10 ^ (n + 1) : Nat) = 10 ^ n * 10 := Nat.pow_succ 10 n
    rw [e4]
    omega
/-- each token of a text -/
def okT (b : Nat → Int32) (L : Nat) (t : Tk) : Prop := (0 ≤ t.2.2.1.toInt ∧ t.2.2.1.toInt ≤ 9999) ∧ (t.1 ≤ 36 ∧ t.2.1 ≤ L) ∧ (t.1 = 2 → ∃ s n, n ≤ 8 ∧ (∀ k, k < n → isLt (b (s + k)) = true) ∧ t.2.2.2.1 = c32 b s n ∧ t.2.2.2.2 = c27 b s n)
theorem tk1_ok {b : Nat → Int32} {L i : Nat} (hi : i < L) : okT b L (tk1 b L i).1 ∧ (tk1 b L i).1.2.1 = i := by
  have z : (0 : Int) ≤ (0 : Int32).toInt ∧ (0 : Int32).toInt ≤ 9999 := by decide
  unfold tk1
  split
  · rename_i h5
    obtain ⟨h1, h2, h3⟩ := lrun_is (p := isLt) (b := b) (L - i) i rfl (by omega)
    simp only
    split
    · rename_i h8
      have : kd32 (c32 b i (lrun isLt b (L - i) i)) ≤ 36 := by
        unfold kd32
        by_cases hj : ∃ j, j < 22 ∧ wdl.getD j 0 = c32 b i (lrun isLt b (L - i) i)
        · obtain ⟨j, j1, j2⟩ := hj
          rw [← j2]
          exact (by decide +kernel : ∀ j, j < 22 → kdx wdl 0 (wdl.getD j 0) ≤ 36) j j1
        · rw [kdx_none wdl 0 (fun w hw e => by
            obtain ⟨j, h1, h2⟩ := wdl_mem w hw
            exact hj ⟨j, h1, by rw [h2, e]⟩)]
          decide
      exact ⟨⟨z, ⟨this, by show i ≤ L; omega⟩, fun _ => ⟨i, _, h8, h1, rfl, rfl⟩⟩, rfl⟩
    · exact ⟨⟨z, ⟨show 1 ≤ 36 by decide, by show i ≤ L; omega⟩, fun e => absurd e (show ¬ (1 : Nat) = 2 by decide)⟩, rfl⟩
  · split
    · rename_i h5
      obtain ⟨h1, h2, h3⟩ := lrun_is (p := isD) (b := b) (L - i) i rfl (by omega)
      simp only
      split
      · rename_i h4
        have hr := num10_rg (lrun isD b (L - i) i) h4 h1
        have hp : (10 ^ (lrun isD b (L - i) i) : Nat) ≤ 10000 := by
          refine Nat.le_trans (Nat.pow_le_pow_right (by omega) h4) (by decide)
        exact ⟨⟨⟨hr.1, by show (num10 b i (lrun isD b (L - i) i)).toInt ≤ 9999; omega⟩, ⟨show 3 ≤ 36 by decide, by show i ≤ L; omega⟩, fun e => absurd e (show ¬ (3 : Nat) = 2 by decide)⟩, rfl⟩
      · exact ⟨⟨z, ⟨show 1 ≤ 36 by decide, by show i ≤ L; omega⟩, fun e => absurd e (show ¬ (1 : Nat) = 2 by decide)⟩, rfl⟩
    · simp only
      have h1 : sgk (b i) (decide (i + 1 < L) && decide (b (i + 1) = 61)) ≤ 36 ∧ ¬ sgk (b i) (decide (i + 1 < L) && decide (b (i + 1) = 61)) = 2 := by
        unfold sgk
        repeat' split
        all_goals decide
      exact ⟨⟨z, ⟨h1.1, by show i ≤ L; omega⟩, fun e => absurd e h1.2⟩, trivial⟩
theorem toks_ok {b : Nat → Int32} {L : Nat} : ∀ (f i : Nat), L - i < f → i ≤ L → (∃ n t, (toks b L f i).length = n + 1 ∧ (toks b L f i)[n]? = some t ∧ t.1 = 0) ∧ (∀ t ∈ toks b L f i, okT b L t ∧ i ≤ t.2.1) ∧ (∀ j k, j < k → k < (toks b L f i).length → plT (toks b L f i) j < plT (toks b L f i) k) := by
  intro f
  induction f with
  | zero => intro i h _; omega
  | succ f ih =>
    intro i h hi
    rcases Nat.lt_or_ge i L with g | g
    · cases hw : isW (b i) with
      | true =>
        have e4 : toks b L (f + 1) i = toks b L f (i + 1) := by
          show (if L ≤ i then _ else if isW (b i) then _ else _) = _
          rw [if_neg (by omega), if_pos hw]
        rw [e4]
        obtain ⟨h1, h2, h3⟩ := ih (i + 1) (by omega) (by omega)
        exact ⟨h1, fun t ht => ⟨(h2 t ht).1, by have := (h2 t ht).2; omega⟩, h3⟩
      | false =>
        have e4 : toks b L (f + 1) i = (tk1 b L i).1 :: toks b L f (tk1 b L i).2 := by
          show (if L ≤ i then _ else if isW (b i) then _ else _) = _
          rw [if_neg (by omega), hw]
          rfl
        have hnx := tk1_next (b := b) g
        have hok := tk1_ok (b := b) g
        obtain ⟨⟨n, t, h1, h1', h1''⟩, h2, h3⟩ := ih (tk1 b L i).2 (by omega) hnx.2
        rw [e4]
        refine ⟨⟨n + 1, t, by rw [List.length_cons, h1], h1', h1''⟩, fun t ht => ?_, fun j k hj hk => ?_⟩
        · rcases List.mem_cons.mp ht with rfl | ht
          · exact ⟨hok.1, by rw [hok.2]; exact Nat.le_refl _⟩
          · exact ⟨(h2 t ht).1, by have := (h2 t ht).2; omega⟩
        · cases k with
          | zero => omega
          | succ k =>
            rw [List.length_cons] at hk
            have hk' : k < (toks b L f (tk1 b L i).2).length := by omega
            cases j with
            | zero =>
              have := (h2 _ (mem_at hk')).2
              show (tk1 b L i).1.2.1 < plT (toks b L f (tk1 b L i).2) k
              rw [hok.2]
              unfold plT
              omega
            | succ j => exact h3 j k (by omega) hk'
    · have e4 : toks b L (f + 1) i = [(0, L, 0, 0, 0)] := by
        unfold toks
        rw [if_pos g]
      rw [e4]
      refine ⟨⟨0, (0, L, 0, 0, 0), rfl, rfl, rfl⟩, fun t ht => ?_, fun j k hj hk => ?_⟩
      · rw [List.mem_singleton] at ht
        subst ht
        exact ⟨⟨(by decide : (0 : Int) ≤ (0 : Int32).toInt ∧ (0 : Int32).toInt ≤ 9999), ⟨(by decide : 0 ≤ 36), Nat.le_refl _⟩, fun e => absurd e (show ¬ (0 : Nat) = 2 by decide)⟩, hi⟩
      · have : k < 1 := hk
        omega
theorem toks_WT {b : Nat → Int32} {L : Nat} (hL : L ≤ 2000) : WT (toks b L (L + 1) 0) := by
  obtain ⟨h1, h2, h3⟩ := toks_ok (b := b) (L := L) (L + 1) 0 (by omega) (by omega)
  refine ⟨h1, fun t ht => (h2 t ht).1.1, h3, fun t ht t' ht' e e' => ?_, fun t ht => ⟨(h2 t ht).1.2.1.1, by have := (h2 t ht).1.2.1.2; omega⟩⟩
  obtain ⟨s, n, a1, a2, a3, a4⟩ := (h2 t ht).1.2.2 e
  obtain ⟨s', n', b1, b2, b3, b4⟩ := (h2 t' ht').1.2.2 e'
  rw [a3, a4, b3, b4]
  exact c_iff a1 b1 a2 b2
