/-! each deal that nextDeal finds is a deal: counts -/
theorem cnt_dis {n : Nat} {x y : Int32} (h : ∀ b, b < n → bt x b = true → bt y b = false) : cnt n (x ||| y) = cnt n x + cnt n y := by
  induction n with
  | zero => rfl
  | succ n ih =>
    rw [cnt_succ, cnt_succ, cnt_succ, ih (fun b hb => h b (by omega)), bt_or]
    have := h n (by omega)
    cases hx : bt x n <;> cases hy : bt y n <;> simp_all <;> omega
theorem four_sum {N : Nat} {T : Nat → Int32} (h : ∀ b, b < N → (if bt (T 0) b then 1 else 0) + (if bt (T 1) b then 1 else 0) + (if bt (T 2) b then 1 else 0) + (if bt (T 3) b then 1 else 0) = 1) : ∀ m, m ≤ N → cnt m (T 0) + cnt m (T 1) + cnt m (T 2) + cnt m (T 3) = m := by
  intro m
  induction m with
  | zero => intro _; rfl
  | succ m ih =>
    intro hm
    have ih := ih (by omega)
    have := h m (by omega)
    rw [cnt_succ, cnt_succ, cnt_succ, cnt_succ]
    omega
theorem bool_one : ∀ n d k0 k1 k2 a b f : Bool, f = (n && (!d && !(k0 || (k1 || k2)))) → (a = true → f = true) → (b = true → f = true ∧ a = false) → (k0 = true → d = false) → (k1 = true → d = false) → (k2 = true → d = false) → (k0 = true → k1 = false) → (k0 = true → k2 = false) → (k1 = true → k2 = false) → (k0 = true → n = true) → (k1 = true → n = true) → (k2 = true → n = true) → (d = true → n = true) → (if d then 1 else 0) + (if (k0 || a) then 1 else 0) + (if (k1 || b) then 1 else 0) + (if (k2 || ((f && !a) && !b)) then 1 else 0) = (if n then 1 else 0 : Nat) := by
  intro n d k0 k1 k2 a b f h
  subst h
  cases n <;> cases d <;> cases k0 <;> cases k1 <;> cases k2 <;> cases a <;> cases b <;> simp
/-- hands of which three are known to be right are all right -/
theorem split_PL {N n p : Nat} {dl T cd wh : Nat → Int32} {K : Nat → Int32} {F A B : Int32} (hN : N = 4 ∨ N = 8 ∨ N = 12 ∨ N = 16) (hp : p ≤ 3) (h : PL N dl n cd wh) (hTp : T p = dl p) (hK : ∀ k, k ≤ 2 → (0 ≤ (K k).toInt ∧ (K k).toInt ≤ 65535) ∧ ∀ b : Nat, b < 16 → (bt (K k) b = true ↔ ∃ j : Nat, j < n ∧ (wh j).toInt = (((p + 1 + k) % 4 : Nat) : Int) ∧ (cd j).toInt = (b : Int))) (hF : ∀ b, b < 32 → bt F b = (decide (b < N) && (!bt (dl p) b && !(bt (K 0) b || (bt (K 1) b || bt (K 2) b))))) (hA : subS A F) (hB : subS B (F &&& (A ^^^ (-1 : Int32)))) (hpA : ((pop A : Nat) : Int) = ((N / 4 : Nat) : Int) - ((pop (K 0) : Nat) : Int)) (hpB : ((pop B : Nat) : Int) = ((N / 4 : Nat) : Int) - ((pop (K 1) : Nat) : Int)) (h0 : T ((p + 1 + 0) % 4) = (K 0 ||| A)) (h1 : T ((p + 1 + 1) % 4) = (K 1 ||| B)) (h2 : T ((p + 1 + 2) % 4) = (K 2 ||| ((F &&& (A ^^^ (-1 : Int32))) &&& (B ^^^ (-1 : Int32))))) : PL N T n cd wh := by
  obtain ⟨a0, a1, a2, a3, a4, a5, a6⟩ := h
  have hN16 : N ≤ 16 := by omega
  -- what is known lies in the hands
  have kd : ∀ k, k ≤ 2 → ∀ b, bt (K k) b = true → bt (dl ((p + 1 + k) % 4)) b = true ∧ b < N := by
    intro k hk b hb
    have hb16 : b < 16 := by
      apply Nat.lt_of_not_le
      intro hge
      rw [bt_lt (k := 16) (by omega) (hK k hk).1.1 (by have := (hK k hk).1.2; omega) hge] at hb
      cases hb
    obtain ⟨j, hj, e1, e2⟩ := ((hK k hk).2 b hb16).mp hb
    obtain ⟨q, c, hq, hc, f1, f2, f3⟩ := a4 j hj
    have : q = (p + 1 + k) % 4 := by omega
    subst this
    have : c = b := by omega
    subst this
    exact ⟨f3, hc⟩
  have dj : ∀ k l, k ≤ 2 → l ≤ 2 → ¬ k = l → ∀ b, bt (K k) b = true → bt (K l) b = false := by
    intro k l hk hl hne b hb
    cases hx : bt (K l) b with
    | false => rfl
    | true =>
      have e1 := (kd k hk b hb).1
      have e2 := (kd l hl b hx).1
      rw [a3 ((p + 1 + k) % 4) ((p + 1 + l) % 4) (by omega) (by omega) (by omega) b e1] at e2
      cases e2
  have dp : ∀ k, k ≤ 2 → ∀ b, bt (K k) b = true → bt (dl p) b = false := by
    intro k hk b hb
    exact a3 ((p + 1 + k) % 4) p (by omega) hp (by omega) b (kd k hk b hb).1
  have fN : ∀ b, bt F b = true → b < N ∧ bt (dl p) b = false ∧ bt (K 0) b = false ∧ bt (K 1) b = false ∧ bt (K 2) b = false := by
    intro b hb
    by_cases h32 : b < 32
    · rw [hF b h32] at hb
      simp only [Bool.and_eq_true, decide_eq_true_eq, Bool.not_eq_true', Bool.or_eq_false_iff] at hb
      exact ⟨hb.1, hb.2.1, hb.2.2.1, hb.2.2.2.1, hb.2.2.2.2⟩
    · rw [bt_big F (by omega)] at hb; cases hb
  have aF := hA
  have bF : ∀ b, bt B b = true → bt F b = true ∧ bt A b = false := by
    intro b hb
    have := hB b hb
    rw [bt_and, Bool.and_eq_true] at this
    refine ⟨this.1, ?_⟩
    have hb32 : b < 32 := by have := (fN b this.1).1; omega
    rw [bt_not _ hb32] at this
    simpa using this.2
  -- each card lies in one hand
  have b0 : ∀ b, bt (T ((p + 1 + 0) % 4)) b = (bt (K 0) b || bt A b) := fun b => by rw [h0, bt_or]
  have b1 : ∀ b, bt (T ((p + 1 + 1) % 4)) b = (bt (K 1) b || bt B b) := fun b => by rw [h1, bt_or]
  have b2 : ∀ b, b < 32 → bt (T ((p + 1 + 2) % 4)) b = (bt (K 2) b || ((bt F b && !bt A b) && !bt B b)) := fun b hb => by rw [h2, bt_or, bt_and, bt_and, bt_not _ hb, bt_not _ hb]
  have bp : ∀ b, bt (T p) b = bt (dl p) b := fun b => by rw [hTp]
  have ex : ∀ b, b < 32 → (if bt (T p) b then 1 else 0) + (if bt (T ((p + 1 + 0) % 4)) b then 1 else 0) + (if bt (T ((p + 1 + 1) % 4)) b then 1 else 0) + (if bt (T ((p + 1 + 2) % 4)) b then 1 else 0) = if b < N then 1 else 0 := by
    intro b hb
    rw [bp, b0, b1, b2 b hb]
    have k0 := dp 0 (by omega) b
    have k1 := dp 1 (by omega) b
    have k2 := dp 2 (by omega) b
    have k01 := dj 0 1 (by omega) (by omega) (by omega) b
    have k02 := dj 0 2 (by omega) (by omega) (by omega) b
    have k12 := dj 1 2 (by omega) (by omega) (by omega) b
    have n0 := fun h => (kd 0 (by omega) b h).2
    have n1 := fun h => (kd 1 (by omega) b h).2
    have n2 := fun h => (kd 2 (by omega) b h).2
    have np : bt (dl p) b = true → b < N := fun h => by
      apply Nat.lt_of_not_le
      intro hge
      rw [a2 p hp b hge] at h
      cases h
    have hz := bool_one (decide (b < N)) (bt (dl p) b) (bt (K 0) b) (bt (K 1) b) (bt (K 2) b) (bt A b) (bt B b) (bt F b) (hF b hb) (aF b) (bF b) k0 k1 k2 k01 k02 k12 (fun h => decide_eq_true (n0 h)) (fun h => decide_eq_true (n1 h)) (fun h => decide_eq_true (n2 h)) (fun h => decide_eq_true (np h))
    rw [hz]
    by_cases hbN : b < N
    · rw [decide_eq_true hbN, if_pos rfl, if_pos hbN]
    · rw [decide_eq_false hbN, if_neg (by decide), if_neg hbN]
  have lowK : ∀ k, k ≤ 2 → ∀ b, N ≤ b → bt (K k) b = false := by
    intro k hk b hb
    cases hx : bt (K k) b with
    | false => rfl
    | true => have := (kd k hk b hx).2; omega
  have lowF : ∀ b, N ≤ b → bt F b = false := by
    intro b hb
    cases hx : bt F b with
    | false => rfl
    | true => have := (fN b hx).1; omega
  have lowA : ∀ b, N ≤ b → bt A b = false := by
    intro b hb
    cases hx : bt A b with
    | false => rfl
    | true => have := aF b hx; rw [lowF b hb] at this; cases this
  have lowB : ∀ b, N ≤ b → bt B b = false := by
    intro b hb
    cases hx : bt B b with
    | false => rfl
    | true => have := (bF b hx).1; rw [lowF b hb] at this; cases this
  have c0 : cnt N (T ((p + 1 + 0) % 4)) = N / 4 := by
    rw [h0, cnt_dis (fun b _ hb => by
      cases hx : bt A b with
      | false => rfl
      | true => have := (fN b (aF b hx)).2.2.1; rw [hb] at this; cases this), cnt_pop hN16 (lowK 0 (by omega)), cnt_pop hN16 lowA]
    omega
  have c1 : cnt N (T ((p + 1 + 1) % 4)) = N / 4 := by
    rw [h1, cnt_dis (fun b _ hb => by
      cases hx : bt B b with
      | false => rfl
      | true => have := (fN b (bF b hx).1).2.2.2.1; rw [hb] at this; cases this), cnt_pop hN16 (lowK 1 (by omega)), cnt_pop hN16 lowB]
    omega
  have cp : cnt N (T p) = N / 4 := by rw [hTp]; exact a1 p hp
  have c2 : cnt N (T ((p + 1 + 2) % 4)) = N / 4 := by
    have hs := four_sum (T := T) (N := N) (fun b hb => by
      have := ex b (by omega)
      rw [if_pos hb] at this
      have hp4 : p = 0 ∨ p = 1 ∨ p = 2 ∨ p = 3 := by omega
      rcases hp4 with rfl | rfl | rfl | rfl <;> simp only [Nat.reduceAdd, Nat.reduceMod] at this <;> omega) N (Nat.le_refl _)
    have hp4 : p = 0 ∨ p = 1 ∨ p = 2 ∨ p = 3 := by omega
    rcases hp4 with rfl | rfl | rfl | rfl <;> simp only [Nat.reduceAdd, Nat.reduceMod] at c0 c1 cp ⊢ <;> omega
  have one : ∀ q, q ≤ 3 → q = p ∨ q = (p + 1 + 0) % 4 ∨ q = (p + 1 + 1) % 4 ∨ q = (p + 1 + 2) % 4 := by omega
  refine ⟨a0, fun q hq => ?_, fun q hq b hb => ?_, fun q r hq hr hne b hb => ?_, fun k hk => ?_, a5, a6⟩
  · rcases one q hq with rfl | e | e | e
    · exact cp
    · rw [e]; exact c0
    · rw [e]; exact c1
    · rw [e]; exact c2
  · by_cases h32 : b < 32
    · have := ex b h32
      rw [if_neg (show ¬ b < N by omega)] at this
      cases hx : bt (T q) b with
      | false => rfl
      | true =>
        rcases one q hq with rfl | e | e | e
        · rw [hx] at this; simp at this
        · rw [e] at hx; rw [hx] at this; simp at this
        · rw [e] at hx; rw [hx] at this; simp at this
        · rw [e] at hx; rw [hx] at this; simp at this
    · exact bt_big _ (by omega)
  · by_cases h32 : b < 32
    · have := ex b h32
      cases hx : bt (T r) b with
      | false => rfl
      | true =>
        exfalso
        have hle : (if b < N then 1 else 0) ≤ 1 := by split <;> omega
        rcases one q hq with e | e | e | e <;> rcases one r hr with e' | e' | e' | e' <;> first
          | (exact hne (e.trans e'.symm))
          | (rw [e] at hb; rw [e'] at hx; rw [hb, hx] at this; simp at this; omega)
    · exact bt_big _ (by omega)
  · obtain ⟨q, c, hq, hc, f1, f2, f3⟩ := a4 k hk
    refine ⟨q, c, hq, hc, f1, f2, ?_⟩
    rcases one q hq with rfl | e | e | e
    · rw [bp]; exact f3
    · rw [e, b0]
      have := ((hK 0 (by omega)).2 c (by omega)).mpr ⟨k, hk, by rw [f1, e], f2⟩
      rw [this]; simp
    · rw [e, b1]
      have := ((hK 1 (by omega)).2 c (by omega)).mpr ⟨k, hk, by rw [f1, e], f2⟩
      rw [this]; simp
    · rw [e, b2 c (by omega)]
      have := ((hK 2 (by omega)).2 c (by omega)).mpr ⟨k, hk, by rw [f1, e], f2⟩
      rw [this]; simp
