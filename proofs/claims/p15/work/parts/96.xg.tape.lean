/-! the tape: what feed writes, both sides -/
/-- a word's bytes, as they are written -/
def bB (x : Int32) : Nat → Int32
  | 0 => (x >>> ((24 : Int32) &&& 31)) &&& 255
  | 1 => (x >>> ((16 : Int32) &&& 31)) &&& 255
  | 2 => (x >>> ((8 : Int32) &&& 31)) &&& 255
  | _ => (x >>> ((0 : Int32) &&& 31)) &&& 255
/-- m bytes of x are written from t on: cell q, its length in field (f, i) -/
def W4 (q f i : Nat) (x : Int32) (t m : Nat) (σ σ' : Sg) : Prop := σ'.1 f i = nI (t + m) ∧ (∀ k, k < m → σ'.1 q (t + k) &&& 255 = bB x k) ∧ ∀ j, (j < t ∨ t + m ≤ j) → σ'.1 q j = σ.1 q j
theorem W4.step {q f i t m : Nat} {x y z : Int32} {σ σ' : Sg} (h : W4 q f i x t m σ σ') (hq : ¬ f = q) (hy : y &&& 255 = bB x m) (hz : z = nI (t + m + 1)) : W4 q f i x t (m + 1) σ (s1 (s1 σ' q (t + m) y) f i z) := by
  obtain ⟨h1, h2, h3⟩ := h
  refine ⟨by rw [s1_on, hz]; rfl, fun k hk => ?_, fun j hj => ?_⟩
  · rw [s1_off (fun e => hq e.1.symm)]
    by_cases e : k = m
    · subst e
      rw [s1_on]; exact hy
    · rw [s1_off (by omega)]
      exact h2 k (by omega)
  · rw [s1_off (fun e => hq e.1.symm), s1_off (by omega)]
    exact h3 j (by omega)
theorem W4.nil {q f i t : Nat} {x : Int32} {σ : Sg} (h : σ.1 f i = nI t) : W4 q f i x t 0 σ σ := ⟨h, fun _ hk => absurd hk (Nat.not_lt_zero _), fun _ _ => rfl⟩
theorem apq_1 {n d : Nat} {x s : Int32} {t k : Nat} {σ σ' : Sg} {Q : Option Value → Sg → Prop} (hk : k < 4) (ht : t + 4 ≤ 2000) (hs : ¬ s < 0) (hb : (ush x s) &&& 255 = bB x k) (h : W4 1 0 1 x t k σ σ') (kk : ∀ n σ'', W4 1 0 1 x t (k + 1) σ σ'' → Pl PRG n d 120 3 [(0, .ref 0), (1, .int x), (2, .int (s + (-8 : Int32)))] [] σ'' Q) : Pl PRG n d 120 3 [(0, .ref 0), (1, .int x), (2, .int s)] [] σ' Q := by
  have e0 : (2000 : Int32) = nI 2000 := by decide
  refine Pl.pos (fun n1 _ => p_120_3 σ' x s ⟨fun c => absurd c hs, fun _ => ⟨fun c => ?_, fun _ _ => ?_⟩⟩)
  · rw [h.1, e0] at c
    have := (nI_leI (a := 2000) (b := t + k) (by omega) (by omega)).mp c
    omega
  · rw [h.1, nI_clamp (by omega)]
    exact kk _ _ (h.step (by decide) ((nar_255 _).trans ((byte_255 _).trans hb)) (by rw [nI_1]))
theorem e24_16 : (24 : Int32) + (-8 : Int32) = 16 := by decide
theorem e16_8 : (16 : Int32) + (-8 : Int32) = 8 := by decide
theorem e8_0 : (8 : Int32) + (-8 : Int32) = 0 := by decide
theorem e0_m : (0 : Int32) + (-8 : Int32) < 0 := by decide
theorem app_c {n : Nat} {x : Int32} {t : Nat} {σ σ1 : Sg} {v : Option Value} (ht : t + 4 ≤ 2000) (h0 : σ.1 0 1 = nI t) (h : RCx PRG n 120 [.ref 0, .int x] σ v σ1) : W4 1 0 1 x t 4 σ σ1 :=
  h.by (Q := fun _ σ' => W4 1 0 1 x t 4 σ σ') (fun m d => p_120_0 σ x (apq_1 (k := 0) (by decide) ht (by decide) (ush_24 x) (W4.nil h0) (fun n1 σ1 k1 => by
    rw [e24_16]
    exact apq_1 (k := 1) (by decide) ht (by decide) (ush_16 x) k1 (fun n2 σ2 k2 => by
      rw [e16_8]
      exact apq_1 (k := 2) (by decide) ht (by decide) (ush_8 x) k2 (fun n3 σ3 k3 => by
        rw [e8_0]
        exact apq_1 (k := 3) (by decide) ht (by decide) (ush_0 x) k3 (fun n4 σ4 k4 => Pl.pos (fun n5 _ => p_120_3 σ4 x _ ⟨fun _ => k4, fun c => absurd e0_m c⟩)))))))
theorem put_1p {n d : Nat} {x s : Int32} {t k : Nat} {σ σ' : Sg} {Q : Option Value → Sg → Prop} (hk : k < 4) (ht : t + 4 ≤ 2000) (hs : ¬ s < 0) (hb : (x >>> (s &&& 31)) &&& 255 = bB x k) (h : W4 98 97 2 x t k σ σ') (kk : ∀ n σ'', W4 98 97 2 x t (k + 1) σ σ'' → Pl PRG n d 178 3 [(0, .ref 97), (1, .int x), (2, .int (s + (-8 : Int32)))] [] σ'' Q) : Pl PRG n d 178 3 [(0, .ref 97), (1, .int x), (2, .int s)] [] σ' Q := by
  refine Pl.pos (fun n1 _ => p_178_3 σ' x s ⟨fun c => absurd c hs, fun _ _ => ?_⟩)
  rw [h.1, nI_clamp (by omega)]
  exact kk _ _ (h.step (by decide) ((nar_255 _).trans ((byte_255 _).trans hb)) (by rw [nI_1]))
theorem put_c {n : Nat} {x : Int32} {t : Nat} {σ σ1 : Sg} {v : Option Value} (ht : t + 4 ≤ 2000) (h0 : σ.1 97 2 = nI t) (h : RCx PRG n 178 [.ref 97, .int x] σ v σ1) : W4 98 97 2 x t 4 σ σ1 :=
  h.by (Q := fun _ σ' => W4 98 97 2 x t 4 σ σ') (fun m d => p_178_0 σ x (put_1p (k := 0) (by decide) ht (by decide) rfl (W4.nil h0) (fun n1 σ1 k1 => by
    rw [e24_16]
    exact put_1p (k := 1) (by decide) ht (by decide) rfl k1 (fun n2 σ2 k2 => by
      rw [e16_8]
      exact put_1p (k := 2) (by decide) ht (by decide) rfl k2 (fun n3 σ3 k3 => by
        rw [e8_0]
        exact put_1p (k := 3) (by decide) ht (by decide) rfl k3 (fun n4 σ4 k4 => Pl.pos (fun n5 _ => p_178_3 σ4 x _ ⟨fun _ => k4, fun c => absurd e0_m c⟩)))))))
/-- five words -/
def x5 (a b c e f : Int32) : Nat → Int32
  | 0 => a
  | 1 => b
  | 2 => c
  | 3 => e
  | _ => f
def FD (q : Nat) (x : Nat → Int32) (t m : Nat) (σ σ' : Sg) : Prop := (∀ j, j < t → σ'.1 q j = σ.1 q j) ∧ ∀ a, a < m → ∀ k, k < 4 → σ'.1 q (t + 4 * a + k) &&& 255 = bB (x a) k
theorem FD.step {q f i t p m : Nat} {x : Nat → Int32} {y : Int32} {σ σ' σ'' : Sg} (h : FD q x t m σ σ') (hx : y = x m) (hp : p = t + 4 * m) (w : W4 q f i y p 4 σ' σ'') : FD q x t (m + 1) σ σ'' := by
  subst hp
  refine ⟨fun j hj => by rw [w.2.2 j (by omega)]; exact h.1 j hj, fun a ha k hk => ?_⟩
  by_cases e : a = m
  · subst e
    subst hx
    exact w.2.1 k hk
  · rw [w.2.2 _ (by omega)]
    exact h.2 a (by omega) k hk
theorem FD.nil {q t : Nat} {x : Nat → Int32} {σ : Sg} : FD q x t 0 σ σ := ⟨fun _ _ => rfl, fun _ h => absurd h (Nat.not_lt_zero _)⟩
def fdQ (q : Nat) (x : Nat → Int32) (t : Nat) (σ σ' : Sg) : Prop := (t + 20 ≤ 2000 ∧ FD q x t 5 σ σ') ∨ (¬ t + 20 ≤ 2000 ∧ σ' = σ)
theorem le_2000N {x : Int32} {t : Nat} (ht : x = nI t) (h1 : t ≤ 2000) : (x + (20 : Int32) ≤ (2000 : Int32)) ↔ t + 20 ≤ 2000 := by
  have := le_2000 (x := x) (t := (t : Int)) (by rw [ht, nI_toInt (by omega)]) (by omega) (by omega)
  rw [this]
  omega
theorem feed_c {n d : Nat} {a b c e f : Int32} {t : Nat} {σ : Sg} (h0 : σ.1 0 1 = nI t) (h1 : t ≤ 2000) : Pl PRG n d 121 0 (lv_args 0 [.ref 0, .int a, .int b, .int c, .int e, .int f]) [] σ (fun _ σ' => fdQ 1 (x5 a b c e f) t σ σ') := by
  refine Pl.pos (fun m _ => p_121_0 σ a b c e f ⟨fun hc σ1 r1 σ2 r2 σ3 r3 σ4 r4 σ5 r5 => ?_, fun hc => ?_⟩)
  · rw [le_2000N h0 h1] at hc
    have w1 := app_c (t := t) (by omega) h0 r1
    have w2 := app_c (t := t + 4) (by omega) w1.1 r2
    have w3 := app_c (t := t + 4 + 4) (by omega) w2.1 r3
    have w4 := app_c (t := t + 4 + 4 + 4) (by omega) w3.1 r4
    have w5 := app_c (t := t + 4 + 4 + 4 + 4) (by omega) w4.1 r5
    have f1 : FD 1 (x5 a b c e f) t 1 σ σ1 := FD.step (m := 0) FD.nil (show a = x5 a b c e f 0 from rfl) (by omega) w1
    have f2 : FD 1 (x5 a b c e f) t 2 σ σ2 := FD.step (m := 1) f1 (show b = x5 a b c e f 1 from rfl) (by omega) w2
    have f3 : FD 1 (x5 a b c e f) t 3 σ σ3 := FD.step (m := 2) f2 (show c = x5 a b c e f 2 from rfl) (by omega) w3
    have f4 : FD 1 (x5 a b c e f) t 4 σ σ4 := FD.step (m := 3) f3 (show e = x5 a b c e f 3 from rfl) (by omega) w4
    have f5 : FD 1 (x5 a b c e f) t 5 σ σ5 := FD.step (m := 4) f4 (show f = x5 a b c e f 4 from rfl) (by omega) w5
    exact Or.inl ⟨hc, f5⟩
  · rw [le_2000N h0 h1] at hc
    exact Or.inr ⟨hc, rfl⟩
theorem feed_r {n d : Nat} {a b c e f : Int32} {t : Nat} {σ : Sg} (h0 : σ.1 97 2 = nI t) (h1 : t ≤ 2000) : Pl PRG n d 179 0 (lv_args 0 [.ref 97, .int a, .int b, .int c, .int e, .int f]) [] σ (fun _ σ' => fdQ 98 (x5 a b c e f) t σ σ') := by
  refine Pl.pos (fun m _ => p_179_0 σ a b c e f ⟨fun hc σ1 r1 σ2 r2 σ3 r3 σ4 r4 σ5 r5 => ?_, fun hc => ?_⟩)
  · rw [le_2000N h0 h1] at hc
    have w1 := put_c (t := t) (by omega) h0 r1
    have w2 := put_c (t := t + 4) (by omega) w1.1 r2
    have w3 := put_c (t := t + 4 + 4) (by omega) w2.1 r3
    have w4 := put_c (t := t + 4 + 4 + 4) (by omega) w3.1 r4
    have w5 := put_c (t := t + 4 + 4 + 4 + 4) (by omega) w4.1 r5
    have f1 : FD 98 (x5 a b c e f) t 1 σ σ1 := FD.step (m := 0) FD.nil (show a = x5 a b c e f 0 from rfl) (by omega) w1
    have f2 : FD 98 (x5 a b c e f) t 2 σ σ2 := FD.step (m := 1) f1 (show b = x5 a b c e f 1 from rfl) (by omega) w2
    have f3 : FD 98 (x5 a b c e f) t 3 σ σ3 := FD.step (m := 2) f2 (show c = x5 a b c e f 2 from rfl) (by omega) w3
    have f4 : FD 98 (x5 a b c e f) t 4 σ σ4 := FD.step (m := 3) f3 (show e = x5 a b c e f 3 from rfl) (by omega) w4
    have f5 : FD 98 (x5 a b c e f) t 5 σ σ5 := FD.step (m := 4) f4 (show f = x5 a b c e f 4 from rfl) (by omega) w5
    exact Or.inl ⟨hc, f5⟩
  · rw [le_2000N h0 h1] at hc
    exact Or.inr ⟨hc, rfl⟩
theorem back_c {n d : Nat} {x : Int32} {σ : Sg} : Pl PRG n d 122 0 (lv_args 0 [.ref 0, .int x]) [] σ (fun _ σ' => ∀ j, σ'.1 1 j = σ.1 1 j) := by
  refine Pl.pos (fun m _ => p_122_0 σ x ⟨fun _ _ => rfl, fun _ => ⟨fun _ j => s1_off (by omega), fun _ _ => rfl⟩⟩)
