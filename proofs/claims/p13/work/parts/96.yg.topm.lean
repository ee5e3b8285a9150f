/-! the calls of the game; the reference -/
def EM : List Nat := [97, 125, 126, 127, 128]
def rF (σ σ' : Sg) : Prop := exc EM σ σ' ∧ σ'.1 97 18 = σ.1 97 18 ∧ σ'.1 97 86 = σ.1 97 86
theorem rF.refl (σ : Sg) : rF σ σ := ⟨exc.refl σ, rfl, rfl⟩
theorem rF.put {σ σ1 : Sg} {q k : Nat} {x : Int32} (h : rF σ σ1) (hq : EM.contains q = true) (hk : ¬ (q = 97 ∧ (k = 18 ∨ k = 86))) : rF σ (s1 σ1 q k x) := ⟨h.1.put hq, by rw [s1_off (by omega)]; exact h.2.1, by rw [s1_off (by omega)]; exact h.2.2⟩
theorem LR.rf {s r lv : Nat} {t : Int32} {σ σ' : Sg} (h : LR s r t lv σ) (hf : rF σ σ') : LR s r t lv σ' := by
  obtain ⟨h1, h2, h3, h4, h5⟩ := h
  have e : ∀ q, q < 158 → EM.contains q = false → ∀ j, σ'.1 q j = σ.1 q j := hf.1
  exact ⟨h1, hf.2.1.trans h2, (e 106 (by decide) (by decide) lv).trans h3, (e 107 (by decide) (by decide) lv).trans h4, by rw [e 106 (by decide) (by decide) lv, e 108 (by decide) (by decide) lv]; exact h5⟩
theorem rF.cS {σ σ' : Sg} (h : rF σ σ') : cS σ σ' := fun q hq _ j => h.1 q (by omega) (by
  cases hc : EM.contains q with
  | false => rfl
  | true =>
    have : ∀ q, EM.contains q = true → 97 ≤ q := by
      intro q hq
      simp only [EM, List.contains_cons, List.contains_nil, Bool.or_eq_true, beq_iff_eq, Bool.or_false] at hq
      omega
    have := this q hc
    omega) j
theorem R7.up {A : AA} {g : Option GA} {σ σ' : Sg} (h : R7 A σ) (hf : rF σ σ') (hg : rGo g σ') : R7 (upG A g) σ' := by
  obtain ⟨⟨lv, hl, hc, hk⟩, -, h0, h1, hb⟩ := h
  have e : ∀ q, q < 158 → EM.contains q = false → ∀ j, σ'.1 q j = σ.1 q j := hf.1
  have hh : ∀ q o, rH q o σ → rH q o σ' := by
    intro q o h
    cases o with
    | none => exact (e 152 (by decide) (by decide) q).trans h
    | some g =>
      obtain ⟨a1, a2, a3, a4, a5⟩ := h
      exact ⟨(e 152 (by decide) (by decide) q).trans a1, (e 154 (by decide) (by decide) q).trans a2, (e 155 (by decide) (by decide) q).trans a3, fun p hp => (e 153 (by decide) (by decide) _).trans (a4 p hp), fun i hi => ⟨(e 156 (by decide) (by decide) _).trans (a5 i hi).1, (e 157 (by decide) (by decide) _).trans (a5 i hi).2⟩⟩
  exact ⟨⟨lv, hl.rf hf, (e 109 (by decide) (by decide) lv).trans hc, fun k hk' => ⟨(e 110 (by decide) (by decide) _).trans (hk k hk').1, (e 111 (by decide) (by decide) _).trans (hk k hk').2⟩⟩, hg, hh 0 _ h0, hh 1 _ h1, hf.2.2.trans hb⟩
theorem and_abc {al a b c : Int32} : ((al &&& (a ^^^ (-1))) &&& (b ^^^ (-1))) &&& (c ^^^ (-1)) = al &&& (((a ||| b) ||| c) ^^^ (-1)) := by
  rw [hn_or, hn_or]
section Um
variable {l : LA} {o : Option GA} {n lv i : Nat} {x y z w : Int32} {σ σ1 : Sg}
theorem m220 {x0 x1 : Int32} (h : RCx PRG n 220 [.int x0, .int x1] σ (some (.int w)) σ1) : σ1 = σ ∧ w = mxF x0 x1 := by
  obtain ⟨a, b⟩ := h.by (Q := fun v s' => s' = σ ∧ v = some (.int (mxF x0 x1))) (fun n d => p_220_0 σ x0 x1 ⟨rfl, rfl⟩)
  cases b
  exact ⟨a, rfl⟩
theorem m221 (h : RCx PRG n 221 [.int x, .int (nI i), .int (nI (i + 1))] σ (some (.int w)) σ1) : σ1 = σ ∧ w = loF x i := by
  obtain ⟨a, b⟩ := h.by (Q := fun v s' => s' = σ ∧ v = some (.int (loF x i))) (fun n d => p_221_0 σ x _ _ (fun w2 σ2 h2 w4 σ4 h4 => by
    obtain ⟨rfl, rfl⟩ := m220 h2
    obtain ⟨rfl, rfl⟩ := m220 h4
    exact fun _ => ⟨rfl, rfl⟩))
  cases b
  exact ⟨a, rfl⟩
theorem m219 (h : RCx PRG n 219 [.ref 97] σ none σ1) : σ1 = s1 (s1 (s1 σ 97 45 (1 : Int32)) 97 47 (0 : Int32)) 97 48 (0 : Int32) :=
  h.by (Q := fun _ s' => s' = s1 (s1 (s1 σ 97 45 (1 : Int32)) 97 47 (0 : Int32)) 97 48 (0 : Int32)) (fun n d => p_219_0 σ rfl)
theorem begun {σ0 : Sg} {D : Nat → Int32} (hf : rF σ0 σ) (hd : ∀ p, p < 4 → σ.1 125 p = D p) (h : RCx PRG n 219 [.ref 97] σ none σ1) : rGo (some (D, 0, C0, C0, 0)) σ1 ∧ rF σ0 σ1 := by
  have e := m219 h
  subst e
  refine ⟨⟨?_, ?_, ?_, fun p hp => ?_, fun i hi => absurd hi (Nat.not_lt_zero _)⟩, ((hf.put rfl (by omega)).put rfl (by omega)).put rfl (by omega)⟩
  · rw [s1_off (by omega), s1_off (by omega), s1_on]
  · rw [s1_off (by omega), s1_on]
  · rw [s1_on]; rfl
  · rw [s1_off (by omega), s1_off (by omega), s1_off (by omega)]; exact hd p hp
def clp (hs p i : Nat) : Nat := min (i - p * hs) hs
theorem clp_at {hs q j : Nat} (hj : j < hs) : clp hs q (q * hs + j) = j ∧ clp hs q (q * hs + j + 1) = j + 1 := by
  unfold clp
  omega
theorem clp_ne {hs p q j : Nat} (hj : j < hs) (h : ¬ p = q) : clp hs p (q * hs + j + 1) = clp hs p (q * hs + j) := by
  unfold clp
  rcases Nat.lt_or_ge p q with g | g
  · have := Nat.mul_le_mul_right hs (show p + 1 ≤ q by omega)
    rw [Nat.add_mul, Nat.one_mul] at this
    omega
  · have := Nat.mul_le_mul_right hs (show q + 1 ≤ p by omega)
    rw [Nat.add_mul, Nat.one_mul] at this
    omega
theorem u_deal (h : RCx PRG n 222 [.ref 97, .int x] σ (some (.int w)) σ1) (hl : lV l) (hR : LR l.1 l.2.1 l.2.2.1 lv σ) : w = 1 ∧ rGo (some (dlF x (l.1 * l.2.1), 0, C0, C0, 0)) σ1 ∧ rF σ σ1 := by
  have hL := hl.1
  have hN := hL.2.2.2.2.1
  have h0 := Nat.mul_pos hL.1 hL.2.2.1
  have h4 := hL.2.2.2.2.2.1
  generalize hNN : l.1 * l.2.1 = N at hN h0 h4 ⊢
  have cards : ∀ {n w σ' σ2}, rF σ σ' → RCx PRG n 210 [.ref 97] σ' (some (.int w)) σ2 → σ2 = σ' ∧ w = nI N := fun hf h => by
    obtain ⟨a, b⟩ := m210 h hL (hR.rf hf)
    rw [hNN] at b
    exact ⟨a, b⟩
  have hsz : ∀ {n w σ' σ2}, rF σ σ' → RCx PRG n 211 [.ref 97] σ' (some (.int w)) σ2 → σ2 = σ' ∧ w = nI (N / 4) := fun hf h => by
    obtain ⟨a, b⟩ := m211 h hL (hR.rf hf)
    rw [hNN] at b
    exact ⟨a, b⟩
  have share : ∀ d n i (P : Nat → Int32) (σ' : Sg), i ≤ N → (∀ k, k < N → σ'.1 128 k = P k) → (∀ k, k < N → P k = shu x (N - 1) nI k) → (∀ p, p < 4 → σ'.1 125 p = orF P (p * (N / 4)) (clp (N / 4) p i)) → rF σ σ' → Pl PRG n d 222 99 [(0, .ref 97), (2, .int (nI i))] [] σ' (fun v s' => v = some (.int 1) ∧ rGo (some (dlF x N, 0, C0, C0, 0)) s' ∧ rF σ s') := by
    intro d n
    induction n using Nat.strongRecOn with
    | _ n ih =>
      intro i P σ' hi hP hS hd hf
      refine Pl.pos (fun n1 h1 => p_222_99 σ' (nI i) (fun w2 σ2 h2 => ?_))
      obtain ⟨rfl, rfl⟩ := cards hf h2
      refine ⟨fun c σ4 h4' => ?_, fun c w5 σ5 h5 => ?_⟩
      · have := (nI_leI (a := N) (b := i) (by omega) (by omega)).mp c
        have e : i = N := by omega
        subst e
        have hd' : ∀ p, p < 4 → σ2.1 125 p = dlF x i p := by
          intro p hp
          have hp2 := Nat.mul_le_mul_right (i / 4) (show p + 1 ≤ 4 by omega)
          rw [Nat.add_mul, Nat.one_mul] at hp2
          have e : clp (i / 4) p i = i / 4 := by unfold clp; omega
          rw [hd p hp, e]
          exact orF_cg _ (fun k hk => hS k (by omega))
        obtain ⟨k1, k2⟩ := begun hf hd' h4'
        exact ⟨rfl, k1, k2⟩
      · have hlt := nle_of (a := N) (b := i) (by omega) (by omega) c
        obtain ⟨rfl, rfl⟩ := hsz hf h5
        intro _
        have hh0 : 0 < N / 4 := by omega
        have hq : i / (N / 4) < 4 := (Nat.div_lt_iff_lt_mul hh0).mpr (by omega)
        have hmod := Nat.mod_lt i hh0
        have hdm : i / (N / 4) * (N / 4) + i % (N / 4) = i := by rw [Nat.mul_comm]; exact Nat.div_add_mod i (N / 4)
        rw [nI_div hh0 (by omega) (by omega), nI_clamp (n := i / (N / 4)) (by omega), nI_clamp (n := i) (by omega), hP i hlt, hd _ hq, nI_1]
        intro _ _ _
        have ca := clp_at (q := i / (N / 4)) hmod
        rw [hdm] at ca
        have hor : orF P (i / (N / 4) * (N / 4)) (clp (N / 4) (i / (N / 4)) i) ||| ((1 : Int32) <<< (P i &&& 31)) = orF P (i / (N / 4) * (N / 4)) (clp (N / 4) (i / (N / 4)) (i + 1)) := by
          rw [ca.1, ca.2]
          show _ = _ ||| ((1 : Int32) <<< (P (i / (N / 4) * (N / 4) + i % (N / 4)) &&& 31))
          rw [hdm]
        rw [hor]
        refine ih n1 (by omega) (i + 1) P _ (by omega) (fun k hk => by rw [s1_off (by omega)]; exact hP k hk) hS (fun p hp => ?_) (hf.put rfl (by omega))
        by_cases e : p = i / (N / 4)
        · subst e; rw [s1_on]
        · rw [s1_off (by omega), hd p hp]
          have cn := clp_ne (p := p) hmod e
          rw [hdm] at cn
          rw [cn]
  have zero : ∀ d n j (P : Nat → Int32) (σ' : Sg), j ≤ 4 → (∀ k, k < N → σ'.1 128 k = P k) → (∀ k, k < N → P k = shu x (N - 1) nI k) → (∀ p, p < j → σ'.1 125 p = 0) → rF σ σ' → Pl PRG n d 222 79 [(0, .ref 97), (2, .int (nI j))] [] σ' (fun v s' => v = some (.int 1) ∧ rGo (some (dlF x N, 0, C0, C0, 0)) s' ∧ rF σ s') := by
    intro d n
    induction n using Nat.strongRecOn with
    | _ n ih =>
      intro j P σ' hj hP hS hd hf
      refine Pl.pos (fun n1 h1 => p_222_79 σ' (nI j) ⟨fun c => ?_, fun c _ => ?_⟩)
      · have := (nI_leI (a := 4) (b := j) (by omega) (by omega)).mp c
        have e : j = 4 := by omega
        subst e
        exact share d n1 0 P σ' (Nat.zero_le _) hP hS (fun p hp => by
          rw [hd p hp, show clp (N / 4) p 0 = 0 by unfold clp; omega]; rfl) hf
      · have hlt := nle_of (a := 4) (b := j) (by omega) (by omega) c
        rw [nI_1, nI_clamp (by omega)]
        refine ih n1 (by omega) (j + 1) P _ (by omega) (fun k hk => by rw [s1_off (by omega)]; exact hP k hk) hS (fun p hp => ?_) (hf.put rfl (by omega))
        by_cases e : p = j
        · subst e; rw [s1_on]
        · rw [s1_off (by omega)]; exact hd p (by omega)
  have mix : ∀ d n i (P : Nat → Int32) (σ' : Sg), i < N → (∀ k, k < N → σ'.1 128 k = P k) → (∀ k, k < N → shu x i P k = shu x (N - 1) nI k) → rF σ σ' → Pl PRG n d 222 30 [(0, .ref 97), (1, .int x), (2, .int (nI i))] [] σ' (fun v s' => v = some (.int 1) ∧ rGo (some (dlF x N, 0, C0, C0, 0)) s' ∧ rF σ s') := by
    intro d n
    induction n using Nat.strongRecOn with
    | _ n ih =>
      intro i P σ' hi hP hS hf
      refine Pl.pos (fun n1 h1 => p_222_30 σ' x (nI i) ?_)
      cases i with
      | zero => exact ⟨fun _ => zero d n1 0 P σ' (Nat.zero_le _) hP hS (fun p hp => absurd hp (Nat.not_lt_zero _)) hf, fun c => absurd (by decide) c⟩
      | succ i =>
        refine ⟨fun c => absurd c (nI_nle (by omega) (by omega)), fun _ w2 σ2 h2 _ _ _ _ => ?_⟩
        rw [nI_1] at h2
        obtain ⟨rfl, rfl⟩ := m221 h2
        obtain ⟨j, hj, ej⟩ := loF_rg x (i := i + 1) (by omega)
        rw [ej, nI_clamp (by omega), nI_clamp (by omega), sub1, nI_pred]
        refine ih n1 (by omega) i _ _ (by omega) (swF_s1 hP hi (by omega)) (fun k hk => ?_) ((hf.put rfl (by omega)).put rfl (by omega))
        have := hS k hk
        rw [show shu x (i + 1) P = shu x i (swF P (i + 1) (loF x (i + 1)).toNatClampNeg) from rfl, ej, nI_clamp (by omega)] at this
        exact this
  have fill : ∀ d n i (σ' : Sg), i ≤ N → (∀ k, k < i → σ'.1 128 k = nI k) → rF σ σ' → Pl PRG n d 222 2 [(0, .ref 97), (1, .int x), (2, .int (nI i))] [] σ' (fun v s' => v = some (.int 1) ∧ rGo (some (dlF x N, 0, C0, C0, 0)) s' ∧ rF σ s') := by
    intro d n
    induction n using Nat.strongRecOn with
    | _ n ih =>
      intro i σ' hi hP hf
      refine Pl.pos (fun n1 h1 => p_222_2 σ' x (nI i) (fun w2 σ2 h2 => ?_))
      obtain ⟨rfl, rfl⟩ := cards hf h2
      refine ⟨fun c w4 σ4 h4' => ?_, fun c _ => ?_⟩
      · have := (nI_leI (a := N) (b := i) (by omega) (by omega)).mp c
        have e : i = N := by omega
        subst e
        obtain ⟨rfl, rfl⟩ := cards hf h4'
        rw [show nI i - 1 = nI (i - 1) from nI_subI (a := i) (b := 1) (by omega)]
        exact mix d n1 _ nI _ (by omega) hP (fun _ _ => rfl) hf
      · have hlt := nle_of (a := N) (b := i) (by omega) (by omega) c
        rw [nI_1, nI_clamp (by omega)]
        refine ih n1 (by omega) (i + 1) _ (by omega) (fun k hk => ?_) (hf.put rfl (by omega))
        by_cases e : k = i
        · subst e; rw [s1_on]
        · rw [s1_off (by omega)]; exact hP k (by omega)
  obtain ⟨e, h1⟩ := h.by (Q := fun v s' => v = some (.int 1) ∧ rGo (some (dlF x N, 0, C0, C0, 0)) s' ∧ rF σ s') (fun n d => p_222_0 σ x (fill d n 0 σ (Nat.zero_le _) (fun k hk => absurd hk (Nat.not_lt_zero _)) (rF.refl σ)))
  cases e
  exact ⟨rfl, h1⟩
def hQ (N : Nat) (x : Int32) : Prop := ¬ x < 0 ∧ ¬ alF N < x
theorem hO_iff {N : Nat} (hN : N ≤ 16) {x : Int32} : hO N x = true ↔ (hQ N x ∧ poF x 16 = nI (N / 4)) := by
  unfold hO hQ
  have h1 := sub_all hN (x := x)
  have all : ∀ N, N ≤ 16 → alF N = nI (2 ^ N - 1) := by decide
  have hp : 2 ^ N ≤ 2 ^ 16 := Nat.pow_le_pow_right (by omega) hN
  have eqb : ¬ x < 0 ∧ ¬ alF N < x → bcF x = poF x 16 := fun ⟨a, b⟩ => by
    rw [all N hN] at b
    rw [Int32.lt_iff_toInt_lt] at a
    rw [Int32.lt_iff_toInt_lt, nI_toInt (by omega)] at b
    have : (0 : Int32).toInt = 0 := rfl
    exact bcF_po (by omega) (by omega)
  rw [Bool.and_eq_true, decide_eq_true_eq, decide_eq_true_eq]
  constructor
  · intro ⟨a, b⟩
    have q := h1.mp a
    exact ⟨q, by rw [← eqb q]; exact b⟩
  · intro ⟨q, b⟩
    exact ⟨h1.mpr q, by rw [eqb q]; exact b⟩
theorem hd_iff {N : Nat} (hN : N ≤ 16) {a b c : Int32} : hdOK N a b c = true ↔ ((hQ N a ∧ hQ N b ∧ hQ N c) ∧ (a &&& b = 0 ∧ a &&& c = 0 ∧ b &&& c = 0) ∧ poF a 16 = nI (N / 4) ∧ poF b 16 = nI (N / 4) ∧ poF c 16 = nI (N / 4)) := by
  unfold hdOK
  rw [Bool.and_eq_true, Bool.and_eq_true, Bool.and_eq_true, Bool.and_eq_true, Bool.and_eq_true, decide_eq_true_eq, decide_eq_true_eq, decide_eq_true_eq, hO_iff hN, hO_iff hN, hO_iff hN]
  constructor
  · intro ⟨⟨a1, a2⟩, ⟨b1, b2⟩, ⟨c1, c2⟩, d1, d2, d3⟩
    exact ⟨⟨a1, b1, c1⟩, ⟨d1, d2, d3⟩, a2, b2, c2⟩
  · intro ⟨⟨a1, b1, c1⟩, ⟨d1, d2, d3⟩, a2, b2, c2⟩
    exact ⟨⟨a1, a2⟩, ⟨b1, b2⟩, ⟨c1, c2⟩, d1, d2, d3⟩
theorem u_hands {a b c : Int32} (h : RCx PRG n 223 [.ref 97, .int a, .int b, .int c] σ (some (.int w)) σ1) (hl : lV l) (hR : LR l.1 l.2.1 l.2.2.1 lv σ) (ho : rGo o σ) : w = (fHands l a b c o).1 ∧ rGo (fHands l a b c o).2 σ1 ∧ rF σ σ1 := by
  have hL := hl.1
  have hN := hL.2.2.2.2.1
  have iff := hd_iff hN (a := a) (b := b) (c := c)
  obtain ⟨v, e, h1, h2⟩ := h.by (Q := fun v s' => ∃ w, v = some (.int w) ∧ w = (fHands l a b c o).1 ∧ rGo (fHands l a b c o).2 s' ∧ rF σ s') (fun n d => p_223_0 σ a b c (fun w2 σ2 h2 => by
    obtain ⟨rfl, rfl⟩ := m210 h2 hL hR
    have nq : ¬ ((hQ (l.1 * l.2.1) a ∧ hQ (l.1 * l.2.1) b ∧ hQ (l.1 * l.2.1) c) ∧ (a &&& b = 0 ∧ a &&& c = 0 ∧ b &&& c = 0) ∧ poF a 16 = nI (l.1 * l.2.1 / 4) ∧ poF b 16 = nI (l.1 * l.2.1 / 4) ∧ poF c 16 = nI (l.1 * l.2.1 / 4)) → ∃ w, some (Value.int 0) = some (.int w) ∧ w = (fHands l a b c o).1 ∧ rGo (fHands l a b c o).2 σ2 ∧ rF σ2 σ2 := fun hq => by
      have hb : hdOK (l.1 * l.2.1) a b c = false := by
        cases hh : hdOK (l.1 * l.2.1) a b c with
        | false => rfl
        | true => exact absurd (iff.mp hh) hq
      exact ⟨0, rfl, by unfold fHands; rw [hb]; rfl, by unfold fHands; rw [hb]; exact ho, rF.refl _⟩
    intro w4 σ4 h4 _
    obtain ⟨rfl, k4⟩ := m195 h4
    refine ⟨fun z => Pl.pos (fun n2 _ => p_223_58 _ (nq (fun q => ?_))), fun z w6 σ6 h6 _ => ?_⟩
    · rcases k4 with ⟨e, -⟩ | ⟨-, k⟩
      · rw [e] at z; exact absurd z (by decide)
      · rcases k with k | k
        · exact q.1.1.1 k
        · exact q.1.1.2 k
    · rcases k4 with ⟨-, k4⟩ | ⟨e, -⟩
      · obtain ⟨rfl, k6⟩ := m195 h6
        refine ⟨fun z => Pl.pos (fun n2 _ => p_223_58 _ (nq (fun q => ?_))), fun z w8 σ8 h8 _ => ?_⟩
        · rcases k6 with ⟨e, -⟩ | ⟨-, k⟩
          · rw [e] at z; exact absurd z (by decide)
          · rcases k with k | k
            · exact q.1.2.1.1 k
            · exact q.1.2.1.2 k
        · rcases k6 with ⟨-, k6⟩ | ⟨e, -⟩
          · obtain ⟨rfl, k8⟩ := m195 h8
            refine ⟨fun z => Pl.pos (fun n2 _ => p_223_58 _ (nq (fun q => ?_))), fun z => ?_⟩
            · rcases k8 with ⟨e, -⟩ | ⟨-, k⟩
              · rw [e] at z; exact absurd z (by decide)
              · rcases k with k | k
                · exact q.1.2.2.1 k
                · exact q.1.2.2.2 k
            · rcases k8 with ⟨-, k8⟩ | ⟨e, -⟩
              · refine ⟨fun c1 => ⟨fun c2 => ⟨fun c3 w10 σ10 h10 w12 σ12 h12 => ?_, fun c3 => Pl.pos (fun n2 _ => p_223_58 _ (nq (fun q => c3 q.2.1.2.2)))⟩, fun c2 => Pl.pos (fun n2 _ => p_223_58 _ (nq (fun q => c2 q.2.1.2.1)))⟩, fun c1 => Pl.pos (fun n2 _ => p_223_58 _ (nq (fun q => c1 q.2.1.1)))⟩
                obtain ⟨rfl, rfl⟩ := m209 h10
                obtain ⟨rfl, rfl⟩ := m211 h12 hL hR
                refine ⟨fun e1 w14 σ14 h14 w16 σ16 h16 => ?_, fun e1 => Pl.pos (fun n2 _ => p_223_93 _ (nq (fun q => e1 q.2.2.1)))⟩
                obtain ⟨rfl, rfl⟩ := m209 h14
                obtain ⟨rfl, rfl⟩ := m211 h16 hL hR
                refine ⟨fun e2 w18 σ18 h18 w20 σ20 h20 => ?_, fun e2 => Pl.pos (fun n2 _ => p_223_93 _ (nq (fun q => e2 q.2.2.2.1)))⟩
                obtain ⟨rfl, rfl⟩ := m209 h18
                obtain ⟨rfl, rfl⟩ := m211 h20 hL hR
                refine ⟨fun e3 σ22 h22 => ?_, fun e3 => Pl.pos (fun n2 _ => p_223_93 _ (nq (fun q => e3 q.2.2.2.2)))⟩
                have hb : hdOK (l.1 * l.2.1) a b c = true := iff.mpr ⟨⟨k4, k6, k8⟩, ⟨c1, c2, c3⟩, e1, e2, e3⟩
                have hh : fHands l a b c o = (1, some (d4 a b c (alF (l.1 * l.2.1) &&& (((a ||| b) ||| c) ^^^ (-1))), 0, C0, C0, 0)) := by unfold fHands; rw [hb]; rfl
                rw [hh]
                have hd' : ∀ p, p < 4 → (s1 (s1 (s1 (s1 σ20 125 0 a) 125 1 b) 125 2 c) 125 3 ((((((1 : Int32) <<< (nI (l.1 * l.2.1) &&& 31)) - (1 : Int32)) &&& (a ^^^ (-1 : Int32))) &&& (b ^^^ (-1 : Int32))) &&& (c ^^^ (-1 : Int32)))).1 125 p = d4 a b c (alF (l.1 * l.2.1) &&& (((a ||| b) ||| c) ^^^ (-1))) p := by
                  intro p hp
                  rcases (show p = 0 ∨ p = 1 ∨ p = 2 ∨ p = 3 by omega) with rfl | rfl | rfl | rfl
                  · iterate 3 rw [s1_off (by omega)]
                    rw [s1_on]; rfl
                  · iterate 2 rw [s1_off (by omega)]
                    rw [s1_on]; rfl
                  · rw [s1_off (by omega), s1_on]; rfl
                  · rw [s1_on]; exact and_abc
                obtain ⟨q1, q2⟩ := begun (σ0 := σ20) (((((rF.refl σ20).put rfl (by omega)).put rfl (by omega)).put rfl (by omega)).put rfl (by omega)) hd' h22
                exact ⟨1, rfl, rfl, q1, q2⟩
              · exact absurd e z
          · exact absurd e z
      · exact absurd e z))
  cases e
  exact ⟨h1, h2⟩
end Um
