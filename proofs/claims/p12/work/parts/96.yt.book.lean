/-! gain, bestSet: the reference; book: both sides -/
def kR (c j : Nat) : Prop := (106 ≤ c ∧ c ≤ 111) ∨ (152 ≤ c ∧ c ≤ 157) ∨ (c = 97 ∧ (j = 18 ∨ j = 86))
def kA (σ0 σ : Sg) : Prop := (∀ p, p < 4 → σ.1 147 p = σ0.1 125 p) ∧ (∀ k, k < 16 → σ.1 148 k = σ0.1 126 k ∧ σ.1 149 k = σ0.1 127 k) ∧ (σ.1 97 80 = σ0.1 97 45 ∧ σ.1 97 82 = σ0.1 97 47 ∧ σ.1 97 83 = σ0.1 97 48) ∧ (∀ c j, kR c j → σ.1 c j = σ0.1 c j) ∧ cS σ0 σ
section Yt
variable {A : AA} {n : Nat} {x y z w : Int32} {σ σ1 : Sg} {v : Option Value}
theorem r305 (h : RCx PRG n 305 [.ref 97] σ v σ1) : kA σ σ1 := by
  have two : ∀ d n k (σ' : Sg), k ≤ 16 → (∀ p, p < 4 → σ'.1 147 p = σ.1 125 p) → (∀ i, i < k → σ'.1 148 i = σ.1 126 i ∧ σ'.1 149 i = σ.1 127 i) → (σ'.1 97 80 = σ.1 97 45 ∧ σ'.1 97 82 = σ.1 97 47 ∧ σ'.1 97 83 = σ.1 97 48) → (∀ c j, kR c j → σ'.1 c j = σ.1 c j) → cS σ σ' → (∀ j, σ'.1 126 j = σ.1 126 j) → (∀ j, σ'.1 127 j = σ.1 127 j) → Pl PRG n d 305 51 [(0, .ref 97), (1, .int (nI k))] [] σ' (fun _ s' => kA σ s') := by
    intro d n
    induction n using Nat.strongRecOn with
    | _ n ih =>
      intro k σ' hk a1 a2 a3 a4 a5 a6 a7
      refine Pl.pos (fun n1 h1 => p_305_51 σ' (nI k) ⟨fun c => ?_, fun c _ _ _ _ => ?_⟩)
      · have := (nI_leI (a := 16) (b := k) (by omega) (by omega)).mp c
        exact ⟨a1, fun i hi => a2 i (by omega), a3, a4, a5⟩
      · have hlt := nle_of (a := 16) (b := k) (by omega) (by omega) c
        rw [nI_1, nI_clamp (by omega), a6, a7]
        refine ih n1 (by omega) (k + 1) _ (by omega) (fun p hp => by rw [s1_off (by omega), s1_off (by omega)]; exact a1 p hp) (fun i hi => ?_) ⟨by rw [s1_off (by omega), s1_off (by omega)]; exact a3.1, by rw [s1_off (by omega), s1_off (by omega)]; exact a3.2.1, by rw [s1_off (by omega), s1_off (by omega)]; exact a3.2.2⟩ (fun c j hc => by unfold kR at hc; rw [s1_off (by omega), s1_off (by omega)]; exact a4 c j hc) ((a5.put (by decide)).put (by decide)) (fun j => by rw [s1_off (by omega), s1_off (by omega)]; exact a6 j) (fun j => by rw [s1_off (by omega), s1_off (by omega)]; exact a7 j)
        by_cases e : i = k
        · subst e; exact ⟨by rw [s1_off (by omega), s1_on], by rw [s1_on]⟩
        · exact ⟨by rw [s1_off (by omega), s1_off (by omega)]; exact (a2 i (by omega)).1, by rw [s1_off (by omega), s1_off (by omega)]; exact (a2 i (by omega)).2⟩
  have one' : ∀ d n k (σ' : Sg), k ≤ 4 → (∀ p, p < k → σ'.1 147 p = σ.1 125 p) → (σ'.1 97 80 = σ.1 97 45 ∧ σ'.1 97 82 = σ.1 97 47 ∧ σ'.1 97 83 = σ.1 97 48) → (∀ c j, kR c j → σ'.1 c j = σ.1 c j) → cS σ σ' → (∀ j, σ'.1 126 j = σ.1 126 j) → (∀ j, σ'.1 127 j = σ.1 127 j) → (∀ j, σ'.1 125 j = σ.1 125 j) → Pl PRG n d 305 26 [(0, .ref 97), (1, .int (nI k))] [] σ' (fun _ s' => kA σ s') := by
    intro d n
    induction n using Nat.strongRecOn with
    | _ n ih =>
      intro k σ' hk a1 a3 a4 a5 a6 a7 a8
      refine Pl.pos (fun n1 h1 => p_305_26 σ' (nI k) ⟨fun c => ?_, fun c _ _ => ?_⟩)
      · have := (nI_leI (a := 4) (b := k) (by omega) (by omega)).mp c
        exact two d n1 0 σ' (by omega) (fun p hp => a1 p (by omega)) (fun i hi => absurd hi (Nat.not_lt_zero _)) a3 a4 a5 a6 a7
      · have hlt := nle_of (a := 4) (b := k) (by omega) (by omega) c
        rw [nI_1, nI_clamp (by omega), a8]
        refine ih n1 (by omega) (k + 1) _ (by omega) (fun p hp => ?_) ⟨by rw [s1_off (by omega)]; exact a3.1, by rw [s1_off (by omega)]; exact a3.2.1, by rw [s1_off (by omega)]; exact a3.2.2⟩ (fun c j hc => by unfold kR at hc; rw [s1_off (by omega)]; exact a4 c j hc) (a5.put (by decide)) (fun j => by rw [s1_off (by omega)]; exact a6 j) (fun j => by rw [s1_off (by omega)]; exact a7 j) (fun j => by rw [s1_off (by omega)]; exact a8 j)
        by_cases e : p = k
        · subst e; rw [s1_on]
        · rw [s1_off (by omega)]; exact a1 p (by omega)
  refine h.by (Q := fun _ s' => kA σ s') (fun n d => p_305_0 σ (fun _ => one' d n 0 _ (by decide) (fun p hp => absurd hp (Nat.not_lt_zero _)) ⟨?_, ?_, ?_⟩ (fun c j hc => ?_) ((((cS.refl σ).put (by decide)).put (by decide)).put (by decide)) (fun j => ?_) (fun j => ?_) (fun j => ?_)))
  · rw [s1_off (by omega), s1_off (by omega), s1_on]
  · rw [s1_off (by omega), s1_on]
  · rw [s1_on]
  · unfold kR at hc
    rw [s1_off (by omega), s1_off (by omega), s1_off (by omega)]
  · rw [s1_off (by omega), s1_off (by omega), s1_off (by omega)]
  · rw [s1_off (by omega), s1_off (by omega), s1_off (by omega)]
  · rw [s1_off (by omega), s1_off (by omega), s1_off (by omega)]
theorem kA.tr {σ0 : Sg} (hK : kA σ0 σ) (h : RCx PRG n 304 [.ref 97, .int x, .int y, .int z] σ v σ1) : kA σ0 σ1 := by
  have f := frGm h (by decide) (by decide) rfl
  have fl : ∀ k, nfS PRG SGm 12 k = true → σ1.1 97 k = σ.1 97 k := fun k hk => h.fldQ (q0 := 97) (c := 12) (k0 := k) rfl hk (by decide)
  obtain ⟨a1, a2, a3, a4, a5⟩ := hK
  refine ⟨fun p hp => (f 147 (by decide) rfl p).trans (a1 p hp), fun k hk => ⟨(f 148 (by decide) rfl k).trans (a2 k hk).1, (f 149 (by decide) rfl k).trans (a2 k hk).2⟩, ⟨(fl 80 nfGm80).trans a3.1, (fl 82 nfGm82).trans a3.2.1, (fl 83 nfGm83).trans a3.2.2⟩, fun c j hc => ?_, a5.trans (f.cS rfl)⟩
  refine Eq.trans ?_ (a4 c j hc)
  rcases hc with ⟨a, b⟩ | ⟨a, b⟩ | ⟨rfl, a⟩
  · have : ∀ c, 106 ≤ c → c ≤ 111 → EGm.contains c = false := by
      intro c a b
      rcases (show c = 106 ∨ c = 107 ∨ c = 108 ∨ c = 109 ∨ c = 110 ∨ c = 111 by omega) with rfl | rfl | rfl | rfl | rfl | rfl <;> rfl
    exact f c (by omega) (this c a b) j
  · have : ∀ c, 152 ≤ c → c ≤ 157 → EGm.contains c = false := by
      intro c a b
      rcases (show c = 152 ∨ c = 153 ∨ c = 154 ∨ c = 155 ∨ c = 156 ∨ c = 157 by omega) with rfl | rfl | rfl | rfl | rfl | rfl <;> rfl
    exact f c (by omega) (this c a b) j
  · rcases a with rfl | rfl
    · exact fl 18 nfGm18
    · exact fl 86 nfGm86
def kB (σ0 σ : Sg) : Prop := (σ.1 97 45 = σ0.1 97 45 ∧ σ.1 97 47 = σ0.1 97 47 ∧ σ.1 97 48 = σ0.1 97 48) ∧ (∀ c j, kR c j → σ.1 c j = σ0.1 c j) ∧ cS σ0 σ
theorem r306 {σ0 : Sg} (hv : V7 A) (hR : R7 A σ0) (hK : kA σ0 σ) (h : RCx PRG n 306 [.ref 97] σ v σ1) : R7 A σ1 ∧ cS σ0 σ1 := by
  obtain ⟨b1, b2, b3, b4, b5⟩ := hK
  have fin : ∀ σ', kB σ0 σ' → (∀ p, p < 4 → σ'.1 125 p = σ0.1 125 p) → (∀ i, i < 16 → σ'.1 126 i = σ0.1 126 i ∧ σ'.1 127 i = σ0.1 127 i) → R7 A σ' ∧ cS σ0 σ' := fun σ' hb hp hi => by
    obtain ⟨⟨e45, e47, e48⟩, k1, k2⟩ := hb
    refine ⟨?_, k2⟩
    obtain ⟨r1, r2, r3, r4, r5⟩ := hR
    refine ⟨r1.keep (fun q hq j => k1 q j (Or.inl (by omega))) (k1 97 18 (Or.inr (Or.inr ⟨rfl, by omega⟩))), ?_, r3.keep (le16' hv.1 hv.2.2.1) (fun c j hc => k1 c j (Or.inr (Or.inl (by unfold hIn at hc; omega)))), r4.keep (le16' hv.1 hv.2.2.2.1) (fun c j hc => k1 c j (Or.inr (Or.inl (by unfold hIn at hc; omega)))), (k1 97 86 (Or.inr (Or.inr ⟨rfl, by omega⟩))).trans r5⟩
    cases hg : A.2.1 with
    | none => rw [hg] at r2; exact ⟨e45.trans r2.1, e48.trans r2.2⟩
    | some g =>
      rw [hg] at r2
      have hm := le16' hv.1 hv.2.1 g hg
      exact ⟨e45.trans r2.1, e47.trans r2.2.1, e48.trans r2.2.2.1, fun p h4 => (hp p h4).trans (r2.2.2.2.1 p h4), fun i h => ⟨(hi i (by omega)).1.trans (r2.2.2.2.2 i h).1, (hi i (by omega)).2.trans (r2.2.2.2.2 i h).2⟩⟩
  have two : ∀ d n k (σ' : Sg), k ≤ 16 → kB σ0 σ' → (∀ p, p < 4 → σ'.1 125 p = σ0.1 125 p) → (∀ i, i < k → σ'.1 126 i = σ0.1 126 i ∧ σ'.1 127 i = σ0.1 127 i) → (∀ j, σ'.1 148 j = σ.1 148 j) → (∀ j, σ'.1 149 j = σ.1 149 j) → Pl PRG n d 306 51 [(0, .ref 97), (1, .int (nI k))] [] σ' (fun _ s' => R7 A s' ∧ cS σ0 s') := by
    intro d n
    induction n using Nat.strongRecOn with
    | _ n ih =>
      intro k σ' hk a1 a2 a3 a6 a7
      refine Pl.pos (fun n1 h1 => p_306_51 σ' (nI k) ⟨fun c => ?_, fun c _ _ _ _ => ?_⟩)
      · have := (nI_leI (a := 16) (b := k) (by omega) (by omega)).mp c
        exact fin σ' a1 a2 (fun i hi => a3 i (by omega))
      · have hlt := nle_of (a := 16) (b := k) (by omega) (by omega) c
        rw [nI_1, nI_clamp (by omega), a6, a7, (b2 k hlt).1, (b2 k hlt).2]
        obtain ⟨c1, c2, c3⟩ := a1
        refine ih n1 (by omega) (k + 1) _ (by omega) ⟨⟨by rw [s1_off (by omega), s1_off (by omega)]; exact c1.1, by rw [s1_off (by omega), s1_off (by omega)]; exact c1.2.1, by rw [s1_off (by omega), s1_off (by omega)]; exact c1.2.2⟩, fun c j hc => by unfold kR at hc; rw [s1_off (by omega), s1_off (by omega)]; exact c2 c j hc, (c3.put (by decide)).put (by decide)⟩ (fun p hp => by rw [s1_off (by omega), s1_off (by omega)]; exact a2 p hp) (fun i hi => ?_) (fun j => by rw [s1_off (by omega), s1_off (by omega)]; exact a6 j) (fun j => by rw [s1_off (by omega), s1_off (by omega)]; exact a7 j)
        by_cases e : i = k
        · subst e; exact ⟨by rw [s1_off (by omega), s1_on], by rw [s1_on]⟩
        · exact ⟨by rw [s1_off (by omega), s1_off (by omega)]; exact (a3 i (by omega)).1, by rw [s1_off (by omega), s1_off (by omega)]; exact (a3 i (by omega)).2⟩
  have one' : ∀ d n k (σ' : Sg), k ≤ 4 → kB σ0 σ' → (∀ p, p < k → σ'.1 125 p = σ0.1 125 p) → (∀ j, σ'.1 147 j = σ.1 147 j) → (∀ j, σ'.1 148 j = σ.1 148 j) → (∀ j, σ'.1 149 j = σ.1 149 j) → Pl PRG n d 306 26 [(0, .ref 97), (1, .int (nI k))] [] σ' (fun _ s' => R7 A s' ∧ cS σ0 s') := by
    intro d n
    induction n using Nat.strongRecOn with
    | _ n ih =>
      intro k σ' hk a1 a2 a5 a6 a7
      refine Pl.pos (fun n1 h1 => p_306_26 σ' (nI k) ⟨fun c => ?_, fun c _ _ => ?_⟩)
      · have := (nI_leI (a := 4) (b := k) (by omega) (by omega)).mp c
        exact two d n1 0 σ' (by omega) a1 (fun p hp => a2 p (by omega)) (fun i hi => absurd hi (Nat.not_lt_zero _)) a6 a7
      · have hlt := nle_of (a := 4) (b := k) (by omega) (by omega) c
        rw [nI_1, nI_clamp (by omega), a5, b1 k hlt]
        obtain ⟨c1, c2, c3⟩ := a1
        refine ih n1 (by omega) (k + 1) _ (by omega) ⟨⟨by rw [s1_off (by omega)]; exact c1.1, by rw [s1_off (by omega)]; exact c1.2.1, by rw [s1_off (by omega)]; exact c1.2.2⟩, fun c j hc => by unfold kR at hc; rw [s1_off (by omega)]; exact c2 c j hc, c3.put (by decide)⟩ (fun p hp => ?_) (fun j => by rw [s1_off (by omega)]; exact a5 j) (fun j => by rw [s1_off (by omega)]; exact a6 j) (fun j => by rw [s1_off (by omega)]; exact a7 j)
        by_cases e : p = k
        · subst e; rw [s1_on]
        · rw [s1_off (by omega)]; exact a2 p (by omega)
  refine h.by (Q := fun _ s' => R7 A s' ∧ cS σ0 s') (fun n d => p_306_0 σ (fun _ => one' d n 0 _ (by decide) ⟨⟨?_, ?_, ?_⟩, fun c j hc => ?_, ((b5.put (by decide)).put (by decide)).put (by decide)⟩ (fun p hp => absurd hp (Nat.not_lt_zero _)) (fun j => ?_) (fun j => ?_) (fun j => ?_)))
  · rw [s1_off (by omega), s1_off (by omega), s1_on]; exact b3.1
  · rw [s1_off (by omega), s1_on]; exact b3.2.1
  · rw [s1_on]; exact b3.2.2
  · have hc' := hc
    unfold kR at hc'
    rw [s1_off (by omega), s1_off (by omega), s1_off (by omega)]
    exact b4 c j hc
  · rw [s1_off (by omega), s1_off (by omega), s1_off (by omega)]
  · rw [s1_off (by omega), s1_off (by omega), s1_off (by omega)]
  · rw [s1_off (by omega), s1_off (by omega), s1_off (by omega)]
theorem m_gain (hv : V7 A) (hR : R7 A σ) (h : RCx PRG n 308 [.ref 97, .int x, .int y, .int z] σ v σ1) : R7 A σ1 ∧ cS σ σ1 := by
  refine h.by (Q := fun _ s' => R7 A s' ∧ cS σ s') (fun n d => p_308_0 σ x y z (fun w2 σ2 h2 _ => ?_))
  obtain ⟨r2, c2⟩ := m_askR hv hR h2 (by decide) (by decide) (by decide) rfl
  refine ⟨fun _ => Pl.pos (fun n2 _ => p_308_16 σ2 ⟨r2, c2⟩), fun _ w4 σ4 h4 _ => ?_⟩
  obtain ⟨r4, c4⟩ := m_askR hv r2 h4 (by decide) (by decide) (by decide) rfl
  refine ⟨fun _ => Pl.pos (fun n2 _ => p_308_16 σ4 ⟨r4, c2.trans c4⟩), fun _ σ5 h5 w6 σ6 h6 w8 σ8 h8 σ10 h10 => ?_⟩
  obtain ⟨a, b⟩ := r306 hv r4 (((r305 h5).tr h6).tr h8) h10
  exact ⟨a, (c2.trans c4).trans b⟩
theorem m_best (hv : V7 A) (hR : R7 A σ) (h : RCx PRG n 309 [.ref 97, .int x, .int y, .int z] σ v σ1) : R7 A σ1 ∧ cS σ σ1 := by
  have loop : ∀ d n x4 x5 x6 x7 (σ0 σ' : Sg), R7 A σ0 → cS σ σ0 → kA σ0 σ' → Pl PRG n d 309 43 [(0, .ref 97), (1, .int x), (2, .int y), (3, .int z), (4, .int x4), (5, .int x5), (6, .int x6), (7, .int x7)] [] σ' (fun _ s' => R7 A s' ∧ cS σ s') := by
    intro d n
    induction n using Nat.strongRecOn with
    | _ n ih =>
      intro x4 x5 x6 x7 σ0 σ' r0 c0 hK
      refine Pl.pos (fun n1 h1 => p_309_43 σ' x y z x4 x5 x6 x7 (fun _ => ⟨fun _ σ2 h2 => ?_, fun _ w3 σ3 h3 => ?_⟩))
      · obtain ⟨a, b⟩ := r306 hv r0 hK h2
        exact ⟨fun _ => ⟨a, c0.trans b⟩, fun _ => ⟨a, c0.trans b⟩⟩
      · have k3 := hK.tr h3
        exact ⟨fun _ => Pl.pos (fun n2 h2' => p_309_90 σ3 x y z _ _ _ _ (ih n2 (by omega) _ _ _ _ σ0 σ3 r0 c0 k3)), fun _ => Pl.pos (fun n2 h2' => p_309_90 σ3 x y z _ _ _ _ (ih n2 (by omega) _ _ _ _ σ0 σ3 r0 c0 k3))⟩
  refine h.by (Q := fun _ s' => R7 A s' ∧ cS σ s') (fun n d => p_309_0 σ x y z (fun w2 σ2 h2 _ => ?_))
  obtain ⟨r2, c2⟩ := m_askR hv hR h2 (by decide) (by decide) (by decide) rfl
  refine ⟨fun _ => Pl.pos (fun n2 _ => p_309_17 σ2 ⟨r2, c2⟩), fun _ w4 σ4 h4 _ => ?_⟩
  obtain ⟨rfl, -⟩ := m195 h4
  exact ⟨fun _ => Pl.pos (fun n2 _ => p_309_17 _ ⟨r2, c2⟩), fun _ σ5 h5 w6 σ6 h6 => loop d n _ _ _ _ _ σ6 r2 c2 ((r305 h5).tr h6)⟩
/-! book -/
def fBook (A : AA) : Int32 × AA := match A.2.1 with
  | none => (-1, A)
  | some g => if g.2.2.2.2 = A.1.1 * A.1.2.1 ∧ A.2.2.2.2 < 8 then (nI A.2.2.2.2, (A.1, A.2.1, A.2.2.1, A.2.2.2.1, A.2.2.2.2 + 1)) else (-1, A)
theorem fBook_n (h : A.2.1 = none) : fBook A = (-1, A) := by unfold fBook; rw [h]
theorem fBook_s {g : GA} (h : A.2.1 = some g) : fBook A = if g.2.2.2.2 = A.1.1 * A.1.2.1 ∧ A.2.2.2.2 < 8 then (nI A.2.2.2.2, (A.1, A.2.1, A.2.2.1, A.2.2.2.1, A.2.2.2.2 + 1)) else (-1, A) := by unfold fBook; rw [h]
theorem v_book (h : V7 A) : V7 (fBook A).2 := by
  cases hg : A.2.1 with
  | none => rw [fBook_n hg]; exact h
  | some g =>
    rw [fBook_s hg]
    split
    · rename_i c
      exact ⟨h.1, h.2.1, h.2.2.1, h.2.2.2.1, by show A.2.2.2.2 + 1 ≤ 8; omega⟩
    · exact h
def eqO (l : LA) (o : Option GA) : Bool := match o with
  | none => false
  | some g => decide (g.2.2.2.2 = l.1 * l.2.1)
theorem rc68 (h : RCx PRG n 68 [.ref 22] σ (some (.int w)) σ1) (hv : V7 A) (hC : C7 A σ) : σ1 = σ ∧ ((w = 1 ∧ eqO A.1 A.2.1 = true) ∨ (w = 0 ∧ eqO A.1 A.2.1 = false)) := by
  have hN := hv.1.1.2.2.2.2.1
  obtain ⟨a, b⟩ := h.by (Q := fun v s' => s' = σ ∧ ((v = some (.int 1) ∧ eqO A.1 A.2.1 = true) ∨ (v = some (.int 0) ∧ eqO A.1 A.2.1 = false))) (fun n d => p_68_0 σ (by
    have c2 := hC.2.1
    cases hg : A.2.1 with
    | none =>
      rw [hg] at c2
      exact ⟨fun _ => Pl.pos (fun n2 _ => p_68_25 σ ⟨rfl, Or.inr ⟨rfl, rfl⟩⟩), fun z => absurd c2.1 z⟩
    | some g =>
      rw [hg] at c2
      have hG : gC22 A.1.1 A.1.2.1 A.1.2.2.1 g.1 g.2.1 g.2.2.1 g.2.2.2.1 g.2.2.2.2 σ := c2
      have hm := le16' hv.1 hv.2.1 g hg
      rw [hG.1, hG.2.2.2.1, hC.1.1.2.2.2.1]
      refine ⟨fun z => absurd z (by decide), fun _ => ⟨fun e => ⟨rfl, Or.inl ⟨rfl, ?_⟩⟩, fun e => Pl.pos (fun n2 _ => p_68_25 σ ⟨rfl, Or.inr ⟨rfl, ?_⟩⟩)⟩⟩
      · exact decide_eq_true ((nI_eq (by omega) (by omega)).mp e)
      · exact decide_eq_false (fun e' => e (by rw [e']))))
  refine ⟨a, ?_⟩
  rcases b with ⟨b, c⟩ | ⟨b, c⟩
  · cases b; exact Or.inl ⟨rfl, c⟩
  · cases b; exact Or.inr ⟨rfl, c⟩
theorem rc5 {k : Nat} (hk : k < 8) (h93 : σ.1 93 2 = nI k) (h : RCx PRG n 5 [.ref 93, .ref 22] σ (some (.int w)) σ1) : w = nI k ∧ σ1.1 93 2 = nI (k + 1) ∧ exc [93, 94, 95] σ σ1 := by
  have main : ∀ d n, (∀ x2 (σ' : Sg), σ'.1 93 2 = nI k → exc [93, 94, 95] σ σ' → Pl PRG n d 5 13 [(0, .ref 93), (1, .ref 22), (2, .int x2)] [] σ' (fun v s' => v = some (.int (nI k)) ∧ s'.1 93 2 = nI (k + 1) ∧ exc [93, 94, 95] σ s')) ∧ (∀ x2 x3 x4 (σ' : Sg), σ'.1 93 2 = nI k → exc [93, 94, 95] σ σ' → Pl PRG n d 5 46 [(0, .ref 93), (1, .ref 22), (2, .int x2), (3, .int x3), (4, .int x4)] [] σ' (fun v s' => v = some (.int (nI k)) ∧ s'.1 93 2 = nI (k + 1) ∧ exc [93, 94, 95] σ s')) := by
    intro d n
    induction n using Nat.strongRecOn with
    | _ n ih =>
      refine ⟨fun x2 σ' e hf => Pl.pos (fun n1 h1 => p_5_13 σ' x2 ⟨fun _ => ?_, fun _ _ _ => ?_⟩), fun x2 x3 x4 σ' e hf => Pl.pos (fun n1 h1 => p_5_46 σ' x2 x3 x4 ⟨fun _ => ?_, fun _ _ _ _ _ _ _ => ?_⟩)⟩
      · rw [e, nI_1, nI_pred]
        exact ⟨rfl, s1_on, hf.put rfl⟩
      · exact (ih n1 (by omega)).2 _ _ _ _ (by rw [s1_off (by omega), s1_off (by omega)]; exact e) ((hf.put rfl).put rfl)
      · exact (ih n1 (by omega)).1 _ σ' e hf
      · exact (ih n1 (by omega)).2 _ _ _ _ (by rw [s1_off (by omega), s1_off (by omega)]; exact e) ((hf.put rfl).put rfl)
  obtain ⟨b, c⟩ := h.by (Q := fun v s' => v = some (.int (nI k)) ∧ s'.1 93 2 = nI (k + 1) ∧ exc [93, 94, 95] σ s') (fun n d => p_5_0 σ (by
    rw [h93]
    exact ⟨fun _ => (main d n).1 0 σ h93 (exc.refl σ), fun c => absurd (nI_lt (a := k) (b := 8) hk (by decide)) c⟩))
  cases b
  exact ⟨rfl, c⟩
theorem t_book (h : RCx PRG n 167 [.ref 0] σ (some (.int w)) σ1) (hv : V7 A) (hC : C7 A σ) : w = (fBook A).1 ∧ C7 (fBook A).2 σ1 ∧ mS σ σ1 := by
  have hb8 := hv.2.2.2.2
  obtain ⟨v, e, h1, h2⟩ := h.by (Q := fun v s' => ∃ w, v = some (.int w) ∧ w = (fBook A).1 ∧ C7 (fBook A).2 s' ∧ mS σ s') (fun n d => p_167_0 σ (fun w2 σ2 h2 _ => by
    obtain ⟨rfl, k⟩ := rc68 h2 hv hC
    have no : ∀ n2, fBook A = (-1, A) → Pl PRG n2 d 167 22 [] [] σ2 (fun v s' => ∃ w, v = some (.int w) ∧ w = (fBook A).1 ∧ C7 (fBook A).2 s' ∧ mS σ2 s') := fun n2 he => Pl.pos (fun n3 _ => p_167_22 σ2 ⟨-1, rfl, by rw [he], by rw [he]; exact hC, mS.refl σ2⟩)
    refine ⟨fun z => no _ ?_, fun z => ?_⟩
    · rcases k with ⟨e, -⟩ | ⟨-, k⟩
      · rw [e] at z; exact absurd z (by decide)
      · cases hg : A.2.1 with
        | none => exact fBook_n hg
        | some g =>
          rw [hg] at k
          rw [fBook_s hg, if_neg (fun h => of_decide_eq_false k h.1)]
    · rcases k with ⟨-, k⟩ | ⟨e, -⟩
      · cases hg : A.2.1 with
        | none => rw [hg] at k; exact absurd k Bool.false_ne_true
        | some g =>
          rw [hg] at k
          have em := of_decide_eq_true k
          rw [hC.2.2.2.2]
          refine ⟨fun c w4 σ4 h4 => ?_, fun c => no _ ?_⟩
          · have hk := (nI_ltI (a := A.2.2.2.2) (b := 8) (by omega) (by decide)).mp c
            obtain ⟨k1, k2, k3⟩ := rc5 hk hC.2.2.2.2 h4
            have e : fBook A = (nI A.2.2.2.2, (A.1, A.2.1, A.2.2.1, A.2.2.2.1, A.2.2.2.2 + 1)) := by rw [fBook_s hg, if_pos ⟨em, hk⟩]
            rw [e]
            obtain ⟨c1, c2, c3, c4, c5⟩ := hC
            exact ⟨w4, rfl, k1, ⟨c1.fr k3 rfl rfl rfl rfl rfl, c2.fr k3 rfl rfl, c3.fr k3 rfl rfl, c4.fr k3 rfl rfl, k2⟩, k3.mS rfl⟩
          · rw [fBook_s hg, if_neg (fun h => c (nI_lt h.2 (by decide)))]
      · exact absurd e z))
  cases e
  exact ⟨h1, h2⟩
/-- as it was, but for the books -/
def rK (lv : Nat) (σ σ' : Sg) : Prop := (∀ c j, rIn lv c j → ¬ (c = 97 ∧ j = 86) → σ'.1 c j = σ.1 c j) ∧ cS σ σ'
theorem u_book (h : RCx PRG n 310 [.ref 97] σ (some (.int w)) σ1) (hv : V7 A) (hR : R7 A σ) : w = (fBook A).1 ∧ R7 (fBook A).2 σ1 ∧ cS σ σ1 := by
  have hb8 := hv.2.2.2.2
  have hN := hv.1.1.2.2.2.2.1
  obtain ⟨lv, hl2, h18⟩ := hR.lv
  have hR0 := hR
  obtain ⟨r1, r2, r3, r4, r5⟩ := hR
  obtain ⟨v, e, h1, h2⟩ := h.by (Q := fun v s' => ∃ w, v = some (.int w) ∧ w = (fBook A).1 ∧ R7 (fBook A).2 s' ∧ cS σ s') (fun n d => p_310_0 σ (by
    have no : ∀ n2, fBook A = (-1, A) → Pl PRG n2 d 310 27 [] [] σ (fun v s' => ∃ w, v = some (.int w) ∧ w = (fBook A).1 ∧ R7 (fBook A).2 s' ∧ cS σ s') := fun n2 he => Pl.pos (fun n3 _ => p_310_27 σ ⟨-1, rfl, by rw [he], by rw [he]; exact hR0, cS.refl σ⟩)
    cases hg : A.2.1 with
    | none =>
      rw [hg] at r2
      exact ⟨fun _ => no _ (fBook_n hg), fun z => absurd r2.1 z⟩
    | some g =>
      rw [hg] at r2
      have hG : rG g.1 g.2.1 g.2.2.1 g.2.2.2.1 g.2.2.2.2 σ := r2
      have hm := le16' hv.1 hv.2.1 g hg
      have hmN : g.2.2.2.2 ≤ A.1.1 * A.1.2.1 := by
        have := hv.2.1
        rw [hg] at this
        exact (show gV _ _ _ _ _ _ _ _ from this).2.1
      rw [hG.1, hG.2.2.1]
      refine ⟨fun z => absurd z (by decide), fun _ w2 σ2 h2 => ?_⟩
      obtain ⟨lv', hlr, -⟩ := r1
      obtain ⟨rfl, rfl⟩ := m210 h2 hv.1.1 hlr
      refine ⟨fun c => no _ ?_, fun c => ?_⟩
      · have := (nI_ltI (by omega) (by omega)).mp c
        rw [fBook_s hg, if_neg (fun h => by omega)]
      · have em : g.2.2.2.2 = A.1.1 * A.1.2.1 := by
          rcases Nat.lt_or_ge g.2.2.2.2 (A.1.1 * A.1.2.1) with q | q
          · exact absurd (nI_lt q (by omega)) c
          · omega
        rw [r5]
        refine ⟨fun c8 => no _ ?_, fun c8 => ?_⟩
        · have := (nI_eq (a := A.2.2.2.2) (b := 8) (by omega) (by decide)).mp c8
          rw [fBook_s hg, if_neg (fun h => by omega)]
        · have hk : A.2.2.2.2 < 8 := by
            rcases Nat.lt_or_ge A.2.2.2.2 8 with q | q
            · exact q
            · exact absurd (by rw [show A.2.2.2.2 = 8 by omega]; rfl) c8
          have e : fBook A = (nI A.2.2.2.2, (A.1, A.2.1, A.2.2.1, A.2.2.2.1, A.2.2.2.2 + 1)) := by rw [fBook_s hg, if_pos ⟨em, hk⟩]
          have fin : ∀ σ' : Sg, rK lv σ2 σ' → R7 (fBook A).2 (s1 σ' 97 86 (nI (A.2.2.2.2 + 1))) ∧ cS σ2 (s1 σ' 97 86 (nI (A.2.2.2.2 + 1))) := fun σ' hk' => by
            have f : rO lv σ2 (s1 σ' 97 86 (σ2.1 97 86)) := fun c j hc => by
              by_cases e : c = 97 ∧ j = 86
              · obtain ⟨rfl, rfl⟩ := e; rw [s1_on]
              · rw [s1_off e]; exact hk'.1 c j hc e
            obtain ⟨q1, q2, q3, q4, q5⟩ := hR0.ro hv h18 hl2 f
            refine ⟨?_, hk'.2.put (by decide)⟩
            rw [e]
            have sw : ∀ c j, ¬ (c = 97 ∧ j = 86) → (s1 σ' 97 86 (nI (A.2.2.2.2 + 1))).1 c j = (s1 σ' 97 86 (σ2.1 97 86)).1 c j := fun c j hn => by rw [s1_off hn, s1_off hn]
            exact ⟨q1.keep (fun q hq j => sw q j (by omega)) (sw 97 18 (by omega)), q2.keep (fun q hq j => sw q j (by omega)) (sw 97 45 (by omega)) (sw 97 47 (by omega)) (sw 97 48 (by omega)), q3.keep (le16' hv.1 hv.2.2.1) (fun c j hc => sw c j (by unfold hIn at hc; omega)), q4.keep (le16' hv.1 hv.2.2.2.1) (fun c j hc => sw c j (by unfold hIn at hc; omega)), s1_on⟩
          have put : ∀ {σ' : Sg} {q j : Nat} {y : Int32}, (q = 150 ∨ q = 151) → rK lv σ2 σ' → rK lv σ2 (s1 σ' q j y) := fun {σ' q j y} hq hk' => ⟨fun c i hc hn => by unfold rIn at hc; rw [s1_off (by omega)]; exact hk'.1 c i (by unfold rIn; exact hc) hn, hk'.2.put (by omega)⟩
          have ask : ∀ {n mi av v} {σ' σ3 : Sg}, RCx PRG n mi av σ' v σ3 → SBr.contains mi = true → SBrm.contains mi = true → nZs ZBr av = true → rK lv σ2 σ' → rK lv σ2 σ3 := fun {n mi av v σ' σ3} h a b c hk' => by
            have f := frBr h a b c
            have fl : ∀ k, nfS PRG SBr 12 k = true → σ3.1 97 k = σ'.1 97 k := fun k hk => h.fldQ (q0 := 97) (c := 12) (k0 := k) rfl hk a
            have ro : rO lv σ' σ3 := rO_of f rfl (fl 18 nfBr18) (fl 45 nfBr45) (fl 47 nfBr47) (fl 48 nfBr48) (fl 86 nfBr86)
            exact ⟨fun c j hc hn => (ro c j hc).trans (hk'.1 c j hc hn), hk'.2.trans (f.cS rfl)⟩
          have b86 : ∀ {n mi av v} {σ' σ3 : Sg}, RCx PRG n mi av σ' v σ3 → SBr.contains mi = true → σ3.1 97 86 = σ'.1 97 86 := fun h a => h.fldQ (q0 := 97) (c := 12) (k0 := 86) rfl nfBr86 a
          have main : ∀ n, (∀ x1 x2 (σ' : Sg), σ'.1 97 86 = nI A.2.2.2.2 → rK lv σ2 σ' → Pl PRG n d 310 89 [(0, .ref 97), (1, .int x1), (2, .int x2)] [] σ' (fun v s' => ∃ w, v = some (.int w) ∧ w = (fBook A).1 ∧ R7 (fBook A).2 s' ∧ cS σ2 s')) ∧ (∀ x1 x2 x4 x5 x6 (σ' : Sg), σ'.1 97 86 = nI A.2.2.2.2 → rK lv σ2 σ' → Pl PRG n d 310 144 [(0, .ref 97), (1, .int x1), (2, .int x2), (4, .int x4), (5, .int x5), (6, .int x6)] [] σ' (fun v s' => ∃ w, v = some (.int w) ∧ w = (fBook A).1 ∧ R7 (fBook A).2 s' ∧ cS σ2 s')) := by
            intro n
            induction n using Nat.strongRecOn with
            | _ n ih =>
              refine ⟨fun x1 x2 σ' e' hk' => Pl.pos (fun n1 h1 => p_310_89 σ' x1 x2 ⟨fun _ => ?_, fun _ _ w3 σ3 h3 _ _ w5 σ5 h5 w7 σ7 h7 => ?_⟩), fun x1 x2 x4 x5 x6 σ' e' hk' => Pl.pos (fun n1 h1 => p_310_144 σ' x1 x2 x4 x5 x6 ⟨fun _ => ?_, fun _ _ _ _ _ => ?_⟩)⟩
              · rw [e', nI_1, nI_pred]
                obtain ⟨f1, f2⟩ := fin σ' hk'
                exact ⟨nI A.2.2.2.2, rfl, by rw [e], f1, f2⟩
              · exact (ih n1 (by omega)).2 _ _ _ _ _ σ7 (((b86 h7 (by decide)).trans (b86 h5 (by decide))).trans ((b86 h3 (by decide)).trans e')) (ask h7 (by decide) (by decide) rfl (ask h5 (by decide) (by decide) rfl (ask h3 (by decide) (by decide) rfl hk')))
              · exact (ih n1 (by omega)).1 _ _ σ' e' hk'
              · exact (ih n1 (by omega)).2 _ _ _ _ _ _ (by rw [s1_off (by omega), s1_off (by omega)]; exact e') (put (Or.inr rfl) (put (Or.inl rfl) hk'))
          have first : ∀ n x1 (σ' : Sg), σ'.1 97 86 = nI A.2.2.2.2 → rK lv σ2 σ' → Pl PRG n d 310 31 [(0, .ref 97), (1, .int x1)] [] σ' (fun v s' => ∃ w, v = some (.int w) ∧ w = (fBook A).1 ∧ R7 (fBook A).2 s' ∧ cS σ2 s') := by
            intro n
            induction n using Nat.strongRecOn with
            | _ n ih =>
              intro x1 σ' e' hk'
              exact Pl.pos (fun n1 h1 => p_310_31 σ' x1 ⟨fun _ _ => (main n1).1 _ _ σ' e' hk', fun _ _ _ => ih n1 (by omega) _ _ (by rw [s1_off (by omega), s1_off (by omega)]; exact e') (put (Or.inr rfl) (put (Or.inl rfl) hk'))⟩)
          exact first n 0 σ2 r5 ⟨fun _ _ _ _ => rfl, cS.refl σ2⟩))
  cases e
  exact ⟨h1, h2⟩
end Yt
