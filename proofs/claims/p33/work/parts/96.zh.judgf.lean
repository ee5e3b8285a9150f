/-! what the reference's judge sees -/
def jF (σ σ1 : Sg) : Prop := (∀ q j, ¬ q = 123 → σ1.1 q j = σ.1 q j) ∧ σ1.2 = σ.2
theorem jF.refl (σ : Sg) : jF σ σ := ⟨fun _ _ _ => rfl, rfl⟩
theorem jF.trans {σ σ1 σ2 : Sg} (h : jF σ σ1) (h' : jF σ1 σ2) : jF σ σ2 := ⟨fun q j a => (h'.1 q j a).trans (h.1 q j a), h'.2.trans h.2⟩
theorem jF.put {σ σ1 : Sg} {k : Nat} {x : Int32} (h : jF σ σ1) : jF σ (s1 σ1 123 k x) := ⟨fun q j a => by rw [s1_off (fun e => a e.1)]; exact h.1 q j a, h.2⟩
theorem LR.k {s r lv : Nat} {t : Int32} {σ σ1 : Sg} (h : LR s r t lv σ) (e18 : σ1.1 97 18 = σ.1 97 18) (e : ∀ q, 106 ≤ q → q ≤ 108 → σ1.1 q lv = σ.1 q lv) : LR s r t lv σ1 := ⟨h.1, e18.trans h.2.1, (e 106 (by decide) (by decide)).trans h.2.2.1, (e 107 (by decide) (by decide)).trans h.2.2.2.1, by rw [e 106 (by decide) (by decide), e 108 (by decide) (by decide)]; exact h.2.2.2.2⟩
theorem LR.jf {s r lv : Nat} {t : Int32} {σ σ1 : Sg} (h : LR s r t lv σ) (hf : jF σ σ1) : LR s r t lv σ1 := h.k (hf.1 97 18 (by decide)) (fun q a b => hf.1 q lv (by omega))
theorem LR.jr {s r lv : Nat} {t : Int32} {σ σ1 : Sg} (h : LR s r t lv σ) (hf : jR σ σ1) : LR s r t lv σ1 := h.k (hf.1 97 18 (by decide) (by decide)) (fun q a b => hf.1 q lv (by omega) (by omega))
def upR (r : Nat) (x : Nat) : Nat → Int32
  | 0 => 0
  | k + 1 => if Nat.testBit x k = true then rkG r (nI k) else upR r x k
def dnR (r : Nat) (x N : Nat) : Nat → Int32
  | 0 => 0
  | j + 1 => if Nat.testBit x (N - 1 - j) = true then rkG r (nI (N - 1 - j)) else dnR r x N j
theorem upR_0 {r : Nat} : ∀ k, upR r 0 k = 0 := by
  intro k
  induction k with
  | zero => rfl
  | succ k ih =>
    show (if Nat.testBit 0 k = true then _ else upR r 0 k) = 0
    rw [Nat.zero_testBit, if_neg (by decide), ih]
theorem dnR_0 {r N : Nat} : ∀ k, dnR r 0 N k = 0 := by
  intro k
  induction k with
  | zero => rfl
  | succ k ih =>
    show (if Nat.testBit 0 _ = true then _ else dnR r 0 N k) = 0
    rw [Nat.zero_testBit, if_neg (by decide), ih]
theorem upR_hi {r x : Nat} (hx : x < 65536) (h0 : 0 < x) : ∀ k, hiN x < k → upR r x k = rkG r (nI (hiN x)) := by
  obtain ⟨-, z2, z3, -⟩ := zr_is hx h0
  intro k
  induction k with
  | zero => intro h; omega
  | succ k ih =>
    intro h
    show (if Nat.testBit x k = true then _ else upR r x k) = _
    by_cases e : k = hiN x
    · subst e; rw [if_pos z3]
    · have : Nat.testBit x k = false := Nat.testBit_lt_two_pow (Nat.lt_of_lt_of_le z2 (Nat.pow_le_pow_right (by decide) (by omega)))
      rw [this, if_neg (by decide)]
      exact ih (by omega)
theorem dnR_lo {r x N : Nat} (hx : x < 65536) (h0 : 0 < x) (hN : loN x < N) : ∀ j, N - loN x ≤ j → j ≤ N → dnR r x N j = rkG r (nI (loN x)) := by
  obtain ⟨-, -, -, -, -, -, z7, z8⟩ := zr_is hx h0
  intro j
  induction j with
  | zero => intro h; omega
  | succ j ih =>
    intro h h2
    show (if Nat.testBit x (N - 1 - j) = true then _ else dnR r x N j) = _
    by_cases e : N - 1 - j = loN x
    · rw [e, if_pos z8]
    · have : Nat.testBit x (N - 1 - j) = false := by
        have k := Nat.testBit_mod_two_pow x (loN x) (N - 1 - j)
        rw [z7, Nat.zero_testBit, decide_eq_true (by omega), Bool.true_and] at k
        exact k.symm
      rw [this, if_neg (by decide)]
      exact ih (by omega) (by omega)
section Jr
variable {s r lv n : Nat} {t x : Int32} {σ σ1 : Sg}
theorem m248 {led tr bf : Int32} (h : RCx PRG n 248 [.ref 97, .int x, .int led, .int tr, .int bf] σ none σ1) (hR : LR s r t lv σ) : jF σ σ1 ∧ ∀ i, i < 14 → σ1.1 123 i = vaX r x led tr bf i := by
  refine h.by (Q := fun _ s' => jF σ s' ∧ ∀ i, i < 14 → s'.1 123 i = vaX r x led tr bf i) (fun m d => p_248_0 σ x led tr bf ?_)
  have loop : ∀ (m k : Nat) (σ3 : Sg), k ≤ 14 → jF σ σ3 → (∀ i, i < k → σ3.1 123 i = 0) → Pl PRG m d 248 3 [(0, .ref 97), (1, .int x), (2, .int led), (3, .int tr), (4, .int bf), (5, .int (nI k))] [] σ3 (fun _ s' => jF σ s' ∧ ∀ i, i < 14 → s'.1 123 i = vaX r x led tr bf i) := by
    intro m
    induction m with
    | zero => intro k σ3 _ _ _; exact Pl.zero
    | succ m ih =>
      intro k σ3 hk hf hv
      refine p_248_3 σ3 x led tr bf (nI k) ⟨fun cc w2 σ4 h4 w4 σ5 h5 => ?_, fun cc _ => ?_⟩
      · have ek := (nI_leI (a := 14) (b := k) (by decide) (by omega)).mp cc
        obtain ⟨rfl, e2⟩ := m212 h4 (hR.jf hf)
        have f1 : jF σ (s1 σ4 123 0 w2) := hf.put
        obtain ⟨rfl, e4⟩ := m213 h5 (hR.jf f1)
        refine ⟨(((f1.put).put).put).put, fun i hi => ?_⟩
        unfold vaX
        by_cases i4 : i = 4
        · subst i4; rw [s1_on]; rfl
        · rw [s1_off (by omega)]
          by_cases i3 : i = 3
          · subst i3; rw [s1_on]; rfl
          · rw [s1_off (by omega)]
            by_cases i2 : i = 2
            · subst i2; rw [s1_on]; rfl
            · rw [s1_off (by omega)]
              by_cases i1 : i = 1
              · subst i1; rw [s1_on, e4]; rfl
              · rw [s1_off (by omega)]
                by_cases i0 : i = 0
                · subst i0; rw [s1_on, e2]; rfl
                · rw [s1_off (by omega), hv i (by omega), if_neg i0, if_neg i1, if_neg i2, if_neg i3, if_neg i4]
      · have hlt := nle_of (a := 14) (b := k) (by decide) (by omega) cc
        rw [nI_clamp (by omega), nI_1]
        refine ih (k + 1) _ (by omega) hf.put (fun i hi => ?_)
        by_cases e : i = k
        · subst e; rw [s1_on]
        · rw [s1_off (by omega)]; exact hv i (by omega)
  exact loop m 0 σ (by decide) (jF.refl σ) (fun i hi => absurd hi (Nat.not_lt_zero _))
theorem m249 {c : Nat} {led tr bf hd : Int32} (h : RCx PRG n 249 [.ref 97, .int (nI c), .int hd] σ none σ1) (hL : lOK s r t) (hR : LR s r t lv σ) (hc : c < s * r) (hv : ∀ i, i < 5 → σ.1 123 i = vaX r (nI c) led tr bf i) : jF σ σ1 ∧ ∀ i, i < 14 → σ1.1 123 i = vsX s r t (nI c) led tr bf hd i := by
  have h16 := hL.2.2.2.2.1
  have hs4 := hL.2.1
  have hrg : 1 ≤ r ∧ r ≤ 16 := ⟨hL.2.2.1, hL.2.2.2.1⟩
  have eu : suF r (nI c) = nI (c / r) := suF_nI hrg (by omega)
  have hu : c / r < s := cdiv_lt hc
  obtain ⟨x, hx, ex, hxb⟩ := own_rg (h := hd) hL hu
  have bit : ∀ k, k < 32 → ((nI x >>> (nI k &&& 31)) &&& 1 = (1 : Int32) ↔ Nat.testBit x k = true) := fun k hk => by
    rw [shr_bt (nI_toInt (by omega)) hk, bt_nat, tnI (by omega)]
    cases Nat.testBit x k <;> decide
  have Q0 : ∀ i, vsX s r t (nI c) led tr bf hd i = vsX s r t (nI c) led tr bf hd i := fun _ => rfl
  -- what stands at the end
  have e6 : vsX s r t (nI c) led tr bf hd 6 = upR r x (s * r) := by
    show (if hd &&& scF s r (suF r (nI c)) = 0 then 0 else rkG r (nI (hiN (hd &&& scF s r (suF r (nI c))).toNatClampNeg))) = _
    rw [eu, ex, nI_clamp (by omega)]
    by_cases z : nI x = 0
    · have : x = 0 := (nI_eq (b := 0) (by omega) (by decide)).mp z
      subst this
      rw [if_pos z, upR_0]
    · have x0 : 0 < x := by
        rcases Nat.eq_zero_or_pos x with e | e
        · subst e; exact absurd rfl z
        · exact e
      rw [if_neg z, upR_hi hx x0 _ ((hxb _ (zr_is hx x0).2.2.1).2.2)]
  have e7 : vsX s r t (nI c) led tr bf hd 7 = dnR r x (s * r) (s * r) := by
    show (if hd &&& scF s r (suF r (nI c)) = 0 then 0 else rkG r (nI (loN (hd &&& scF s r (suF r (nI c))).toNatClampNeg))) = _
    rw [eu, ex, nI_clamp (by omega)]
    by_cases z : nI x = 0
    · have : x = 0 := (nI_eq (b := 0) (by omega) (by decide)).mp z
      subst this
      rw [if_pos z, dnR_0]
    · have x0 : 0 < x := by
        rcases Nat.eq_zero_or_pos x with e | e
        · subst e; exact absurd rfl z
        · exact e
      have hb := (hxb _ (zr_is hx x0).2.2.2.2.2.2.2).2.2
      rw [if_neg z, dnR_lo hx x0 hb _ (by omega) (Nat.le_refl _)]
  -- counts of all suits
  have l193 : ∀ (m d k : Nat) (σ3 : Sg), k ≤ 4 → jF σ σ3 → (∀ i, i < 10 → σ3.1 123 i = vsX s r t (nI c) led tr bf hd i) → (∀ i, i < k → σ3.1 123 (10 + i) = poF (hd &&& scF s r (nI i)) 16) → Pl PRG m d 249 193 [(0, .ref 97), (2, .int hd), (5, .int (nI k))] [] σ3 (fun _ s' => jF σ s' ∧ ∀ i, i < 14 → s'.1 123 i = vsX s r t (nI c) led tr bf hd i) := by
    intro m d
    induction m with
    | zero => intro k σ3 _ _ _ _; exact Pl.zero
    | succ m ih =>
      intro k σ3 hk hf hv hn
      refine p_249_193 σ3 hd (nI k) ⟨fun cc => ⟨hf, fun i hi => ?_⟩, fun cc w2 σ4 h4 w4 σ5 h5 _ => ?_⟩
      · have ek := (nI_leI (a := 4) (b := k) (by decide) (by omega)).mp cc
        rcases Nat.lt_or_ge i 10 with g | g
        · exact hv i g
        · have := hn (i - 10) (by omega)
          rw [show 10 + (i - 10) = i by omega] at this
          rw [this]
          unfold vsX
          rw [if_neg (by omega), if_neg (by omega), if_neg (by omega), if_neg (by omega), if_neg (by omega), if_neg (by omega)]
      · have hlt := nle_of (a := 4) (b := k) (by decide) (by omega) cc
        obtain ⟨rfl, e2⟩ := m215 h4 hL (hR.jf hf)
        obtain ⟨rfl, e4⟩ := m209 h5
        have eix : (10 : Int32) + nI k = nI (10 + k) := by rw [show (10 : Int32) = nI 10 by decide, nI_add]
        rw [eix, nI_clamp (by omega), nI_1]
        refine ih (k + 1) _ (by omega) hf.put (fun i hi => by rw [s1_off (by omega)]; exact hv i hi) (fun i hi => ?_)
        by_cases e : i = k
        · subst e; rw [s1_on, e4, e2]
        · rw [s1_off (by omega)]; exact hn i (by omega)
  -- voids
  have l127 : ∀ (m d k : Nat) (σ3 : Sg), k ≤ s → jF σ σ3 → (∀ i, i < 8 → σ3.1 123 i = vsX s r t (nI c) led tr bf hd i) → Pl PRG m d 249 127 [(0, .ref 97), (2, .int hd), (4, .int (voF s r hd k)), (5, .int (nI k))] [] σ3 (fun _ s' => jF σ s' ∧ ∀ i, i < 14 → s'.1 123 i = vsX s r t (nI c) led tr bf hd i) := by
    intro m d
    induction m using Nat.strongRecOn with
    | _ m ih =>
      intro k σ3 hk hf hv
      have hR3 := hR.jf hf
      refine Pl.pos (fun m1 hm1 => p_249_127 σ3 hd (voF s r hd k) (nI k) (fun _ => ?_))
      rw [hR3.2.1, nI_clamp (by have := hR.1; omega), hR3.2.2.1]
      refine ⟨fun cc w2 σ4 h4 w4 σ5 h5 w6 σ6 h6 => ?_, fun cc w8 σ7 h7 => ?_⟩
      · have ek : k = s := by
          have := (nI_leI (a := s) (b := k) (by omega) (by omega)).mp cc
          omega
        subst ek
        have f8 : jF σ (s1 σ3 123 8 (voF k r hd k)) := hf.put
        obtain ⟨rfl, e2⟩ := m214 h4 (hR.jf f8)
        obtain ⟨rfl, e4⟩ := m215 h5 hL (hR.jf f8)
        obtain ⟨rfl, e6'⟩ := m209 h6
        refine Pl.weak (l193 _ d 0 _ (by decide) f8.put (fun i hi => ?_) (fun i hi => absurd hi (Nat.not_lt_zero _)))
        by_cases i9 : i = 9
        · subst i9; rw [s1_on, e6', e4, e2]; rfl
        · rw [s1_off (by omega)]
          by_cases i8 : i = 8
          · subst i8; rw [s1_on]; rfl
          · rw [s1_off (by omega)]; exact hv i (by omega)
      · have hlt : k < s := nle_of (by omega) (by omega) cc
        obtain ⟨rfl, e8⟩ := m215 h7 hL hR3
        rw [e8]
        have go : ∀ (m2 : Nat), m2 < m → ∀ z, z = voF s r hd (k + 1) → Pl PRG m2 d 249 155 [(0, .ref 97), (2, .int hd), (4, .int z), (5, .int (nI k))] [] σ7 (fun _ s' => jF σ s' ∧ ∀ i, i < 14 → s'.1 123 i = vsX s r t (nI c) led tr bf hd i) := fun m2 hm2 z hz => Pl.pos (fun m3 hm3 => p_249_155 σ7 hd z (nI k) (by
          rw [hz, nI_1]
          exact ih m3 (by omega) (k + 1) σ7 (by omega) hf hv))
        refine ⟨fun z => go m1 (by omega) _ ?_, fun z => go m1 (by omega) _ ?_⟩
        · show _ = voF s r hd k + _
          rw [if_pos z]
        · show _ = voF s r hd k + _
          rw [if_neg z, Int32.add_zero]
  -- the greatest
  have l83 : ∀ (m d k : Nat) (σ3 : Sg), k ≤ s * r → jF σ σ3 → (∀ i, i < 6 → σ3.1 123 i = vsX s r t (nI c) led tr bf hd i) → σ3.1 123 7 = vsX s r t (nI c) led tr bf hd 7 → σ3.1 123 6 = upR r x k → Pl PRG m d 249 83 [(0, .ref 97), (2, .int hd), (3, .int (nI x)), (4, .int (nI k))] [] σ3 (fun _ s' => jF σ s' ∧ ∀ i, i < 14 → s'.1 123 i = vsX s r t (nI c) led tr bf hd i) := by
    intro m d
    induction m using Nat.strongRecOn with
    | _ m ih =>
      intro k σ3 hk hf hv h7 h6
      have hR3 := hR.jf hf
      refine Pl.pos (fun m1 hm1 => p_249_83 σ3 hd (nI x) (nI k) (fun w2 σ4 h4 => ?_))
      obtain ⟨rfl, e2⟩ := m210 h4 hL hR3
      rw [e2]
      refine ⟨fun cc => ?_, fun cc => ?_⟩
      · have ek : k = s * r := by
          have := (nI_leI (a := s * r) (b := k) (by omega) (by omega)).mp cc
          omega
        subst ek
        refine l127 m1 d 0 σ4 (by omega) hf (fun i hi => ?_)
        by_cases i6 : i = 6
        · subst i6; rw [h6, e6]
        · by_cases i7 : i = 7
          · subst i7; exact h7
          · exact hv i (by omega)
      · have hlt : k < s * r := nle_of (by omega) (by omega) cc
        have go : ∀ (m2 : Nat), m2 < m → ∀ (σ5 : Sg), jF σ σ5 → (∀ i, i < 6 → σ5.1 123 i = vsX s r t (nI c) led tr bf hd i) → σ5.1 123 7 = vsX s r t (nI c) led tr bf hd 7 → σ5.1 123 6 = upR r x (k + 1) → Pl PRG m2 d 249 115 [(0, .ref 97), (2, .int hd), (3, .int (nI x)), (4, .int (nI k))] [] σ5 (fun _ s' => jF σ s' ∧ ∀ i, i < 14 → s'.1 123 i = vsX s r t (nI c) led tr bf hd i) := fun m2 hm2 σ5 q1 q2 q3 q4 => Pl.pos (fun m3 hm3 => p_249_115 σ5 hd (nI x) (nI k) (by
          rw [nI_1]
          exact ih m3 (by omega) (k + 1) σ5 (by omega) q1 q2 q3 q4))
        refine ⟨fun b w4 σ5 h5 => ?_, fun b => go m1 (by omega) σ4 hf hv h7 ?_⟩
        · have hb := (bit k (by omega)).mp b
          obtain ⟨rfl, e4⟩ := m213 h5 hR3
          refine go m1 (by omega) _ hf.put (fun i hi => by rw [s1_off (by omega)]; exact hv i hi) (by rw [s1_off (by omega)]; exact h7) ?_
          rw [s1_on, e4]
          show _ = (if Nat.testBit x k = true then _ else _)
          rw [if_pos hb]
        · have hb : ¬ Nat.testBit x k = true := fun q => b ((bit k (by omega)).mpr q)
          rw [h6]
          show _ = (if Nat.testBit x k = true then _ else _)
          rw [if_neg hb]
  -- the least
  have l46 : ∀ (m d j : Nat) (σ3 : Sg), j ≤ s * r → jF σ σ3 → (∀ i, i < 6 → σ3.1 123 i = vsX s r t (nI c) led tr bf hd i) → σ3.1 123 6 = 0 → σ3.1 123 7 = dnR r x (s * r) j → Pl PRG m d 249 46 [(0, .ref 97), (2, .int hd), (3, .int (nI x)), (4, .int (tpX (s * r - j)))] [] σ3 (fun _ s' => jF σ s' ∧ ∀ i, i < 14 → s'.1 123 i = vsX s r t (nI c) led tr bf hd i) := by
    intro m d
    induction m using Nat.strongRecOn with
    | _ m ih =>
      intro j σ3 hj hf hv h6 h7
      have hR3 := hR.jf hf
      refine Pl.pos (fun m1 hm1 => p_249_46 σ3 hd (nI x) (tpX (s * r - j)) ⟨fun cc => ?_, fun cc => ?_⟩)
      · have ej : j = s * r := by
          rcases Nat.eq_zero_or_pos (s * r - j) with e | e
          · omega
          · obtain ⟨q, hq⟩ : ∃ q, s * r - j = q + 1 := ⟨s * r - j - 1, by omega⟩
            rw [hq, tp_s] at cc
            exact absurd cc (nI_pos (by omega))
        subst ej
        exact l83 m1 d 0 σ3 (by omega) hf hv (h7.trans e7.symm) h6
      · obtain ⟨q, hq⟩ : ∃ q, s * r - j = q + 1 := by
          rcases Nat.eq_zero_or_pos (s * r - j) with e | e
          · rw [e] at cc; exact absurd (by decide) cc
          · exact ⟨s * r - j - 1, by omega⟩
        rw [hq, tp_s]
        have eq : s * r - 1 - j = q := by omega
        have go : ∀ (m2 : Nat), m2 < m → ∀ (σ5 : Sg), jF σ σ5 → (∀ i, i < 6 → σ5.1 123 i = vsX s r t (nI c) led tr bf hd i) → σ5.1 123 6 = 0 → σ5.1 123 7 = dnR r x (s * r) (j + 1) → Pl PRG m2 d 249 74 [(0, .ref 97), (2, .int hd), (3, .int (nI x)), (4, .int (nI q))] [] σ5 (fun _ s' => jF σ s' ∧ ∀ i, i < 14 → s'.1 123 i = vsX s r t (nI c) led tr bf hd i) := fun m2 hm2 σ5 q1 q2 q3 q4 => Pl.pos (fun m3 hm3 => p_249_74 σ5 hd (nI x) (nI q) (by
          have := ih m3 (by omega) (j + 1) σ5 (by omega) q1 q2 q3 q4
          rw [show s * r - (j + 1) = q by omega] at this
          rw [show nI q + (-1 : Int32) = tpX q from sub1 (nI q)]
          exact this))
        have u : dnR r x (s * r) (j + 1) = if Nat.testBit x q = true then rkG r (nI q) else dnR r x (s * r) j := by
          show (if Nat.testBit x (s * r - 1 - j) = true then _ else _) = _
          rw [eq]
        refine ⟨fun b w4 σ5 h5 => ?_, fun b => go m1 (by omega) σ3 hf hv h6 ?_⟩
        · have hb := (bit q (by omega)).mp b
          obtain ⟨rfl, e4⟩ := m213 h5 hR3
          refine go m1 (by omega) _ hf.put (fun i hi => by rw [s1_off (by omega)]; exact hv i hi) (by rw [s1_off (by omega)]; exact h6) ?_
          rw [s1_on, e4, u, if_pos hb]
        · have hb : ¬ Nat.testBit x q = true := fun p => b ((bit q (by omega)).mpr p)
          rw [h7, u, if_neg hb]
  refine h.by (Q := fun _ s' => jF σ s' ∧ ∀ i, i < 14 → s'.1 123 i = vsX s r t (nI c) led tr bf hd i) (fun m d => p_249_0 σ (nI c) hd (fun w2 σ2 h2 w4 σ4 h4 w6 σ6 h6 w8 σ8 h8 => ?_))
  obtain ⟨rfl, e2⟩ := m212 h2 hR
  obtain ⟨rfl, e4⟩ := m215 h4 hL hR
  obtain ⟨rfl, e6'⟩ := m209 h6
  have f8 : jF σ6 (s1 (s1 (s1 σ6 123 5 w6) 123 6 (0 : Int32)) 123 7 (0 : Int32)) := (((jF.refl σ6).put).put).put
  obtain ⟨rfl, e8⟩ := m210 h8 hL (hR.jf f8)
  have eo : hd &&& w4 = nI x := by rw [e4, e2, eu]; exact ex
  rw [eo, e8]
  have := l46 m d 0 _ (Nat.zero_le _) f8 (fun i hi => ?_) (by rw [s1_off (by omega), s1_on]) (by rw [s1_on]; rfl)
  · exact this
  · rw [s1_off (by omega), s1_off (by omega)]
    by_cases i5 : i = 5
    · subst i5
      rw [s1_on, e6', eo]
      show _ = poF (hd &&& scF s r (suF r (nI c))) 16
      rw [eu, ex]
    · rw [s1_off (by omega), hv i (by omega)]
      exact (if_pos (show i < 5 by omega)).symm
end Jr
