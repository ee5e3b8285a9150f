/-! what the judge sees: both sides -/
theorem rn_cg {V V' : Nat → Int32} (h : ∀ i, i < 14 → V i = V' i) {L : Nat} : ∀ (p : Cd) (s : List Int32 × Bool) (h' : Nat), hX L p s.1.length = some h' → rnX V p s = rnX V' p s := by
  intro p
  induction p with
  | nil => intro s h' _; rfl
  | cons e p ih =>
    intro s h' a
    have a' : (match h1X L e s.1.length with
      | none => none
      | some h' => hX L p h') = some h' := a
    cases e1 : h1X L e s.1.length with
    | none => rw [e1] at a'; cases a'
    | some g =>
      rw [e1] at a'
      have e2 : exX V s e = exX V' s e := by
        by_cases c : e.1 = 27
        · obtain ⟨-, k, -, hk, h14⟩ := (st_num e1).2 (Or.inr c)
          unfold exX
          rw [hk, nI_clamp (by have := h14 c; omega), h k (h14 c)]
        · unfold exX
          rw [if_neg c, if_neg c]
      show rnX V p (exX V s e) = rnX V' p (exX V' s e)
      rw [← e2]
      exact ih _ h' (by rw [ex_len e1]; exact a')
theorem sc_bt : ∀ r, r < 17 → ∀ u, u < 4 → (u + 1) * r ≤ 16 → ∀ i, i < 32 → bt ((((1 : Int32) <<< (nI r &&& 31)) - 1) <<< ((nI u * nI r) &&& 31)) i = decide (u * r ≤ i ∧ i < u * r + r) := by decide +kernel
theorem scF_bt {s r u i : Nat} {t : Int32} (hL : lOK s r t) (hu : u < s) (hi : i < 32) : bt (scF s r (nI u)) i = decide (u * r ≤ i ∧ i < u * r + r) := by
  obtain ⟨h1, h2, h3, h4, h5, -⟩ := hL
  have hm : (u + 1) * r ≤ s * r := Nat.mul_le_mul_right r hu
  unfold scF
  rw [if_pos ⟨by rw [Int32.le_iff_toInt_le, nI_toInt (by omega)]; show (0 : Int) ≤ _; omega, nI_lt hu (by omega)⟩]
  exact sc_bt r (by omega) u (by omega) (by omega) i hi
theorem scF_no {s r : Nat} {x : Int32} (h : ¬ (0 ≤ x ∧ x < nI s)) : scF s r x = 0 := if_neg h
/-- a hand's cards of a suit -/
theorem own_rg {s r u : Nat} {t h : Int32} (hL : lOK s r t) (hu : u < s) : ∃ x, x < 65536 ∧ h &&& scF s r (nI u) = nI x ∧ ∀ i, Nat.testBit x i = true → u * r ≤ i ∧ i < u * r + r ∧ i < s * r := by
  have hm : (u + 1) * r ≤ s * r := Nat.mul_le_mul_right r hu
  have hm2 : (u + 1) * r = u * r + r := Nat.succ_mul u r
  have h16 := hL.2.2.2.2.1
  have hb : ∀ i, i < 32 → bt (h &&& scF s r (nI u)) i = true → u * r ≤ i ∧ i < u * r + r := by
    intro i hi hb
    rw [bt_and, scF_bt hL hu hi, Bool.and_eq_true] at hb
    exact of_decide_eq_true hb.2
  have h0 := lt_bt (x := h &&& scF s r (nI u)) (k := 16) (by decide) (fun i h1 h2 => by
    cases hc : bt (h &&& scF s r (nI u)) i with
    | false => rfl
    | true => have := hb i h2 hc; omega)
  have e := tn_nn h0.1
  refine ⟨(h &&& scF s r (nI u)).toBitVec.toNat, by have := h0.2; omega, i_nI e.1 (by omega), fun i hi => ?_⟩
  have h32 : i < 32 := by
    rcases Nat.lt_or_ge i 32 with g | g
    · exact g
    · rw [← bt_nat, bt_big _ g] at hi; cases hi
  have := hb i h32 (by rw [bt_nat]; exact hi)
  exact ⟨this.1, this.2, by omega⟩
def vaX (r : Nat) (c led tr bf : Int32) (i : Nat) : Int32 := if i = 0 then suF r c else if i = 1 then rkG r c else if i = 2 then led else if i = 3 then tr else if i = 4 then bf else 0
def voF (s r : Nat) (h : Int32) : Nat → Int32
  | 0 => 0
  | k + 1 => voF s r h k + (if h &&& scF s r (nI k) = 0 then 1 else 0)
def vsX (s r : Nat) (t c led tr bf h : Int32) (i : Nat) : Int32 :=
  if i < 5 then vaX r c led tr bf i
  else if i = 5 then poF (h &&& scF s r (suF r c)) 16
  else if i = 6 then (if h &&& scF s r (suF r c) = 0 then 0 else rkG r (nI (hiN (h &&& scF s r (suF r c)).toNatClampNeg)))
  else if i = 7 then (if h &&& scF s r (suF r c) = 0 then 0 else rkG r (nI (loN (h &&& scF s r (suF r c)).toNatClampNeg)))
  else if i = 8 then voF s r h s
  else if i = 9 then poF (h &&& scF s r t) 16
  else poF (h &&& scF s r (nI (i - 10))) 16
theorem and_0 (x : Int32) : x &&& 0 = 0 := by
  apply bt_ext
  intro i _
  rw [bt_and, bt_0, Bool.and_false]
theorem po_nz {n : Nat} : ∀ k i, i < k → Nat.testBit n i = true → 0 < poN n k := by
  intro k
  induction k with
  | zero => intro i h; omega
  | succ k ih =>
    intro i h hb
    have u : poN n (k + 1) = poN n k + n / 2 ^ k % 2 := rfl
    by_cases e : i = k
    · subst e
      rw [Nat.testBit_eq_decide_div_mod_eq] at hb
      have := of_decide_eq_true hb
      omega
    · have := ih i (by omega) hb
      omega
theorem po_0 {x : Nat} (hx : x < 65536) : poF (nI x) 16 = 0 ↔ nI x = 0 := by
  have e : poF (nI x) 16 = nI (poN x 16) := by rw [poF_N 16 (Nat.le_refl _), tnI (by omega)]
  have hle := poN_le x 16
  rw [e]
  constructor
  · intro h
    have h0 : poN x 16 = 0 := (nI_eq (b := 0) (by omega) (by decide)).mp h
    rcases Nat.eq_zero_or_pos x with e | e
    · subst e; rfl
    · obtain ⟨-, -, z3, z4, -⟩ := zr_is hx e
      have := po_nz 16 _ z4 z3
      omega
  · intro h
    have h0 : x = 0 := (nI_eq (b := 0) (by omega) (by decide)).mp h
    subst h0
    decide
section Jc
variable {s r n : Nat} {t x : Int32} {σ σ1 : Sg}
theorem LC.j {E : List Nat} (h : LC s r t σ) (hf : exc E σ σ1) (h3 : E.contains 3 = false) (h9 : E.contains 9 = false) (h10 : E.contains 10 = false) : LC s r t σ1 := h.fr hf h3 h9 h10
theorem rc10 {led tr bf : Int32} (h : RCx PRG n 10 [.ref 12, .int x, .int led, .int tr, .int bf] σ none σ1) (hL : lOK s r t) (hC : LC s r t σ) (hx : ∃ c, c < s * r ∧ x = nI c) : exc [13] σ σ1 ∧ ∀ i, i < 14 → σ1.1 13 i = vaX r x led tr bf i := by
  obtain ⟨c, hc, rfl⟩ := hx
  have h16 := hL.2.2.2.2.1
  refine h.by (Q := fun _ s' => exc [13] σ s' ∧ ∀ i, i < 14 → s'.1 13 i = vaX r (nI c) led tr bf i) (fun m d => p_10_0 σ (nI c) led tr bf (fun _ w2 σ2 h2 => ?_))
  have e10 : σ.1 10 (nI c).toNatClampNeg = suF r (nI c) := by
    rw [nI_clamp (by omega)]
    exact hC.2.2.2.2.2.2 c hc
  rw [e10] at h2
  have f1 : exc [13] σ (s1 σ 13 0 (suF r (nI c))) := (exc.refl σ).put rfl
  obtain ⟨rfl, rfl⟩ := rc9 h2 hL (hC.j f1 rfl rfl rfl) ⟨c, hc, rfl⟩
  have loop : ∀ (m k : Nat) (σ3 : Sg), k ≤ 9 → exc [13] σ σ3 → (∀ i, i < 5 + k → σ3.1 13 i = vaX r (nI c) led tr bf i) → Pl PRG m d 10 54 [(0, .ref 12), (5, .int (nI (5 + k)))] [] σ3 (fun _ s' => exc [13] σ s' ∧ ∀ i, i < 14 → s'.1 13 i = vaX r (nI c) led tr bf i) := by
    intro m
    induction m with
    | zero => intro k σ3 _ _ _; exact Pl.zero
    | succ m ih =>
      intro k σ3 hk hf hv
      refine p_10_54 σ3 (nI (5 + k)) ⟨fun cc => ⟨hf, fun i hi => hv i ?_⟩, fun cc _ => ?_⟩
      · have := (nI_leI (a := 14) (b := 5 + k) (by decide) (by omega)).mp cc
        omega
      · have hlt := nle_of (a := 14) (b := 5 + k) (by decide) (by omega) cc
        rw [nI_clamp (by omega), nI_1]
        refine ih (k + 1) _ (by omega) (hf.put rfl) (fun i hi => ?_)
        by_cases e : i = 5 + k
        · subst e
          rw [s1_on]
          unfold vaX
          rw [if_neg (by omega), if_neg (by omega), if_neg (by omega), if_neg (by omega), if_neg (by omega)]
        · rw [s1_off (by omega)]
          exact hv i (by omega)
  refine loop m 0 _ (by decide) ((((f1.put rfl).put rfl).put rfl).put rfl) (fun i hi => ?_)
  unfold vaX
  by_cases i4 : i = 4
  · subst i4; rw [s1_on]; rfl
  · rw [s1_off (by omega)]
    by_cases i3 : i = 3
    · subst i3; rw [s1_on]; rfl
    · rw [s1_off (by omega)]
      by_cases i2 : i = 2
      · subst i2; rw [s1_on]; rfl
      · rw [s1_off (by omega)]
        by_cases i1 : i = 1
        · subst i1; rw [s1_on]; rfl
        · rw [s1_off (by omega)]
          obtain rfl : i = 0 := by omega
          rw [s1_on]; rfl
/-- the cells of the variables, the card in mind -/
def vcC (s r : Nat) (t c led tr bf : Int32) (σ : Sg) : Prop := (∀ i, i < 5 → σ.1 13 i = vaX r c led tr bf i) ∧ ∀ i, 10 + s ≤ i → i < 14 → σ.1 13 i = 0
theorem rc11 {c : Nat} {led tr bf hd : Int32} (h : RCx PRG n 11 [.ref 12, .int hd] σ none σ1) (hL : lOK s r t) (hC : LC s r t σ) (hc : c < s * r) (hv : vcC s r t (nI c) led tr bf σ) (h0 : hd &&& scF s r (suF r (nI c)) = 0 → σ.1 13 6 = 0 ∧ σ.1 13 7 = 0) : exc [13] σ σ1 ∧ ∀ i, i < 14 → σ1.1 13 i = vsX s r t (nI c) led tr bf hd i := by
  have h16 := hL.2.2.2.2.1
  have hs4 := hL.2.1
  have hr := hL.2.2.1
  have eu : suF r (nI c) = nI (c / r) := suF_nI ⟨hL.2.2.1, hL.2.2.2.1⟩ (by omega)
  have hu : c / r < s := cdiv_lt hc
  obtain ⟨x, hx, ex, hxb⟩ := own_rg (h := hd) hL hu
  have e0 : σ.1 13 0 = nI (c / r) := (hv.1 0 (by decide)).trans eu
  -- the counts
  have loop : ∀ (m d k : Nat) (σ3 : Sg), k ≤ s → exc [13] σ σ3 → (∀ i, i < 5 → σ3.1 13 i = vaX r (nI c) led tr bf i) → σ3.1 13 6 = vsX s r t (nI c) led tr bf hd 6 → σ3.1 13 7 = vsX s r t (nI c) led tr bf hd 7 → (∀ i, i < k → σ3.1 13 (10 + i) = poF (hd &&& scF s r (nI i)) 16) → (∀ i, 10 + s ≤ i → i < 14 → σ3.1 13 i = 0) → Pl PRG m d 11 68 [(0, .ref 12), (1, .int hd), (2, .int (nI (c / r))), (4, .int (voF s r hd k)), (5, .int (nI k))] [] σ3 (fun _ s' => exc [13] σ s' ∧ ∀ i, i < 14 → s'.1 13 i = vsX s r t (nI c) led tr bf hd i) := by
    intro m d
    induction m with
    | zero => intro k σ3 _ _ _ _ _ _ _; exact Pl.zero
    | succ m ih =>
      intro k σ3 hk hf h5 h6 h7 hn hz
      have hC3 := hC.j hf rfl rfl rfl
      refine p_11_68 σ3 hd (nI (c / r)) (voF s r hd k) (nI k) ?_
      rw [hC3.1]
      refine ⟨fun cc _ => ?_, fun cc _ w2 σ4 h4 _ => ?_⟩
      · have ek : k = s := by
          have := (nI_leI (a := s) (b := k) (by omega) (by omega)).mp cc
          omega
        subst ek
        have eix : ∀ u, u < 4 → (10 : Int32) + nI u = nI (10 + u) := fun u hu => by rw [show (10 : Int32) = nI 10 by decide, nI_add]
        rw [hC3.2.2.1, eix _ (by omega), nI_clamp (by omega)]
        have e5 : σ3.1 13 (10 + c / r) = vsX k r t (nI c) led tr bf hd 5 := by
          rw [hn _ hu]
          show _ = poF (hd &&& scF k r (suF r (nI c))) 16
          rw [eu]
        have fin : ∀ (y : Int32), y = poF (hd &&& scF k r t) 16 → (exc [13] σ (s1 (s1 (s1 σ3 13 5 (σ3.1 13 (10 + c / r))) 13 8 (voF k r hd k)) 13 9 y) ∧ ∀ i, i < 14 → (s1 (s1 (s1 σ3 13 5 (σ3.1 13 (10 + c / r))) 13 8 (voF k r hd k)) 13 9 y).1 13 i = vsX k r t (nI c) led tr bf hd i) := by
          intro y hy
          refine ⟨((hf.put rfl).put rfl).put rfl, fun i hi => ?_⟩
          by_cases i9 : i = 9
          · subst i9; rw [s1_on]; exact hy
          · rw [s1_off (by omega)]
            by_cases i8 : i = 8
            · subst i8; rw [s1_on]; rfl
            · rw [s1_off (by omega)]
              by_cases i5 : i = 5
              · subst i5; rw [s1_on]; exact e5
              · rw [s1_off (by omega)]
                by_cases l5 : i < 5
                · rw [h5 i l5]
                  exact (if_pos l5).symm
                · by_cases i6 : i = 6
                  · subst i6; exact h6
                  · by_cases i7 : i = 7
                    · subst i7; exact h7
                    · have ev : vsX k r t (nI c) led tr bf hd i = poF (hd &&& scF k r (nI (i - 10))) 16 := by
                        unfold vsX
                        rw [if_neg l5, if_neg i5, if_neg i6, if_neg i7, if_neg i8, if_neg i9]
                      rw [ev]
                      rcases Nat.lt_or_ge (i - 10) k with g | g
                      · have := hn _ g
                        rw [show 10 + (i - 10) = i by omega] at this
                        exact this
                      · rw [hz i (by omega) hi, scF_no (fun q => absurd q.2 (nI_nlt g (by omega))), and_0]
                        rfl
        refine ⟨fun ct _ => fin _ ?_, fun ct => fin 0 ?_⟩
        · obtain ⟨-, -, -, -, -, -, ht⟩ := hL
          rcases ht with ht | ⟨u, hu', ht⟩
          · rw [ht] at ct; exact absurd ct (by decide)
          · rw [ht, eix _ (by omega), nI_clamp (by omega), s1_off (by omega), s1_off (by omega)]
            exact hn u hu'
        · rw [scF_no (fun q => ct q.1), and_0]
          rfl
      · have hlt : k < s := nle_of (by omega) (by omega) cc
        have eC : σ3.1 9 (nI k).toNatClampNeg = scF s r (nI k) := by
          rw [nI_clamp (by omega)]
          exact hC3.2.2.2.2.2.1 k (by omega)
        rw [eC] at h4
        obtain ⟨rfl, ew⟩ := rc2 h4
        obtain ⟨y, hy, ey, -⟩ := own_rg (h := hd) hL hlt
        have ew2 : w2 = poF (hd &&& scF s r (nI k)) 16 := by
          rw [ew]
          exact bcF_po (by rw [ey, nI_toInt (by omega)]; omega) (by rw [ey, nI_toInt (by omega)]; omega)
        have eix : (10 : Int32) + nI k = nI (10 + k) := by rw [show (10 : Int32) = nI 10 by decide, nI_add]
        rw [eix, nI_clamp (by omega), nI_1]
        have go : ∀ (z : Int32), z = voF s r hd (k + 1) → Pl PRG m d 11 68 [(0, .ref 12), (1, .int hd), (2, .int (nI (c / r))), (4, .int z), (5, .int (nI (k + 1)))] [] (s1 σ4 13 (10 + k) w2) (fun _ s' => exc [13] σ s' ∧ ∀ i, i < 14 → s'.1 13 i = vsX s r t (nI c) led tr bf hd i) := by
          intro z hz'
          rw [hz']
          refine ih (k + 1) _ (by omega) (hf.put rfl) (fun i hi => by rw [s1_off (by omega)]; exact h5 i hi) (by rw [s1_off (by omega)]; exact h6) (by rw [s1_off (by omega)]; exact h7) (fun i hi => ?_) (fun i h1 h2 => by rw [s1_off (by omega)]; exact hz i h1 h2)
          by_cases e : i = k
          · subst e; rw [s1_on]; exact ew2
          · rw [s1_off (by omega)]; exact hn i (by omega)
        have p0 : w2 = 0 ↔ hd &&& scF s r (nI k) = 0 := by
          rw [ew2, ey]
          exact po_0 hy
        refine ⟨fun z => go _ ?_, fun z => go _ ?_⟩
        · show _ = voF s r hd k + _
          rw [if_pos (p0.mp z)]
        · show _ = voF s r hd k + _
          rw [if_neg (fun q => z (p0.mpr q))]
  refine h.by (Q := fun _ s' => exc [13] σ s' ∧ ∀ i, i < 14 → s'.1 13 i = vsX s r t (nI c) led tr bf hd i) (fun m d => p_11_0 σ hd (fun _ => ?_))
  have e9 : σ.1 9 (σ.1 13 0).toNatClampNeg = scF s r (nI (c / r)) := by
    rw [e0, nI_clamp (by omega)]
    exact hC.2.2.2.2.2.1 _ (by omega)
  rw [e9, e0, ex]
  have o6 : ∀ _ : Nat, hd &&& scF s r (suF r (nI c)) = 0 → vsX s r t (nI c) led tr bf hd 6 = 0 ∧ vsX s r t (nI c) led tr bf hd 7 = 0 := fun _ q => ⟨if_pos q, if_pos q⟩
  refine ⟨fun z => Pl.pos (fun m1 _ => p_11_62 σ hd (nI (c / r)) (loop m1 d 0 σ (by omega) (exc.refl σ) hv.1 ?_ ?_ (fun i hi => absurd hi (Nat.not_lt_zero _)) hv.2)), fun z w2 σ2 h2 w4 σ4 h4 w6 σ6 h6 w8 σ8 h8 => ?_⟩
  · have q : hd &&& scF s r (suF r (nI c)) = 0 := by rw [eu, ex]; exact z
    rw [(h0 q).1, (o6 0 q).1]
  · have q : hd &&& scF s r (suF r (nI c)) = 0 := by rw [eu, ex]; exact z
    rw [(h0 q).2, (o6 0 q).2]
  · have x0 : 0 < x := by
      rcases Nat.eq_zero_or_pos x with e | e
      · subst e; exact absurd rfl z
      · exact e
    obtain ⟨-, -, z3, z4, z5, -, -, z8⟩ := zr_is hx x0
    obtain ⟨rfl, eh⟩ := rc0 h2 hx x0
    rw [eh] at h4
    obtain ⟨rfl, ew4⟩ := rc9 h4 hL hC ⟨hiN x, (hxb _ z3).2.2, rfl⟩
    obtain ⟨rfl, ew6⟩ := rc1 h6 hx x0
    rw [ew6] at h8
    have f6 : exc [13] σ4 (s1 σ4 13 6 w4) := (exc.refl σ4).put rfl
    obtain ⟨rfl, ew8⟩ := rc9 h8 hL (hC.j f6 rfl rfl rfl) ⟨loN x, (hxb _ z8).2.2, rfl⟩
    have q : ¬ hd &&& scF s r (suF r (nI c)) = 0 := by rw [eu, ex]; exact z
    refine Pl.pos (fun m1 _ => p_11_62 _ hd (nI (c / r)) (loop m1 d 0 _ (by omega) (f6.put rfl) (fun i hi => by rw [s1_off (by omega), s1_off (by omega)]; exact hv.1 i hi) ?_ ?_ (fun i hi => absurd hi (Nat.not_lt_zero _)) (fun i h1 h2 => by rw [s1_off (by omega), s1_off (by omega)]; exact hv.2 i h1 h2)))
    · rw [s1_off (by omega), s1_on, ew4]
      show _ = (if hd &&& scF s r (suF r (nI c)) = 0 then 0 else rkG r (nI (hiN (hd &&& scF s r (suF r (nI c))).toNatClampNeg)))
      rw [if_neg q, eu, ex, nI_clamp (by omega)]
    · rw [s1_on, ew8]
      show _ = (if hd &&& scF s r (suF r (nI c)) = 0 then 0 else rkG r (nI (loN (hd &&& scF s r (suF r (nI c))).toNatClampNeg)))
      rw [if_neg q, eu, ex, nI_clamp (by omega)]
end Jc
