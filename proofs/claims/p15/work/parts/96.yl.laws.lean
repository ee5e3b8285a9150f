/-! the laws behind read: what is told is sound; settle; the class -/
theorem gs_pre {m dp c k a b : Nat} (h : gs m dp c k = .inr (a, b)) : (a = 2 → m = 1) ∧ (a = 3 → m = 2) ∧ (a = 5 → m = 4) := by
  have gu' : ∀ {a' u' c'}, (¬ a' = 2 ∧ ¬ a' = 3 ∧ ¬ a' = 5) → (¬ u' = 2 ∧ ¬ u' = 3 ∧ ¬ u' = 5) → (¬ c' = 2 ∧ ¬ c' = 3 ∧ ¬ c' = 5) → gu a' u' c' dp k = .inr (a, b) → ¬ a = 2 ∧ ¬ a = 3 ∧ ¬ a = 5 := by
    intro a' u' c' h1 h2 h3 h
    unfold gu at h
    split at h
    · split at h
      · cases h
      · cases h; exact h2
    · split at h
      · cases h; exact h1
      · split at h
        · cases h; exact h3
        · split at h
          · cases h; exact h1
          · cases h
  have ga' : ∀ {a' u' rest}, (¬ a' = 2 ∧ ¬ a' = 3 ∧ ¬ a' = 5) → (¬ u' = 2 ∧ ¬ u' = 3 ∧ ¬ u' = 5) → (rest = .inr (a, b) → ¬ a = 2 ∧ ¬ a = 3 ∧ ¬ a = 5) → ga a' u' dp k rest = .inr (a, b) → ¬ a = 2 ∧ ¬ a = 3 ∧ ¬ a = 5 := by
    intro a' u' rest h1 h2 h3 h
    unfold ga at h
    split at h
    · cases h; exact h2
    · split at h
      · cases h; exact h1
      · split at h
        · exact h3 h
        · cases h
  have no : (¬ a = 2 ∧ ¬ a = 3 ∧ ¬ a = 5) → (a = 2 → m = 1) ∧ (a = 3 → m = 2) ∧ (a = 5 → m = 4) := fun h => ⟨fun e => absurd e h.1, fun e => absurd e h.2.1, fun e => absurd e h.2.2⟩
  have d1 : ∀ n : Nat, 6 ≤ n → ¬ n = 2 ∧ ¬ n = 3 ∧ ¬ n = 5 := fun n h => by omega
  unfold gs at h
  split at h
  · split at h
    · cases h
    · split at h
      · cases h; exact no (by decide)
      · split at h
        · cases h; exact no (by decide)
        · split at h
          · split at h
            · cases h
            · cases h; exact no (by decide)
          · cases h
  · split at h
    · cases h; exact ⟨fun _ => rfl, fun e => absurd e (by decide), fun e => absurd e (by decide)⟩
    · cases h
  · split at h
    · cases h; exact ⟨fun e => absurd e (by decide), fun _ => rfl, fun e => absurd e (by decide)⟩
    · cases h
  · split at h
    · cases h; exact no (by decide)
    · cases h
  · split at h
    · cases h; exact ⟨fun e => absurd e (by decide), fun e => absurd e (by decide), fun _ => rfl⟩
    · cases h
  · split at h
    · cases h; exact no (by decide)
    · cases h
  · split at h
    · cases h; exact no (by decide)
    · cases h
  · split at h
    · cases h; exact no (by decide)
    · cases h
  · split at h
    · cases h; exact no (by decide)
    · cases h
  · split at h
    · cases h; exact no (by decide)
    · split at h
      · cases h; exact no (by decide)
      · cases h
  · split at h
    · cases h; exact no (by decide)
    · exact no (gu' (d1 _ (by decide)) (d1 _ (by decide)) (d1 _ (by decide)) h)
  · exact no (gu' (d1 _ (by decide)) (d1 _ (by decide)) (d1 _ (by decide)) h)
  · exact no (ga' (d1 _ (by decide)) (d1 _ (by decide)) (fun h => by
      split at h
      · cases h; decide
      · cases h) h)
  · split at h
    · cases h; exact no (by decide)
    · cases h
  · exact no (gu' (d1 _ (by decide)) (d1 _ (by decide)) (d1 _ (by decide)) h)
  · exact no (ga' (d1 _ (by decide)) (d1 _ (by decide)) (fun h => by
      split at h
      · cases h; decide
      · split at h
        · cases h; decide
        · cases h) h)
  · split at h
    · cases h; exact no (by decide)
    · cases h
  · split at h
    · cases h; exact no (by decide)
    · exact no (gu' (d1 _ (by decide)) (d1 _ (by decide)) (d1 _ (by decide)) h)
  · exact no (gu' (d1 _ (by decide)) (d1 _ (by decide)) (d1 _ (by decide)) h)
  · exact no (ga' (d1 _ (by decide)) (d1 _ (by decide)) (fun h => by
      split at h
      · cases h; decide
      · cases h) h)
  · split at h
    · cases h; exact no (by decide)
    · cases h
  · exact no (gu' (d1 _ (by decide)) (d1 _ (by decide)) (d1 _ (by decide)) h)
  · exact no (ga' (d1 _ (by decide)) (d1 _ (by decide)) (fun h => by
      split at h
      · cases h; decide
      · split at h
        · cases h; decide
        · cases h) h)
  · split at h
    · cases h; exact no (by decide)
    · cases h
  · cases h
def pkV (TT : List Tk) (j : Nat) : Prop := off (vlT TT j) 1 4 = false ∧ off (vlT TT (j + 1)) 1 16 = false ∧ badP (vlT TT j) (vlT TT (j + 1)) = false
def trV (TT : List Tk) (j : Nat) : Prop := off (vlT TT j) 0 3 = false
def okD (TT : List Tk) (D : DT) : Prop := (∀ j, D.2.2.2.1 = some j → pkV TT j) ∧ ∀ j, D.2.2.2.2 = some j → trV TT j
theorem bif_0 {b : Bool} (h : (bif b then 5 else 0) = 0) : b = false := by
  cases b with
  | true => cases h
  | false => rfl
/-- what has been told without an event is sound -/
theorem ev_ok {TT : List Tk} : ∀ i s, evs TT i = none → pr TT i = .inr s → (s.1.1 = 2 → 1 ≤ i ∧ off (vlT TT (i - 1)) 1 4 = false) ∧ (s.1.1 = 3 → 2 ≤ i ∧ pkV TT (i - 2)) ∧ (s.1.1 = 5 → trV TT (i - 1)) ∧ okD TT s.2 := by
  intro i
  induction i with
  | zero =>
    intro s _ hp
    cases hp
    exact ⟨fun e => absurd e (by decide), fun e => absurd e (by decide), fun e => absurd e (by decide), fun j e => (by cases e), fun j e => (by cases e)⟩
  | succ i ih =>
    intro s' he hp
    cases hpi : pr TT i with
    | inl f =>
      have hp' : (match pr TT i with
        | .inr s => st1 s (kdT TT i) i
        | .inl f => .inl f) = .inr s' := hp
      rw [hpi] at hp'
      cases hp'
    | inr s =>
      have hp' : (match pr TT i with
        | .inr s => st1 s (kdT TT i) i
        | .inl f => .inl f) = .inr s' := hp
      rw [hpi] at hp'
      have hp' : st1 s (kdT TT i) i = .inr s' := hp'
      have e0 := evs_step hpi
      rw [he] at e0
      have hei : evs TT i = none := by
        cases hv : evs TT i with
        | none => rfl
        | some x => rw [hv] at e0; cases e0
      have hT : evT TT s i = 0 := by
        rw [hei] at e0
        unfold evO at e0
        by_cases c : evT TT s i = 0
        · exact c
        · rw [if_neg c] at e0; cases e0
      obtain ⟨i1, i2, i3, i4⟩ := ih s hei hpi
      unfold st1 at hp'
      split at hp'
      · cases hp'
      · rename_i q hq
        split at hp'
        · cases hp'
        · cases hp'
          obtain ⟨g1, g2, g3⟩ := gs_pre (a := q.1) (b := q.2) hq
          refine ⟨fun e => ?_, fun e => ?_, fun e => ?_, ?_⟩
          · have m1 := g1 e
            refine ⟨by omega, ?_⟩
            unfold evT at hT
            rw [if_pos m1] at hT
            exact bif_0 hT
          · have m2 := g2 e
            obtain ⟨k1, k2⟩ := i1 m2
            refine ⟨by omega, ?_⟩
            unfold evT at hT
            rw [if_neg (by omega), if_pos m2] at hT
            have hb := bif_0 hT
            rw [Bool.or_eq_false_iff] at hb
            have ei : i + 1 - 2 = i - 1 := by omega
            have ei2 : i - 1 + 1 = i := by omega
            unfold pkV
            rw [ei, ei2]
            exact ⟨k2, hb.1, hb.2⟩
          · have m4 := g3 e
            unfold evT at hT
            rw [if_neg (by omega), if_neg (by omega), if_pos m4] at hT
            exact bif_0 hT
          · show okD TT (updD s.1.1 (kdT TT i) i s.2)
            unfold updD
            split
            · exact i4
            · split
              · exact i4
              · split
                · exact i4
                · split
                  · rename_i m3
                    refine ⟨fun j e => ?_, i4.2⟩
                    cases e
                    exact (i2 m3).2
                  · split
                    · rename_i m5
                      refine ⟨i4.1, fun j e => ?_⟩
                      cases e
                      exact i3 m5
                    · exact i4
def pkS (TT : List Tk) (o : Option Nat) : Nat := match o with
  | none => 4
  | some j => (vlT TT j).toNatClampNeg
def pkR (TT : List Tk) (o : Option Nat) : Nat := match o with
  | none => 4
  | some j => (vlT TT (j + 1)).toNatClampNeg
def trT (TT : List Tk) (o : Option Nat) : Int32 := match o with
  | none => -1
  | some j => vlT TT j
def lwD (TT : List Tk) (D : DT) : LA := (pkS TT D.2.2.2.1, pkR TT D.2.2.2.1, (if nI (pkS TT D.2.2.2.1) ≤ trT TT D.2.2.2.2 then -1 else trT TT D.2.2.2.2), D.2.2.1.length, (fun q => match D.2.2.1[q]? with
  | some e => vlT TT (e.1 + 1)
  | none => 0), fun q => match D.2.2.1[q]? with
  | some e => nI (kdT TT (e.1 + 2) - 18)
  | none => 0)
theorem off_rg {x : Int32} {lo hi : Nat} (hl : lo < 100) (hh : hi < 100) (h : off x (nI lo) (nI hi) = false) : ∃ k, lo ≤ k ∧ k ≤ hi ∧ x = nI k := by
  unfold off at h
  rw [Bool.or_eq_false_iff, decide_eq_false_iff_not, decide_eq_false_iff_not, Int32.lt_iff_toInt_lt, Int32.lt_iff_toInt_lt, nI_toInt (by omega), nI_toInt (by omega)] at h
  exact ⟨x.toInt.toNat, by omega, by omega, i_nI (by omega) (by omega)⟩
theorem pk_rg {TT : List Tk} {o : Option Nat} (h : ∀ j, o = some j → pkV TT j) : 1 ≤ pkS TT o ∧ pkS TT o ≤ 4 ∧ 1 ≤ pkR TT o ∧ pkR TT o ≤ 16 ∧ pkS TT o * pkR TT o ≤ 16 ∧ pkS TT o * pkR TT o % 4 = 0 ∧ (∀ j, o = some j → vlT TT j = nI (pkS TT o) ∧ vlT TT (j + 1) = nI (pkR TT o)) := by
  cases o with
  | none => exact ⟨show 1 ≤ 4 by decide, show 4 ≤ 4 by decide, show 1 ≤ 4 by decide, show 4 ≤ 16 by decide, show 4 * 4 ≤ 16 by decide, show 4 * 4 % 4 = 0 by decide, fun j e => (by cases e)⟩
  | some j =>
    obtain ⟨h1, h2, h3⟩ := h j rfl
    obtain ⟨a, a1, a2, ea⟩ := off_rg (lo := 1) (hi := 4) (by decide) (by decide) h1
    obtain ⟨b, b1, b2, eb⟩ := off_rg (lo := 1) (hi := 16) (by decide) (by decide) h2
    have eS : pkS TT (some j) = a := by show (vlT TT j).toNatClampNeg = a; rw [ea, nI_clamp (by omega)]
    have eR : pkR TT (some j) = b := by show (vlT TT (j + 1)).toNatClampNeg = b; rw [eb, nI_clamp (by omega)]
    have hab : a * b ≤ 4 * 16 := Nat.mul_le_mul a2 b2
    rw [ea, eb] at h3
    unfold badP at h3
    rw [Bool.or_eq_false_iff, decide_eq_false_iff_not, nI_mulI (by omega) (by omega) (by omega), rem_4 (by omega)] at h3
    have h31 := h3.1
    rw [show (16 : Int32) = nI 16 by decide, Int32.lt_iff_toInt_lt, nI_toInt (by omega), nI_toInt (by omega)] at h31
    have h32 : nI (a * b % 4) = 0 := by simpa using h3.2
    have h33 : a * b % 4 = 0 := (nI_eq (b := 0) (by omega) (by decide)).mp h32
    rw [eS, eR]
    refine ⟨a1, a2, b1, b2, by omega, h33, fun j' e => ?_⟩
    cases e
    exact ⟨ea, eb⟩
theorem tr_rg {TT : List Tk} {o : Option Nat} (h : ∀ j, o = some j → trV TT j) : trT TT o = -1 ∨ ∃ u, u < 4 ∧ trT TT o = nI u := by
  cases o with
  | none => exact Or.inl rfl
  | some j =>
    obtain ⟨a, a1, a2, ea⟩ := off_rg (lo := 0) (hi := 3) (by decide) (by decide) (h j rfl)
    exact Or.inr ⟨a, by omega, ea⟩
theorem lwD_ok {TT : List Tk} {D : DT} (h : okD TT D) (hl : D.2.2.1.length ≤ 6) : lV (lwD TT D) := by
  obtain ⟨h1, h2, h3, h4, h5, h6, -⟩ := pk_rg h.1
  refine ⟨⟨h1, h2, h3, h4, h5, h6, ?_⟩, hl⟩
  show (if nI (pkS TT D.2.2.2.1) ≤ trT TT D.2.2.2.2 then (-1 : Int32) else trT TT D.2.2.2.2) = -1 ∨ ∃ u, u < pkS TT D.2.2.2.1 ∧ (if nI (pkS TT D.2.2.2.1) ≤ trT TT D.2.2.2.2 then (-1 : Int32) else trT TT D.2.2.2.2) = nI u
  by_cases c : nI (pkS TT D.2.2.2.1) ≤ trT TT D.2.2.2.2
  · rw [if_pos c]; exact Or.inl rfl
  · rw [if_neg c]
    rcases tr_rg h.2 with e | ⟨u, hu, e⟩
    · exact Or.inl e
    · rw [e] at c
      exact Or.inr ⟨u, nle_of (a := pkS TT D.2.2.2.1) (b := u) (by omega) (by omega) c, e⟩
/-! settle -/
theorem rc74 {n : Nat} {σ σ1 : Sg} (h : RCx PRG n 74 [.ref 3] σ none σ1) : exc [3, 11, 81, 82, 83, 84, 85, 86, 87, 88] σ σ1 ∧ ∀ j, j = 0 ∨ j = 1 ∨ j = 2 ∨ j = 3 ∨ j = 10 ∨ j = 11 → σ1.1 3 j = σ.1 3 j := by
  have cov : ∀ q, q < 158 → ([3, 11, 81, 82, 83, 84, 85, 86, 87, 88] : List Nat).contains q = false → ZH.contains q = true ∨ (match knd q with
    | some (0, c, _) => !(Nat.beq c 5)
    | _ => false) = true := by decide +kernel
  refine ⟨fun q hq hE j => ?_, fun j hj => ?_⟩
  · rcases cov q hq hE with g | g
    · exact h.bits gGH gAH bSH (by decide) rfl q g j
    · split at g
      · rename_i c fs hk
        refine h.np hk ?_ npH (by decide) j
        show ([5] : List Nat).contains c = false
        simp only [List.contains_cons, List.contains_nil, Bool.or_false]
        cases hc : Nat.beq c 5 with
        | true => rw [hc] at g; cases g
        | false =>
          cases hc2 : (c == 5) with
          | false => rfl
          | true =>
            have : c = 5 := by simpa using hc2
            subst this
            cases hc
      · cases g
  · rcases hj with rfl | rfl | rfl | rfl | rfl | rfl
    · exact h.fldQ (q0 := 3) (c := 5) (k0 := 0) rfl nfH0 (by decide)
    · exact h.fldQ (q0 := 3) (c := 5) (k0 := 1) rfl nfH1 (by decide)
    · exact h.fldQ (q0 := 3) (c := 5) (k0 := 2) rfl nfH2 (by decide)
    · exact h.fldQ (q0 := 3) (c := 5) (k0 := 3) rfl nfH3 (by decide)
    · exact h.fldQ (q0 := 3) (c := 5) (k0 := 10) rfl nfH10 (by decide)
    · exact h.fldQ (q0 := 3) (c := 5) (k0 := 11) rfl nfH11 (by decide)
def EL : List Nat := [3, 9, 10, 11, 81, 82, 83, 84, 85, 86, 87, 88]
theorem rc75 {n s r : Nat} {t0 : Int32} {σ σ1 : Sg} (h : RCx PRG n 75 [.ref 3] σ none σ1) (hs : 1 ≤ s ∧ s ≤ 4) (hr : 1 ≤ r ∧ r ≤ 16) (hN : s * r ≤ 16) (e0 : σ.1 3 0 = nI s) (e1 : σ.1 3 1 = nI r) (e2 : σ.1 3 2 = t0) : LC s r (if nI s ≤ t0 then -1 else t0) σ1 ∧ σ1.1 3 3 = σ.1 3 3 ∧ exc EL σ σ1 := by
  have twoL : ∀ d n k (σ' : Sg), k ≤ 16 → σ'.1 3 0 = nI s → σ'.1 3 1 = nI r → σ'.1 3 2 = (if nI s ≤ t0 then -1 else t0) → σ'.1 3 10 = nI (s * r) → σ'.1 3 11 = nI (s * r / 4) → σ'.1 3 3 = σ.1 3 3 → (∀ u, u < 4 → σ'.1 9 u = scF s r (nI u)) → (∀ c, c < k → c < s * r → σ'.1 10 c = suF r (nI c)) → exc EL σ σ' → Pl PRG n d 75 91 [(0, .ref 3), (1, .int (nI k))] [] σ' (fun _ s' => LC s r (if nI s ≤ t0 then -1 else t0) s' ∧ s'.1 3 3 = σ.1 3 3 ∧ exc EL σ s') := by
    intro d n
    induction n using Nat.strongRecOn with
    | _ n ih =>
      intro k σ' hk a0 a1 a2 a10 a11 a3 hu hc hf
      refine Pl.pos (fun n1 h1 => p_75_91 σ' (nI k) ?_)
      rw [a10, a1]
      have step : ∀ n2 y, n2 < n → k < 16 → (k < s * r → y = suF r (nI k)) → Pl PRG n2 d 75 91 [(0, .ref 3), (1, .int (nI k + 1))] [] (s1 σ' 10 k y) (fun _ s' => LC s r (if nI s ≤ t0 then -1 else t0) s' ∧ s'.1 3 3 = σ.1 3 3 ∧ exc EL σ s') := fun n2 y h2 hk16 hy => by
        rw [nI_1]
        refine ih n2 h2 (k + 1) _ (by omega) ?_ ?_ ?_ ?_ ?_ ?_ (fun u h => by rw [s1_off (by omega)]; exact hu u h) (fun c h3 h4 => ?_) (hf.put rfl)
        · rw [s1_off (by omega)]; exact a0
        · rw [s1_off (by omega)]; exact a1
        · rw [s1_off (by omega)]; exact a2
        · rw [s1_off (by omega)]; exact a10
        · rw [s1_off (by omega)]; exact a11
        · rw [s1_off (by omega)]; exact a3
        · by_cases e : c = k
          · subst e; rw [s1_on]; exact hy h4
          · rw [s1_off (by omega)]; exact hc c (by omega) h4
      refine ⟨fun c σ2 h2 => ?_, fun c => ⟨fun c2 _ => ?_, fun c2 => ⟨fun c3 => absurd c3 (nI_nle (by omega) (by omega)), fun _ _ _ => ?_⟩⟩⟩
      · have := (nI_leI (a := 16) (b := k) (by omega) (by omega)).mp c
        obtain ⟨f1, f2⟩ := rc74 h2
        refine ⟨⟨(f2 0 (by omega)).trans a0, (f2 1 (by omega)).trans a1, (f2 2 (by omega)).trans a2, (f2 10 (by omega)).trans a10, (f2 11 (by omega)).trans a11, fun u h => by rw [f1 9 (by decide) (by decide)]; exact hu u h, fun c h => by rw [f1 10 (by decide) (by decide)]; exact hc c (by omega) h⟩, (f2 3 (by omega)).trans a3, hf.trans (f1.sub (subE_ok rfl))⟩
      · have hlt := nle_of (a := 16) (b := k) (by omega) (by omega) c
        have := (nI_leI (a := s * r) (b := k) (by omega) (by omega)).mp c2
        rw [nI_clamp (by omega)]
        exact step n1 0 (by omega) hlt (fun h => absurd h (by omega))
      · have hlt := nle_of (a := 16) (b := k) (by omega) (by omega) c
        rw [nI_clamp (by omega)]
        exact step n1 _ (by omega) hlt (fun _ => rfl)
  have oneL : ∀ d n k (σ' : Sg), k ≤ 4 → σ'.1 3 0 = nI s → σ'.1 3 1 = nI r → σ'.1 3 2 = (if nI s ≤ t0 then -1 else t0) → σ'.1 3 10 = nI (s * r) → σ'.1 3 11 = nI (s * r / 4) → σ'.1 3 3 = σ.1 3 3 → (∀ u, u < k → σ'.1 9 u = scF s r (nI u)) → exc EL σ σ' → Pl PRG n d 75 41 [(0, .ref 3), (1, .int (nI k))] [] σ' (fun _ s' => LC s r (if nI s ≤ t0 then -1 else t0) s' ∧ s'.1 3 3 = σ.1 3 3 ∧ exc EL σ s') := by
    intro d n
    induction n using Nat.strongRecOn with
    | _ n ih =>
      intro k σ' hk a0 a1 a2 a10 a11 a3 hu hf
      refine Pl.pos (fun n1 h1 => p_75_41 σ' (nI k) ?_)
      rw [a0, a1]
      have step : ∀ n2 y, n2 < n → k < 4 → y = scF s r (nI k) → Pl PRG n2 d 75 41 [(0, .ref 3), (1, .int (nI k + 1))] [] (s1 σ' 9 k y) (fun _ s' => LC s r (if nI s ≤ t0 then -1 else t0) s' ∧ s'.1 3 3 = σ.1 3 3 ∧ exc EL σ s') := fun n2 y h2 hk4 hy => by
        rw [nI_1]
        refine ih n2 h2 (k + 1) _ (by omega) ?_ ?_ ?_ ?_ ?_ ?_ (fun u h => ?_) (hf.put rfl)
        · rw [s1_off (by omega)]; exact a0
        · rw [s1_off (by omega)]; exact a1
        · rw [s1_off (by omega)]; exact a2
        · rw [s1_off (by omega)]; exact a10
        · rw [s1_off (by omega)]; exact a11
        · rw [s1_off (by omega)]; exact a3
        · by_cases e : u = k
          · subst e; rw [s1_on]; exact hy
          · rw [s1_off (by omega)]; exact hu u (by omega)
      refine ⟨fun c => ?_, fun c => ⟨fun c2 _ => ?_, fun c2 _ => ?_⟩⟩
      · have := (nI_leI (a := 4) (b := k) (by omega) (by omega)).mp c
        exact twoL d n1 0 σ' (by decide) a0 a1 a2 a10 a11 a3 (fun u h => hu u (by omega)) (fun c h => absurd h (Nat.not_lt_zero _)) hf
      · have hlt := nle_of (a := 4) (b := k) (by omega) (by omega) c
        have := (nI_leI (a := s) (b := k) (by omega) (by omega)).mp c2
        rw [nI_clamp (by omega)]
        exact step n1 0 (by omega) hlt (by unfold scF; rw [if_neg (fun h => absurd h.2 (nI_nlt (by omega) (by omega)))])
      · have hlt := nle_of (a := 4) (b := k) (by omega) (by omega) c
        have hks := nle_of (a := s) (b := k) (by omega) (by omega) c2
        rw [nI_clamp (by omega)]
        exact step n1 _ (by omega) hlt (by unfold scF; rw [if_pos ⟨nI_pos' (by omega), nI_lt hks (by omega)⟩])
  have le4 : ∀ {x y : Int32}, ¬ x < y ↔ y ≤ x := fun {x y} => ⟨fun h => le_lt.mpr h, fun h => le_lt.mp h⟩
  refine h.by (Q := fun _ s' => LC s r (if nI s ≤ t0 then -1 else t0) s' ∧ s'.1 3 3 = σ.1 3 3 ∧ exc EL σ s') (fun n d => p_75_0 σ ?_)
  rw [e0, e1, e2, nI_mulI (by omega) (by omega) (by omega), div_4 (by omega)]
  refine ⟨fun c => Pl.pos (fun n2 _ => p_75_39 _ (oneL d n2 0 _ (by decide) ?_ ?_ ?_ ?_ ?_ ?_ (fun u h => absurd h (Nat.not_lt_zero _)) (((exc.refl σ).put rfl).put rfl))), fun c => Pl.pos (fun n2 _ => p_75_39 _ (oneL d n2 0 _ (by decide) ?_ ?_ ?_ ?_ ?_ ?_ (fun u h => absurd h (Nat.not_lt_zero _)) ((((exc.refl σ).put rfl).put rfl).put rfl)))⟩
  · rw [s1_off (by omega), s1_off (by omega)]; exact e0
  · rw [s1_off (by omega), s1_off (by omega)]; exact e1
  · rw [s1_off (by omega), s1_off (by omega), if_neg (fun h => le_lt.mp h c)]; exact e2
  · rw [s1_off (by omega), s1_on]
  · rw [s1_on]
  · rw [s1_off (by omega), s1_off (by omega)]
  · rw [s1_off (by omega), s1_off (by omega), s1_off (by omega)]; exact e0
  · rw [s1_off (by omega), s1_off (by omega), s1_off (by omega)]; exact e1
  · rw [s1_on, if_pos (le_lt.mpr c)]
  · rw [s1_off (by omega), s1_off (by omega), s1_on]
  · rw [s1_off (by omega), s1_on]
  · rw [s1_off (by omega), s1_off (by omega), s1_off (by omega)]
