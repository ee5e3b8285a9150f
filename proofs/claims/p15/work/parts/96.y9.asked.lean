/-! what is asked of a game, and what its lots give: the class -/
def myF (s r : Nat) (t ld : Int32) (D C W : Nat → Int32) (m : Nat) : Int32 := if 0 ≤ tnF (s * r) r t ld C W m then (if hnF D C W (tnF (s * r) r t ld C W m).toNatClampNeg m &&& scF s r (ldG r C m) = 0 then hnF D C W (tnF (s * r) r t ld C W m).toNatClampNeg m else hnF D C W (tnF (s * r) r t ld C W m).toNatClampNeg m &&& scF s r (ldG r C m)) else 0
def woF (r : Nat) (t : Int32) (C W : Nat → Int32) (x : Int32) : Nat → Int32
  | 0 => 0
  | k + 1 => if W (bsF r t C (4 * k) 3) &&& 1 = x then woF r t C W x k + 1 else woF r t C W x k
def shS (r : Nat) (C W : Nat → Int32) (T u : Int32) : Nat → Nat → Int32
  | 0, _ => -2
  | f + 1, k => if W k = T ∧ suF r (C k) = u then nI k else shS r C W T u f (k + 1)
def shF (s r : Nat) (D C W : Nat → Int32) (m i : Nat) : Int32 := if brF s r D C W i = 0 then -2 else shS r C W (W i) (ldG r C i) (m - (i + 1)) (i + 1)
def mxF (x0 x1 : Int32) : Int32 := (((x0 ^^^ x1) * (1103515245 : Int32)) + (12345 : Int32)) ^^^ (ush (((x0 ^^^ x1) * (1103515245 : Int32)) + (12345 : Int32)) (15 : Int32))
def loF (x : Int32) (i : Nat) : Int32 := ush (mxF (mxF x 20) (nI i)) 1 - ush (mxF (mxF x 20) (nI i)) 1 / nI (i + 1) * nI (i + 1)
theorem loF_rg (x : Int32) {i : Nat} (hi : i < 1000) : ∃ j, j ≤ i ∧ loF x i = nI j := by
  unfold loF
  generalize mxF (mxF x 20) (nI i) = w4
  have hu : 0 ≤ (ush w4 (1 : Int32)).toInt := by
    have := ushr_ex (x := w4) (y := (1 : Int32)) (k := 1) (by decide) (by omega)
    have h2 := tn_lt w4
    rw [tn_of (by rw [this]; omega)]
    omega
  have hz : (nI (i + 1)).toInt = ((i + 1 : Nat) : Int) := nI_toInt (by omega)
  have e := rem_ex (x := ush w4 1) (y := nI (i + 1)) (by omega)
  rw [hz, Int.tmod_eq_emod_of_nonneg hu] at e
  have h1 := Int.emod_nonneg (ush w4 (1 : Int32)).toInt (b := ((i + 1 : Nat) : Int)) (by omega)
  have h2 := Int.emod_lt_of_pos (ush w4 (1 : Int32)).toInt (b := ((i + 1 : Nat) : Int)) (by omega)
  refine ⟨((ush w4 (1 : Int32)).toInt % ((i + 1 : Nat) : Int)).toNat, by omega, i_nI (by rw [e]; omega) (by omega)⟩
def swF (P : Nat → Int32) (i j k : Nat) : Int32 := if k = j then P i else if k = i then P j else P k
def shu (x : Int32) : Nat → (Nat → Int32) → (Nat → Int32)
  | 0, P => P
  | i + 1, P => shu x i (swF P (i + 1) (loF x (i + 1)).toNatClampNeg)
def orF (P : Nat → Int32) (a : Nat) : Nat → Int32
  | 0 => 0
  | k + 1 => orF P a k ||| ((1 : Int32) <<< (P (a + k) &&& 31))
theorem shu_cg (x : Int32) {N : Nat} (hN : N ≤ 16) : ∀ i, i < N → ∀ P P' : Nat → Int32, (∀ k, k < N → P k = P' k) → ∀ k, k < N → shu x i P k = shu x i P' k := by
  intro i
  induction i with
  | zero => intro _ P P' h k hk; exact h k hk
  | succ i ih =>
    intro hi P P' h k hk
    show shu x i _ k = shu x i _ k
    obtain ⟨j, hj, e⟩ := loF_rg x (i := i + 1) (by omega)
    refine ih (by omega) _ _ (fun q hq => ?_) k hk
    rw [e, nI_clamp (by omega)]
    unfold swF
    rw [h (i + 1) hi, h j (by omega), h q hq]
theorem orF_cg {P P' : Nat → Int32} {a : Nat} : ∀ k, (∀ i, i < a + k → P i = P' i) → orF P a k = orF P' a k := by
  intro k
  induction k with
  | zero => intro _; rfl
  | succ k ih =>
    intro h
    show _ ||| _ = _ ||| _
    rw [ih (fun i hi => h i (by omega)), h (a + k) (by omega)]
/-- what the lots deal out -/
def dlF (x : Int32) (N : Nat) (p : Nat) : Int32 := orF (shu x (N - 1) nI) (p * (N / 4)) (N / 4)
section Qc
variable {s r m n i k : Nat} {t x ld : Int32} {D C W : Nat → Int32} {σ σ1 : Sg} {w : Int32}
theorem g22_35 (h : RCx PRG n 35 [.ref 22] σ (some (.int w)) σ1) (hL : lOK s r t) (hC : LC s r t σ) (hG : gC22 s r t D ld C W m σ) (hV : gV s r t D ld C W m) : σ1 = σ ∧ w = myF s r t ld D C W m := by
  have hm := hV.2.1
  have hN := hL.2.2.2.2.1
  have hq := h.by (Q := fun v s' => s' = σ ∧ v = some (.int (myF s r t ld D C W m))) (fun n d => p_35_0 σ (by
    have e6 := hG.2.2.1
    unfold myF
    rw [e6]
    refine ⟨fun c w2 σ2 h2 => ?_, fun c => by rw [if_neg c]; exact ⟨rfl, rfl⟩⟩
    obtain ⟨rfl, rfl⟩ := g22_34 h2 hL hC (gD22.b hG (Nat.le_refl _)) hV.2.2.1 (by omega)
    rw [if_pos c, e6]
    have hlt : m < s * r := by
      rcases Nat.lt_or_ge m (s * r) with g | g
      · exact g
      · rw [tn_end g] at c; exact absurd c (by decide)
    obtain ⟨p, hp, ep⟩ := hV.turn hlt
    rw [ep, nI_clamp (by omega), hG.2.2.2.2.2.1 p hp]
    by_cases c4 : m % 4 = 0
    · have el : ldG r C m = -1 := if_pos c4
      rw [el]
      refine ⟨fun c2 => absurd c2 (by decide), fun _ _ => ?_⟩
      have e0 : scF s r (-1) = 0 := if_neg (fun h => absurd h.1 (by decide))
      have e1 : hnF D C W p m &&& (0 : Int32) = 0 := by
        apply bt_ext
        intro i hi
        rw [bt_and, bt_0, Bool.and_false]
      rw [e0, if_pos e1]
      exact ⟨rfl, rfl⟩
    · obtain ⟨u, hu, eu⟩ := ld_ge hL hV.2.2.1 c4
      rw [eu, nI_clamp (by have := hL.2.1; omega), hC.2.2.2.2.2.1 u (by have := hL.2.1; omega)]
      refine ⟨fun _ _ _ => ⟨fun c3 _ => by rw [if_pos c3]; exact ⟨rfl, rfl⟩, fun c3 => by rw [if_neg c3]; exact ⟨rfl, rfl⟩⟩, fun c2 => absurd (nI_pos' (by have := hL.2.1; omega)) c2⟩))
  obtain ⟨a, b⟩ := hq
  cases b
  exact ⟨a, rfl⟩
theorem g22_64 (h : RCx PRG n 64 [.ref 22, .int x] σ (some (.int w)) σ1) (hL : lOK s r t) (hG : gC22 s r t D ld C W m σ) (hm : m ≤ 16) : σ1 = σ ∧ w = woF r t C W x (m / 4) := by
  have loop : ∀ d n k, k ≤ m / 4 → Pl PRG n d 64 4 [(0, .ref 22), (1, .int x), (2, .int (woF r t C W x k)), (3, .int (nI k))] [] σ (fun v s' => s' = σ ∧ v = some (.int (woF r t C W x (m / 4)))) := by
    intro d n
    induction n using Nat.strongRecOn with
    | _ n ih =>
      intro k hk
      refine Pl.pos (fun n1 h1 => p_64_4 σ x _ (nI k) ?_)
      rw [hG.2.2.2.1, div_4 (by omega)]
      refine ⟨fun c => ?_, fun c _ => ?_⟩
      · have := (nI_leI (a := m / 4) (b := k) (by omega) (by omega)).mp c
        have e : k = m / 4 := by omega
        rw [e]; exact ⟨rfl, rfl⟩
      · have hlt := nle_of (a := m / 4) (b := k) (by omega) (by omega) c
        rw [nI_clamp (by omega), hG.2.2.2.2.2.2.2 k hlt, nI_1]
        refine ⟨fun c2 => ?_, fun c2 => ?_⟩
        · have := ih n1 (by omega) (k + 1) (by omega)
          rw [show woF r t C W x (k + 1) = woF r t C W x k + 1 from if_pos c2] at this
          exact this
        · have := ih n1 (by omega) (k + 1) (by omega)
          rw [show woF r t C W x (k + 1) = woF r t C W x k from if_neg c2] at this
          rw [Int32.add_zero]
          exact this
  have hq := h.by (Q := fun v s' => s' = σ ∧ v = some (.int (woF r t C W x (m / 4)))) (fun n d => p_64_0 σ x (loop d n 0 (Nat.zero_le _)))
  obtain ⟨a, b⟩ := hq
  cases b
  exact ⟨a, rfl⟩
theorem g22_70 (h : RCx PRG n 70 [.ref 22, .int (nI i)] σ (some (.int w)) σ1) (hL : lOK s r t) (hC : LC s r t σ) (hG : gC22 s r t D ld C W m σ) (hV : gV s r t D ld C W m) (hi : i < m) : σ1 = σ ∧ w = shF s r D C W m i := by
  have hm := hV.2.1
  have hN := hL.2.2.2.2.1
  obtain ⟨q1, q2, q3, q4, q5, q6⟩ := hG.2.2.2.2.2.2.1 i hi
  have loop : ∀ d n k, i < k → k ≤ m → Pl PRG n d 70 16 [(0, .ref 22), (1, .int (nI i)), (2, .int (nI k))] [] σ (fun v s' => s' = σ ∧ v = some (.int (shS r C W (W i) (ldG r C i) (m - k) k))) := by
    intro d n
    induction n using Nat.strongRecOn with
    | _ n ih =>
      intro k hik hk
      refine Pl.pos (fun n1 h1 => p_70_16 σ (nI i) (nI k) ?_)
      rw [hG.2.2.2.1]
      refine ⟨fun c => ?_, fun c _ _ => ?_⟩
      · have := (nI_leI (a := m) (b := k) (by omega) (by omega)).mp c
        rw [show m - k = 0 by omega]; exact ⟨rfl, rfl⟩
      · have hlt := nle_of (a := m) (b := k) (by omega) (by omega) c
        obtain ⟨z1, z2, -⟩ := hG.2.2.2.2.2.2.1 k hlt
        obtain ⟨cc, hcc, ecc⟩ := hV.2.2.1 k hlt
        rw [nI_clamp (by omega), nI_clamp (by omega), z1, z2, q2, q4, hC.su hL ecc hcc, show m - k = (m - (k + 1)) + 1 by omega]
        have go : ¬ (W k = W i ∧ suF r (C k) = ldG r C i) → Pl PRG n1 d 70 64 [(0, .ref 22), (1, .int (nI i)), (2, .int (nI k))] [] σ (fun v s' => s' = σ ∧ v = some (.int (shS r C W (W i) (ldG r C i) ((m - (k + 1)) + 1) k))) := fun hn => Pl.pos (fun n2 h2 => p_70_64 σ _ _ (by
          rw [nI_1, show shS r C W (W i) (ldG r C i) ((m - (k + 1)) + 1) k = shS r C W (W i) (ldG r C i) (m - (k + 1)) (k + 1) from if_neg hn]
          exact ih n2 (by omega) (k + 1) (by omega) (by omega)))
        refine ⟨fun c1 _ _ _ => ⟨fun c2 => ?_, fun c2 => go (fun h => c2 h.2)⟩, fun c1 => go (fun h => c1 h.1)⟩
        rw [show shS r C W (W i) (ldG r C i) ((m - (k + 1)) + 1) k = nI k from if_pos ⟨c1, c2⟩]
        exact ⟨rfl, rfl⟩
  have hq := h.by (Q := fun v s' => s' = σ ∧ v = some (.int (shF s r D C W m i))) (fun n d => p_70_0 σ (nI i) (fun _ => by
    rw [nI_clamp (by omega), q6, nI_1]
    unfold shF
    refine ⟨fun c => by rw [if_pos c]; exact ⟨rfl, rfl⟩, fun c => ?_⟩
    rw [if_neg c]
    exact loop d n (i + 1) (by omega) (by omega)))
  obtain ⟨a, b⟩ := hq
  cases b
  exact ⟨a, rfl⟩
theorem g22_69 (h : RCx PRG n 69 [.ref 22] σ none σ1) (hL : lOK s r t) (hG : gC22 s r t D ld C W (m + 1) σ) (hV : gV s r t D ld C W (m + 1)) : gC22 s r t D ld C W m σ1 ∧ exc E22 σ σ1 := by
  have hm := hV.2.1
  have hN := hL.2.2.2.2.1
  refine h.by (Q := fun _ s' => gC22 s r t D ld C W m s' ∧ exc E22 σ s') (fun n d => p_69_0 σ ?_)
  obtain ⟨d1, d2, d3, d4, d5, d6, d7, d8⟩ := hG
  obtain ⟨q1, q2, -⟩ := d7 m (by omega)
  obtain ⟨w, hw, ew⟩ := hV.2.2.2.2.1 m (by omega)
  obtain ⟨c, hc, ec⟩ := hV.2.2.1 m (by omega)
  have hb := hV.2.2.2.2.2 m (by omega)
  rw [ew, ec, nI_clamp (by omega), nI_clamp (by omega)] at hb
  rw [d4, nI_pred, nI_clamp (by omega), q1, q2, ew, ec, nI_clamp (by omega), d6 w hw, hnF_on ew, ec, tk_back (by omega) hb]
  refine ⟨fun c1 => absurd c1 (nI_nle (by omega) (by omega)), fun _ _ _ _ _ => Pl.pos (fun n2 h2 => p_69_63 _ ?_)⟩
  refine ⟨⟨?_, ?_, ?_, ?_, fun q hq => ?_, fun q hq => ?_, fun i hi => ?_, fun k hk => ?_⟩, ((((exc.refl σ).put rfl).put rfl).put rfl).put rfl⟩
  · iterate 4 rw [s1_off (by omega)]
    exact d1
  · iterate 4 rw [s1_off (by omega)]
    exact d2
  · iterate 2 rw [s1_off (by omega)]
    rw [s1_on, ← ew]; exact hV.2.2.2.1 m (by omega)
  · iterate 3 rw [s1_off (by omega)]
    rw [s1_on]
  · iterate 4 rw [s1_off (by omega)]
    exact d5 q hq
  · by_cases e : q = w
    · subst e
      rw [s1_off (by omega), s1_on]
    · iterate 4 rw [s1_off (by omega)]
      rw [d6 q hq, hnF_off (fun h => e ((nI_eq (by omega) (by omega)).mp (by rw [← h, ew])))]
  · have h24 := d7 i (by omega)
    iterate 24 rw [s1_off (by omega)]
    exact h24
  · iterate 4 rw [s1_off (by omega)]
    exact d8 k (by omega)
theorem rc28 {x0 x1 : Int32} (h : RCx PRG n 28 [.int x0, .int x1] σ (some (.int w)) σ1) : σ1 = σ ∧ w = mxF x0 x1 := by
  obtain ⟨a, b⟩ := h.by (Q := fun v s' => s' = σ ∧ v = some (.int (mxF x0 x1))) (fun n d => p_28_0 σ x0 x1 ⟨rfl, rfl⟩)
  cases b
  exact ⟨a, rfl⟩
theorem rc29 (h : RCx PRG n 29 [.int (nI (i + 1)), .int x, .int (nI i)] σ (some (.int w)) σ1) (hi : i < 1000) : σ1 = σ ∧ w = loF x i := by
  obtain ⟨a, b⟩ := h.by (Q := fun v s' => s' = σ ∧ v = some (.int (loF x i))) (fun n d => p_29_0 σ _ x _ (fun w2 σ2 h2 w4 σ4 h4 => by
    obtain ⟨rfl, rfl⟩ := rc28 h2
    obtain ⟨rfl, rfl⟩ := rc28 h4
    exact ⟨fun c => absurd c (nI_nle (by omega) (by omega)), fun _ _ => ⟨rfl, rfl⟩⟩))
  cases b
  exact ⟨a, rfl⟩
theorem g22_30 {p : Nat} (h : RCx PRG n 30 [.ref 22, .int (nI p)] σ (some (.int w)) σ1) (hL : lOK s r t) (hC : LC s r t σ) (hp : p < 4) {P : Nat → Int32} (hP : ∀ k, k < s * r → σ.1 25 k = P k) : σ1 = σ ∧ w = orF P (p * (s * r / 4)) (s * r / 4) := by
  have hN := hL.2.2.2.2.1
  have hr : p * (s * r / 4) + s * r / 4 ≤ s * r := by
    have := Nat.mul_le_mul_right (s * r / 4) (show p + 1 ≤ 4 by omega)
    rw [Nat.add_mul, Nat.one_mul] at this
    omega
  have loop : ∀ d n k, k ≤ s * r / 4 → Pl PRG n d 30 4 [(0, .ref 22), (1, .int (nI p)), (2, .int (orF P (p * (s * r / 4)) k)), (3, .int (nI k))] [] σ (fun v s' => s' = σ ∧ v = some (.int (orF P (p * (s * r / 4)) (s * r / 4)))) := by
    intro d n
    induction n using Nat.strongRecOn with
    | _ n ih =>
      intro k hk
      refine Pl.pos (fun n1 h1 => p_30_4 σ (nI p) _ (nI k) ?_)
      rw [hC.2.2.2.2.1, nI_mulI (by omega) (by omega) (by omega), nI_add]
      refine ⟨fun c => ?_, fun c _ => ?_⟩
      · have := (nI_leI (a := s * r / 4) (b := k) (by omega) (by omega)).mp c
        have e : k = s * r / 4 := by omega
        rw [e]; exact ⟨rfl, rfl⟩
      · have hlt := nle_of (a := s * r / 4) (b := k) (by omega) (by omega) c
        rw [nI_clamp (by omega), hP _ (by omega), nI_1]
        exact ih n1 (by omega) (k + 1) (by omega)
  have hq := h.by (Q := fun v s' => s' = σ ∧ v = some (.int (orF P (p * (s * r / 4)) (s * r / 4)))) (fun n d => p_30_0 σ (nI p) (loop d n 0 (Nat.zero_le _)))
  obtain ⟨a, b⟩ := hq
  cases b
  exact ⟨a, rfl⟩
theorem swF_s1 {σ : Sg} {q i j N : Nat} {P : Nat → Int32} (hP : ∀ k, k < N → σ.1 q k = P k) (hi : i < N) (hj : j < N) : ∀ k, k < N → (s1 (s1 σ q i (σ.1 q j)) q j (σ.1 q i)).1 q k = swF P i j k := by
  intro k hk
  unfold swF
  by_cases e : k = j
  · subst e
    rw [s1_on, if_pos rfl]; exact hP i hi
  · rw [s1_off (by omega), if_neg e]
    by_cases e2 : k = i
    · subst e2
      rw [s1_on, if_pos rfl]; exact hP j hj
    · rw [s1_off (by omega), if_neg e2]; exact hP k hk
theorem g22_33 (h : RCx PRG n 33 [.ref 22, .int x] σ none σ1) (hL : lOK s r t) (hC : LC s r t σ) (C W : Nat → Int32) : gC22 s r t (dlF x (s * r)) 0 C W 0 σ1 ∧ exc E22 σ σ1 := by
  have hN := hL.2.2.2.2.1
  have h0 := Nat.mul_pos hL.1 hL.2.2.1
  have mix : ∀ d n i (P : Nat → Int32) (σ' : Sg), i < s * r → (∀ k, k < s * r → σ'.1 25 k = P k) → (∀ k, k < s * r → shu x i P k = shu x (s * r - 1) nI k) → exc E22 σ σ' → Pl PRG n d 33 36 [(0, .ref 22), (1, .int x), (2, .int (nI i))] [] σ' (fun _ s' => gC22 s r t (dlF x (s * r)) 0 C W 0 s' ∧ exc E22 σ s') := by
    intro d n
    induction n using Nat.strongRecOn with
    | _ n ih =>
      intro i P σ' hi hP hS hf
      have C' := hC.fr hf rfl rfl rfl
      refine Pl.pos (fun n1 h1 => p_33_36 σ' x (nI i) ?_)
      cases i with
      | zero =>
        refine ⟨fun _ w2 σ2 h2 w4 σ4 h4 w6 σ6 h6 w8 σ8 h8 σ9 h9 => ?_, fun c => absurd (by decide) c⟩
        obtain ⟨rfl, rfl⟩ := g22_30 (p := 0) h2 hL C' (by decide) hP
        obtain ⟨rfl, rfl⟩ := g22_30 (p := 1) h4 hL C' (by decide) hP
        obtain ⟨rfl, rfl⟩ := g22_30 (p := 2) h6 hL C' (by decide) hP
        obtain ⟨rfl, rfl⟩ := g22_30 (p := 3) h8 hL C' (by decide) hP
        obtain ⟨k1, k2⟩ := g22_32 h9 hL C W
        refine ⟨k1.eqD (fun p hp => ?_) (fun i hi => absurd hi (Nat.not_lt_zero _)), hf.trans k2⟩
        have er : ∀ p, p < 4 → orF P (p * (s * r / 4)) (s * r / 4) = dlF x (s * r) p := fun p hp => by
          have := Nat.mul_le_mul_right (s * r / 4) (show p + 1 ≤ 4 by omega)
          rw [Nat.add_mul, Nat.one_mul] at this
          exact orF_cg _ (fun i hi => hS i (by omega))
        rcases (show p = 0 ∨ p = 1 ∨ p = 2 ∨ p = 3 by omega) with rfl | rfl | rfl | rfl
        · exact er 0 (by decide)
        · exact er 1 (by decide)
        · exact er 2 (by decide)
        · exact er 3 (by decide)
      | succ i =>
        refine ⟨fun c => absurd c (nI_nlt (a := i + 1) (b := 1) (by omega) (by omega)), fun _ w2 σ2 h2 _ _ _ _ => ?_⟩
        rw [nI_1] at h2
        obtain ⟨rfl, rfl⟩ := rc29 h2 (by omega)
        obtain ⟨j, hj, ej⟩ := loF_rg x (i := i + 1) (by omega)
        rw [ej, nI_clamp (by omega), nI_clamp (by omega), sub1, nI_pred]
        refine ih n1 (by omega) i _ _ (by omega) (swF_s1 hP hi (by omega)) (fun k hk => ?_) ((hf.put rfl).put rfl)
        have := hS k hk
        rw [show shu x (i + 1) P = shu x i (swF P (i + 1) (loF x (i + 1)).toNatClampNeg) from rfl, ej, nI_clamp (by omega)] at this
        exact this
  have fill : ∀ d n i (σ' : Sg), i ≤ s * r → (∀ k, k < i → σ'.1 25 k = nI k) → exc E22 σ σ' → Pl PRG n d 33 2 [(0, .ref 22), (1, .int x), (2, .int (nI i))] [] σ' (fun _ s' => gC22 s r t (dlF x (s * r)) 0 C W 0 s' ∧ exc E22 σ s') := by
    intro d n
    induction n using Nat.strongRecOn with
    | _ n ih =>
      intro i σ' hi hP hf
      have C' := hC.fr hf rfl rfl rfl
      refine Pl.pos (fun n1 h1 => p_33_2 σ' x (nI i) ?_)
      rw [C'.2.2.2.1]
      refine ⟨fun c => ?_, fun c _ => ?_⟩
      · have := (nI_leI (a := s * r) (b := i) (by omega) (by omega)).mp c
        have e : i = s * r := by omega
        subst e
        rw [show nI (s * r) - 1 = nI (s * r - 1) from nI_subI (a := s * r) (b := 1) (by omega)]
        exact mix d n1 _ nI σ' (by omega) hP (fun _ _ => rfl) hf
      · have hlt := nle_of (a := s * r) (b := i) (by omega) (by omega) c
        rw [nI_1, nI_clamp (by omega)]
        refine ih n1 (by omega) (i + 1) _ (by omega) (fun k hk => ?_) (hf.put rfl)
        by_cases e : k = i
        · subst e; rw [s1_on]
        · rw [s1_off (by omega)]; exact hP k (by omega)
  exact h.by (Q := fun _ s' => gC22 s r t (dlF x (s * r)) 0 C W 0 s' ∧ exc E22 σ s') (fun n d => p_33_0 σ x (fill d n 0 σ (Nat.zero_le _) (fun k hk => absurd hk (Nat.not_lt_zero _)) (exc.refl σ)))
end Qc
