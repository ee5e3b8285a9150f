/-! the game of the reference: what each of its methods answers and leaves -/
def LR (s r : Nat) (t : Int32) (lv : Nat) (σ : Sg) : Prop := lv < 2 ∧ σ.1 97 18 = nI lv ∧ σ.1 106 lv = nI s ∧ σ.1 107 lv = nI r ∧ t = (if σ.1 106 lv ≤ σ.1 108 lv then -1 else σ.1 108 lv)
def rG (D : Nat → Int32) (ld : Int32) (C W : Nat → Int32) (m : Nat) (σ : Sg) : Prop := σ.1 97 45 = 1 ∧ σ.1 97 47 = ld ∧ σ.1 97 48 = nI m ∧ (∀ p, p < 4 → σ.1 125 p = D p) ∧ ∀ i, i < m → σ.1 126 i = C i ∧ σ.1 127 i = W i
def rN (σ : Sg) : Prop := σ.1 97 45 = 0 ∧ σ.1 97 48 = 0
def poF (x : Int32) : Nat → Int32
  | 0 => 0
  | k + 1 => poF x k + ((x >>> (nI k &&& 31)) &&& 1)
theorem and3 : ∀ w, w < 4 → (nI w + 1) - (nI w + 1) / (4 : Int32) * (4 : Int32) = (nI w + 1) &&& (3 : Int32) := by decide
section Rg
variable {s r m n i k lv : Nat} {t x y ld : Int32} {D C W : Nat → Int32} {σ σ1 : Sg} {w : Int32}
theorem m210 (h : RCx PRG n 210 [.ref 97] σ (some (.int w)) σ1) (hL : lOK s r t) (hR : LR s r t lv σ) : σ1 = σ ∧ w = nI (s * r) := by
  have hs := hL.2.1
  have hr := hL.2.2.2.1
  have hN := hL.2.2.2.2.1
  obtain ⟨a, b⟩ := h.by (Q := fun v s' => s' = σ ∧ v = some (.int (nI (s * r)))) (fun n d => p_210_0 σ (fun _ _ => by
    rw [hR.2.1, nI_clamp (by have := hR.1; omega), hR.2.2.1, hR.2.2.2.1, nI_mulI (by omega) (by omega) (by omega)]
    exact ⟨rfl, rfl⟩))
  cases b
  exact ⟨a, rfl⟩
theorem m211 (h : RCx PRG n 211 [.ref 97] σ (some (.int w)) σ1) (hL : lOK s r t) (hR : LR s r t lv σ) : σ1 = σ ∧ w = nI (s * r / 4) := by
  have hN := hL.2.2.2.2.1
  obtain ⟨a, b⟩ := h.by (Q := fun v s' => s' = σ ∧ v = some (.int (nI (s * r / 4)))) (fun n d => p_211_0 σ (fun w2 σ2 h2 => by
    obtain ⟨rfl, rfl⟩ := m210 h2 hL hR
    rw [div_4 (by omega)]
    exact ⟨rfl, rfl⟩))
  cases b
  exact ⟨a, rfl⟩
theorem m212 (h : RCx PRG n 212 [.ref 97, .int x] σ (some (.int w)) σ1) (hR : LR s r t lv σ) : σ1 = σ ∧ w = suF r x := by
  obtain ⟨a, b⟩ := h.by (Q := fun v s' => s' = σ ∧ v = some (.int (suF r x))) (fun n d => p_212_0 σ x (fun _ => by
    rw [hR.2.1, nI_clamp (by have := hR.1; omega), hR.2.2.2.1]
    exact fun _ => ⟨rfl, rfl⟩))
  cases b
  exact ⟨a, rfl⟩
theorem m213 (h : RCx PRG n 213 [.ref 97, .int x] σ (some (.int w)) σ1) (hR : LR s r t lv σ) : σ1 = σ ∧ w = rkG r x := by
  obtain ⟨a, b⟩ := h.by (Q := fun v s' => s' = σ ∧ v = some (.int (rkG r x))) (fun n d => p_213_0 σ x (fun _ => by
    rw [hR.2.1, nI_clamp (by have := hR.1; omega), hR.2.2.2.1]
    exact fun _ => ⟨rfl, rfl⟩))
  cases b
  exact ⟨a, rfl⟩
theorem m214 (h : RCx PRG n 214 [.ref 97] σ (some (.int w)) σ1) (hR : LR s r t lv σ) : σ1 = σ ∧ w = t := by
  obtain ⟨a, b⟩ := h.by (Q := fun v s' => s' = σ ∧ v = some (.int t)) (fun n d => p_214_0 σ (fun _ _ => by
    have h5 := hR.2.2.2.2
    rw [hR.2.1, nI_clamp (by have := hR.1; omega)]
    refine ⟨fun c => ?_, fun c _ => ?_⟩
    · rw [if_pos c] at h5; rw [h5]; exact ⟨rfl, rfl⟩
    · rw [if_neg c] at h5; rw [h5]; exact ⟨rfl, rfl⟩))
  cases b
  exact ⟨a, rfl⟩
theorem m195 {x0 x1 x2 : Int32} (h : RCx PRG n 195 [.int x0, .int x1, .int x2] σ (some (.int w)) σ1) : σ1 = σ ∧ ((w = 1 ∧ ¬ x0 < x1 ∧ ¬ x2 < x0) ∨ (w = 0 ∧ (x0 < x1 ∨ x2 < x0))) := by
  obtain ⟨a, b⟩ := h.by (Q := fun v s' => s' = σ ∧ ((v = some (.int 1) ∧ ¬ x0 < x1 ∧ ¬ x2 < x0) ∨ (v = some (.int 0) ∧ (x0 < x1 ∨ x2 < x0)))) (fun n d => q_195_0 σ x0 x1 x2 ⟨fun c => Pl.pos (fun n2 _ => q_195_14 σ ⟨rfl, Or.inr ⟨rfl, Or.inl c⟩⟩), fun c => ⟨fun c2 => Pl.pos (fun n2 _ => q_195_14 σ ⟨rfl, Or.inr ⟨rfl, Or.inr c2⟩⟩), fun c2 => ⟨rfl, Or.inl ⟨rfl, c, c2⟩⟩⟩⟩)
  refine ⟨a, ?_⟩
  rcases b with ⟨b, c⟩ | ⟨b, c⟩
  · cases b; exact Or.inl ⟨rfl, c⟩
  · cases b; exact Or.inr ⟨rfl, c⟩
theorem m215 (h : RCx PRG n 215 [.ref 97, .int x] σ (some (.int w)) σ1) (hL : lOK s r t) (hR : LR s r t lv σ) : σ1 = σ ∧ w = scF s r x := by
  obtain ⟨l1, l2, -⟩ := hL
  obtain ⟨a, b⟩ := h.by (Q := fun v s' => s' = σ ∧ v = some (.int (scF s r x))) (fun n d => p_215_0 σ x (fun _ w2 σ2 h2 _ => by
    rw [hR.2.1, nI_clamp (by have := hR.1; omega), hR.2.2.1, show nI s - 1 = nI (s - 1) from nI_subI (a := s) (b := 1) (by omega)] at h2
    obtain ⟨rfl, hw⟩ := m195 h2
    have ex : (x < nI s) ↔ ¬ (nI (s - 1) < x) := by
      rw [Int32.lt_iff_toInt_lt, Int32.lt_iff_toInt_lt, nI_toInt (by omega), nI_toInt (by omega)]
      omega
    have e0 : (0 ≤ x) ↔ ¬ (x < 0) := by
      rw [Int32.le_iff_toInt_le, Int32.lt_iff_toInt_lt]
      omega
    unfold scF
    refine ⟨fun z => ?_, fun z _ _ => ?_⟩
    · rcases hw with ⟨e, -⟩ | ⟨-, c⟩
      · rw [e] at z; exact absurd z (by decide)
      · rw [if_neg (fun h => by
          rcases c with c | c
          · exact e0.mp h.1 c
          · exact ex.mp h.2 c)]
        exact ⟨rfl, rfl⟩
    · rcases hw with ⟨-, c1, c2⟩ | ⟨e, -⟩
      · rw [if_pos ⟨e0.mpr c1, ex.mpr c2⟩, hR.2.1, nI_clamp (by have := hR.1; omega), hR.2.2.2.1]
        exact ⟨rfl, rfl⟩
      · exact absurd e z))
  cases b
  exact ⟨a, rfl⟩
theorem m209 (h : RCx PRG n 209 [.int x] σ (some (.int w)) σ1) : σ1 = σ ∧ w = poF x 16 := by
  have loop : ∀ d n k, k ≤ 16 → Pl PRG n d 209 4 [(0, .int x), (1, .int (poF x k)), (2, .int (nI k))] [] σ (fun v s' => s' = σ ∧ v = some (.int (poF x 16))) := by
    intro d n
    induction n using Nat.strongRecOn with
    | _ n ih =>
      intro k hk
      refine Pl.pos (fun n1 h1 => p_209_4 σ x _ (nI k) ?_)
      refine ⟨fun c => ?_, fun c => ?_⟩
      · have := (nI_leI (a := 16) (b := k) (by decide) (by omega)).mp c
        have e : k = 16 := by omega
        rw [e]; exact ⟨rfl, rfl⟩
      · have hlt := nle_of (a := 16) (b := k) (by decide) (by omega) c
        rw [nI_1]
        exact ih n1 (by omega) (k + 1) (by omega)
  obtain ⟨a, b⟩ := h.by (Q := fun v s' => s' = σ ∧ v = some (.int (poF x 16))) (fun n d => p_209_0 σ x (loop d n 0 (Nat.zero_le _)))
  cases b
  exact ⟨a, rfl⟩
theorem m225 (h : RCx PRG n 225 [.ref 97, .int x, .int (nI k)] σ (some (.int w)) σ1) (hG : rG D ld C W m σ) (hk : k ≤ m) (hm : m ≤ 16) : σ1 = σ ∧ w = pbF C W x k := by
  have loop : ∀ d n j, j ≤ k → Pl PRG n d 225 5 [(0, .ref 97), (1, .int x), (2, .int (nI k)), (3, .int (pbF C W x j)), (4, .int (nI j))] [] σ (fun v s' => s' = σ ∧ v = some (.int (pbF C W x k))) := by
    intro d n
    induction n using Nat.strongRecOn with
    | _ n ih =>
      intro j hj
      refine Pl.pos (fun n1 h1 => p_225_5 σ x (nI k) _ (nI j) ?_)
      refine ⟨fun c => ?_, fun c _ => ?_⟩
      · have := (nI_leI (a := k) (b := j) (by omega) (by omega)).mp c
        have e : j = k := by omega
        rw [e]; exact ⟨rfl, rfl⟩
      · have hlt := nle_of (a := k) (b := j) (by omega) (by omega) c
        obtain ⟨z1, z2⟩ := hG.2.2.2.2 j (by omega)
        rw [nI_clamp (by omega), z1, z2]
        refine ⟨fun c1 _ => Pl.pos (fun n2 h2 => p_225_34 σ _ _ _ _ ?_), fun c1 => Pl.pos (fun n2 h2 => p_225_34 σ _ _ _ _ ?_)⟩
        · rw [nI_1]
          have := ih n2 (by omega) (j + 1) (by omega)
          rw [show pbF C W x (j + 1) = pbF C W x j ||| ((1 : Int32) <<< (C j &&& 31)) from if_pos c1] at this
          exact this
        · rw [nI_1]
          have := ih n2 (by omega) (j + 1) (by omega)
          rw [show pbF C W x (j + 1) = pbF C W x j from if_neg c1] at this
          exact this
  obtain ⟨a, b⟩ := h.by (Q := fun v s' => s' = σ ∧ v = some (.int (pbF C W x k))) (fun n d => p_225_0 σ x (nI k) (loop d n 0 (Nat.zero_le _)))
  cases b
  exact ⟨a, rfl⟩
theorem m226 {p : Nat} (h : RCx PRG n 226 [.ref 97, .int (nI p)] σ (some (.int w)) σ1) (hG : rG D ld C W m σ) (hm : m ≤ 16) (hp : p < 4) : σ1 = σ ∧ w = hnF D C W p m := by
  obtain ⟨a, b⟩ := h.by (Q := fun v s' => s' = σ ∧ v = some (.int (hnF D C W p m))) (fun n d => p_226_0 σ (nI p) (fun _ w2 σ2 h2 => by
    rw [hG.2.2.1] at h2
    obtain ⟨rfl, rfl⟩ := m225 h2 hG (Nat.le_refl _) hm
    rw [nI_clamp (by omega), hG.2.2.2.1 p hp]
    exact ⟨rfl, rfl⟩))
  cases b
  exact ⟨a, rfl⟩
theorem m228 (h : RCx PRG n 228 [.ref 97, .int x, .int y] σ (some (.int w)) σ1) (hR : LR s r t lv σ) : σ1 = σ ∧ ((w = 1 ∧ bxF r t x y = true) ∨ (w = 0 ∧ bxF r t x y = false)) := by
  obtain ⟨a, b⟩ := h.by (Q := fun v s' => s' = σ ∧ ((v = some (.int 1) ∧ bxF r t x y = true) ∨ (v = some (.int 0) ∧ bxF r t x y = false))) (fun n d => p_228_0 σ x y (fun w2 σ2 h2 w4 σ4 h4 => by
    obtain ⟨rfl, rfl⟩ := m212 h2 hR
    obtain ⟨rfl, rfl⟩ := m212 h4 hR
    unfold bxF
    refine ⟨fun c => ?_, fun c w6 σ6 h6 w8 σ8 h8 => ?_⟩
    · rw [if_pos c]
      refine ⟨fun c2 => ⟨rfl, Or.inr ⟨rfl, decide_eq_false (fun e => by
          rw [Int32.lt_iff_toInt_lt] at e
          rw [Int32.le_iff_toInt_le] at c2
          omega)⟩⟩, fun c2 => ⟨rfl, Or.inl ⟨rfl, decide_eq_true (by
          rw [Int32.lt_iff_toInt_lt]
          rw [Int32.le_iff_toInt_le] at c2
          omega)⟩⟩⟩
    · obtain ⟨rfl, rfl⟩ := m212 h6 hR
      obtain ⟨rfl, rfl⟩ := m214 h8 hR
      rw [if_neg c]
      exact ⟨fun c2 => ⟨rfl, Or.inl ⟨rfl, decide_eq_true c2⟩⟩, fun c2 => ⟨rfl, Or.inr ⟨rfl, decide_eq_false c2⟩⟩⟩))
  refine ⟨a, ?_⟩
  rcases b with ⟨b, c⟩ | ⟨b, c⟩
  · cases b; exact Or.inl ⟨rfl, c⟩
  · cases b; exact Or.inr ⟨rfl, c⟩
theorem m229 (h : RCx PRG n 229 [.ref 97, .int (nI k)] σ (some (.int w)) σ1) (hR : LR s r t lv σ) (hG : rG D ld C W m σ) (hk : 4 * k + 4 ≤ m) (hm : m ≤ 16) : σ1 = σ ∧ w = W (bsF r t C (4 * k) 3) := by
  have e4 : (4 : Int32) * nI k = nI (4 * k) := by rw [nI_4, nI_mulI (by omega) (by omega) (by omega)]
  have loop : ∀ d n j, j ≤ 3 → Pl PRG n d 229 8 [(0, .ref 97), (1, .int (nI k)), (2, .int (nI (bsF r t C (4 * k) j))), (3, .int (nI (4 * k + j + 1)))] [] σ (fun v s' => s' = σ ∧ v = some (.int (W (bsF r t C (4 * k) 3)))) := by
    intro d n
    induction n using Nat.strongRecOn with
    | _ n ih =>
      intro j hj
      have hr := bsF_rg (r := r) (t := t) (C := C) (4 * k) j
      refine Pl.pos (fun n1 h1 => p_229_8 σ (nI k) _ _ ?_)
      rw [e4, show nI (4 * k) + (4 : Int32) = nI (4 * k + 4) by rw [nI_4, nI_add], nI_clamp (by omega), nI_clamp (by omega)]
      refine ⟨fun c _ => ?_, fun c _ _ w2 σ2 h2 _ => ?_⟩
      · have := (nI_leI (a := 4 * k + 4) (b := 4 * k + j + 1) (by omega) (by omega)).mp c
        have e : j = 3 := by omega
        subst e
        rw [(hG.2.2.2.2 _ (show bsF r t C (4 * k) 3 < m by omega)).2]
        exact ⟨rfl, rfl⟩
      · have hlt := nle_of (a := 4 * k + 4) (b := 4 * k + j + 1) (by omega) (by omega) c
        rw [(hG.2.2.2.2 _ (show 4 * k + j + 1 < m by omega)).1, (hG.2.2.2.2 _ (show bsF r t C (4 * k) j < m by omega)).1] at h2
        obtain ⟨rfl, hw⟩ := m228 h2 hR
        refine ⟨fun z => Pl.pos (fun n2 h2 => p_229_38 σ2 _ _ _ ?_), fun z => Pl.pos (fun n2 h2 => p_229_38 σ2 _ _ _ ?_)⟩
        · rcases hw with ⟨e, -⟩ | ⟨-, hb⟩
          · rw [e] at z; exact absurd z (by decide)
          · rw [nI_1]
            have := ih n2 (by omega) (j + 1) (by omega)
            rw [show bsF r t C (4 * k) (j + 1) = bsF r t C (4 * k) j by (show (if _ then _ else _) = _); rw [hb]; rfl] at this
            exact this
        · rcases hw with ⟨-, hb⟩ | ⟨e, -⟩
          · rw [nI_1]
            have := ih n2 (by omega) (j + 1) (by omega)
            rw [show bsF r t C (4 * k) (j + 1) = 4 * k + j + 1 by (show (if _ then _ else _) = _); rw [hb]; rfl] at this
            exact this
          · exact absurd e z
  obtain ⟨a, b⟩ := h.by (Q := fun v s' => s' = σ ∧ v = some (.int (W (bsF r t C (4 * k) 3)))) (fun n d => p_229_0 σ (nI k) (by
    rw [e4, nI_1]
    exact loop d n 0 (by decide)))
  cases b
  exact ⟨a, rfl⟩
theorem m230N (h : RCx PRG n 230 [.ref 97] σ (some (.int w)) σ1) (hN : rN σ) : σ1 = σ ∧ w = -2 := by
  obtain ⟨a, b⟩ := h.by (Q := fun v s' => s' = σ ∧ v = some (.int (-2))) (fun n d => p_230_0 σ ⟨fun _ => Pl.pos (fun n2 _ => p_230_18 σ ⟨rfl, rfl⟩), fun c => absurd hN.1 c⟩)
  cases b
  exact ⟨a, rfl⟩
theorem m230 (h : RCx PRG n 230 [.ref 97] σ (some (.int w)) σ1) (hL : lOK s r t) (hR : LR s r t lv σ) (hG : rG D ld C W m σ) (hV : gV s r t D ld C W m) : σ1 = σ ∧ w = tnF (s * r) r t ld C W m := by
  have hN := hL.2.2.2.2.1
  have hm := hV.2.1
  obtain ⟨a, b⟩ := h.by (Q := fun v s' => s' = σ ∧ v = some (.int (tnF (s * r) r t ld C W m))) (fun n d => p_230_0 σ (by
    rw [hG.1, hG.2.2.1]
    refine ⟨fun c => absurd c (by decide), fun _ w2 σ2 h2 => ?_⟩
    obtain ⟨rfl, rfl⟩ := m210 h2 hL hR
    unfold tnF
    refine ⟨fun c => Pl.pos (fun n2 _ => p_230_18 σ2 ?_), fun c => ?_⟩
    · rw [if_pos (by rw [(nI_eq (by omega) (by omega)).mp c]; exact Nat.le_refl _)]; exact ⟨rfl, rfl⟩
    · have hlt : m < s * r := by
        rcases Nat.lt_or_ge m (s * r) with g | g
        · exact g
        · exact absurd (by rw [show m = s * r by omega]) c
      rw [if_neg (by omega), hG.2.2.1, rem_4 (by omega)]
      refine ⟨fun c2 => ?_, fun c2 _ => ?_⟩
      · have c3 : m % 4 = 0 := by
          have := (nI_leI (a := m % 4) (b := 0) (by omega) (by decide)).mp c2
          omega
        rw [if_pos c3]
        refine ⟨fun c4 => ?_, fun c4 w4 σ4 h4 => ?_⟩
        · have c5 : m = 0 := (nI_eq (b := 0) (by omega) (by decide)).mp c4
          rw [if_pos c5, hG.2.1]; exact ⟨rfl, rfl⟩
        · have c5 : ¬ m = 0 := fun e => c4 (by rw [e]; rfl)
          rw [if_neg c5]
          rw [div_4 (by omega), show nI (m / 4) - 1 = nI (m / 4 - 1) from nI_subI (a := m / 4) (b := 1) (by omega)] at h4
          obtain ⟨rfl, rfl⟩ := m229 h4 hR hG (by omega) (by omega)
          rw [show 4 * (m / 4 - 1) = m - 4 by omega]
          exact ⟨rfl, rfl⟩
      · have c3 : ¬ m % 4 = 0 := fun e => c2 (by rw [e]; decide)
        rw [if_neg c3, show nI m - 1 = nI (m - 1) from nI_subI (a := m) (b := 1) (by omega), nI_clamp (by omega), (hG.2.2.2.2 _ (show m - 1 < m by omega)).2]
        obtain ⟨u, hu, eu⟩ := hV.2.2.2.2.1 (m - 1) (by omega)
        rw [eu, and3 u hu]
        exact ⟨rfl, rfl⟩))
  cases b
  exact ⟨a, rfl⟩
theorem m232 (h : RCx PRG n 232 [.ref 97, .int (nI k)] σ (some (.int w)) σ1) (hR : LR s r t lv σ) (hG : rG D ld C W m σ) (hk : k ≤ m) (hm : m ≤ 16) : σ1 = σ ∧ w = ldG r C k := by
  obtain ⟨a, b⟩ := h.by (Q := fun v s' => s' = σ ∧ v = some (.int (ldG r C k))) (fun n d => p_232_0 σ (nI k) (by
    unfold ldG
    rw [rem_4 (by omega)]
    refine ⟨fun c => ?_, fun c _ w2 σ2 h2 => ?_⟩
    · rw [if_pos ((nI_eq (b := 0) (by omega) (by decide)).mp c)]; exact ⟨rfl, rfl⟩
    · have c3 : ¬ k % 4 = 0 := fun e => c (by rw [e]; rfl)
      rw [nI_subI (Nat.mod_le k 4), nI_clamp (by omega), (hG.2.2.2.2 _ (show k - k % 4 < m by omega)).1] at h2
      obtain ⟨rfl, rfl⟩ := m212 h2 hR
      rw [if_neg c3]
      exact ⟨rfl, rfl⟩))
  cases b
  exact ⟨a, rfl⟩
theorem m233N (h : RCx PRG n 233 [.ref 97] σ (some (.int w)) σ1) (hN : rN σ) : σ1 = σ ∧ w = 0 := by
  obtain ⟨a, b⟩ := h.by (Q := fun v s' => s' = σ ∧ v = some (.int 0)) (fun n d => p_233_0 σ (fun w2 σ2 h2 => by
    obtain ⟨rfl, rfl⟩ := m230N h2 hN
    exact ⟨fun c => absurd c (by decide), fun _ => ⟨rfl, rfl⟩⟩))
  cases b
  exact ⟨a, rfl⟩
theorem m233 (h : RCx PRG n 233 [.ref 97] σ (some (.int w)) σ1) (hL : lOK s r t) (hR : LR s r t lv σ) (hG : rG D ld C W m σ) (hV : gV s r t D ld C W m) : σ1 = σ ∧ w = myF s r t ld D C W m := by
  have hN := hL.2.2.2.2.1
  have hm := hV.2.1
  obtain ⟨a, b⟩ := h.by (Q := fun v s' => s' = σ ∧ v = some (.int (myF s r t ld D C W m))) (fun n d => p_233_0 σ (fun w2 σ2 h2 => by
    obtain ⟨rfl, rfl⟩ := m230 h2 hL hR hG hV
    unfold myF
    refine ⟨fun c w4 σ4 h4 w6 σ6 h6 w8 σ8 h8 => ?_, fun c => by rw [if_neg c]; exact ⟨rfl, rfl⟩⟩
    have hlt : m < s * r := by
      rcases Nat.lt_or_ge m (s * r) with g | g
      · exact g
      · rw [tn_end g] at c; exact absurd c (by decide)
    obtain ⟨p, hp, ep⟩ := hV.turn hlt
    rw [if_pos c]
    rw [ep] at h4 ⊢
    obtain ⟨rfl, rfl⟩ := m226 h4 hG (by omega) hp
    rw [hG.2.2.1] at h6
    obtain ⟨rfl, rfl⟩ := m232 h6 hR hG (Nat.le_refl _) (by omega)
    obtain ⟨rfl, rfl⟩ := m215 h8 hL hR
    rw [nI_clamp (by omega)]
    exact ⟨fun c3 => by rw [if_pos c3]; exact ⟨rfl, rfl⟩, fun c3 => by rw [if_neg c3]; exact ⟨rfl, rfl⟩⟩))
  cases b
  exact ⟨a, rfl⟩
theorem m235 (h : RCx PRG n 235 [.ref 97, .int y, .int x] σ (some (.int w)) σ1) (hG : rG D ld C W m σ) (hm : m < 16) : w = nI (m + 1) ∧ rG D ld (upF C m x) (upF W m y) (m + 1) σ1 ∧ σ1 = s1 (s1 (s1 σ 126 m x) 127 m y) 97 48 (nI (m + 1)) := by
  obtain ⟨a, b, c⟩ := h.by (Q := fun v s' => v = some (.int (nI (m + 1))) ∧ rG D ld (upF C m x) (upF W m y) (m + 1) s' ∧ s' = s1 (s1 (s1 σ 126 m x) 127 m y) 97 48 (nI (m + 1))) (fun n d => p_235_0 σ y x (fun _ _ => by
    obtain ⟨g1, g2, g3, g4, g5⟩ := hG
    rw [g3, nI_1, nI_clamp (by omega)]
    refine ⟨rfl, ⟨?_, ?_, s1_on, fun p hp => ?_, fun i hi => ?_⟩, rfl⟩
    · iterate 3 rw [s1_off (by omega)]
      exact g1
    · iterate 3 rw [s1_off (by omega)]
      exact g2
    · iterate 3 rw [s1_off (by omega)]
      exact g4 p hp
    · by_cases e : i = m
      · subst e
        refine ⟨?_, ?_⟩
        · iterate 2 rw [s1_off (by omega)]
          rw [s1_on, upF_on]
        · rw [s1_off (by omega), s1_on, upF_on]
      · refine ⟨?_, ?_⟩
        · iterate 3 rw [s1_off (by omega)]
          rw [upF_off e]; exact (g5 i (by omega)).1
        · iterate 3 rw [s1_off (by omega)]
          rw [upF_off e]; exact (g5 i (by omega)).2))
  cases a
  exact ⟨rfl, b, c⟩
theorem m240 (h : RCx PRG n 240 [.ref 97, .int (nI k)] σ (some (.int w)) σ1) (hL : lOK s r t) (hR : LR s r t lv σ) (hG : rG D ld C W m σ) (hV : isC s r C m) (hk : k < m) (hm : m ≤ 16) : σ1 = σ ∧ w = kdF r C k := by
  have hVk : isC s r C k := fun i hi => hV i (by omega)
  obtain ⟨a, b⟩ := h.by (Q := fun v s' => s' = σ ∧ v = some (.int (kdF r C k))) (fun n d => p_240_0 σ (nI k) (fun w2 σ2 h2 => by
    obtain ⟨rfl, rfl⟩ := m232 h2 hR hG (Nat.le_of_lt hk) hm
    unfold kdF kdG
    by_cases c4 : k % 4 = 0
    · have el : ldG r C k = -1 := if_pos c4
      rw [el]
      exact ⟨fun _ => by rw [if_neg (by decide)]; exact ⟨rfl, rfl⟩, fun c => absurd rfl c⟩
    · obtain ⟨u, hu, eu⟩ := ld_ge hL hVk c4
      have hs := hL.2.1
      refine ⟨fun c => ?_, fun c _ w4 σ4 h4 => ?_⟩
      · rw [eu] at c
        have := nI_pos' (n := u) (by omega)
        rw [c] at this
        exact absurd this (by decide)
      · rw [nI_clamp (by omega), (hG.2.2.2.2 k hk).1] at h4
        obtain ⟨rfl, rfl⟩ := m212 h4 hR
        rw [if_pos (by rw [eu]; exact nI_pos' (by omega))]
        exact ⟨fun c2 => by rw [if_pos c2]; exact ⟨rfl, rfl⟩, fun c2 => by rw [if_neg c2]; exact ⟨rfl, rfl⟩⟩))
  cases b
  exact ⟨a, rfl⟩
theorem m241 (h : RCx PRG n 241 [.ref 97, .int (nI k)] σ (some (.int w)) σ1) (hR : LR s r t lv σ) (hG : rG D ld C W m σ) (hk : k < m) (hm : m ≤ 16) : σ1 = σ ∧ w = bfF r C W (W k) (suF r (C k)) k := by
  have loop : ∀ d n j, j ≤ k → Pl PRG n d 241 4 [(0, .ref 97), (1, .int (nI k)), (2, .int (bfF r C W (W k) (suF r (C k)) j)), (3, .int (nI j))] [] σ (fun v s' => s' = σ ∧ v = some (.int (bfF r C W (W k) (suF r (C k)) k))) := by
    intro d n
    induction n using Nat.strongRecOn with
    | _ n ih =>
      intro j hj
      refine Pl.pos (fun n1 h1 => p_241_4 σ (nI k) _ (nI j) ?_)
      refine ⟨fun c => ?_, fun c _ _ => ?_⟩
      · have := (nI_leI (a := k) (b := j) (by omega) (by omega)).mp c
        have e : j = k := by omega
        rw [e]; exact ⟨rfl, rfl⟩
      · have hlt := nle_of (a := k) (b := j) (by omega) (by omega) c
        obtain ⟨z1, z2⟩ := hG.2.2.2.2 j (by omega)
        obtain ⟨y1, y2⟩ := hG.2.2.2.2 k hk
        rw [nI_clamp (by omega), nI_clamp (by omega), z1, z2, y2]
        have go : ∀ n2 v, n2 < n → v = bfF r C W (W k) (suF r (C k)) (j + 1) → Pl PRG n2 d 241 58 [(0, .ref 97), (1, .int (nI k)), (2, .int v), (3, .int (nI j))] [] σ (fun v s' => s' = σ ∧ v = some (.int (bfF r C W (W k) (suF r (C k)) k))) := fun n2 v h2 hv => Pl.pos (fun n3 h3 => p_241_58 σ _ _ _ (by
          rw [nI_1, hv]
          exact ih n3 (by omega) (j + 1) (by omega)))
        refine ⟨fun c1 _ w2 σ2 h2 _ w4 σ4 h4 => ?_, fun c1 => go n1 _ (by omega) (by rw [show bfF r C W (W k) (suF r (C k)) (j + 1) = bfF r C W (W k) (suF r (C k)) j from if_neg (fun h => c1 h.1)])⟩
        obtain ⟨rfl, rfl⟩ := m212 h2 hR
        rw [y1] at h4
        obtain ⟨rfl, rfl⟩ := m212 h4 hR
        refine ⟨fun c2 _ w6 σ6 h6 => ?_, fun c2 => go n1 _ (by omega) (by rw [show bfF r C W (W k) (suF r (C k)) (j + 1) = bfF r C W (W k) (suF r (C k)) j from if_neg (fun h => c2 h.2)])⟩
        rw [z1] at h6
        obtain ⟨rfl, rfl⟩ := m213 h6 hR
        exact go n1 _ (by omega) (by rw [show bfF r C W (W k) (suF r (C k)) (j + 1) = rkG r (C j) from if_pos ⟨c1, c2⟩])
  obtain ⟨a, b⟩ := h.by (Q := fun v s' => s' = σ ∧ v = some (.int (bfF r C W (W k) (suF r (C k)) k))) (fun n d => p_241_0 σ (nI k) (loop d n 0 (Nat.zero_le _)))
  cases b
  exact ⟨a, rfl⟩
theorem m242 (h : RCx PRG n 242 [.ref 97, .int (nI k)] σ (some (.int w)) σ1) (hL : lOK s r t) (hR : LR s r t lv σ) (hG : rG D ld C W m σ) (hV : gV s r t D ld C W m) (hk : k < m) : σ1 = σ ∧ w = brF s r D C W k := by
  have hN := hL.2.2.2.2.1
  have hm := hV.2.1
  obtain ⟨u, hu, eu⟩ := hV.2.2.2.2.1 k hk
  obtain ⟨a, b⟩ := h.by (Q := fun v s' => s' = σ ∧ v = some (.int (brF s r D C W k))) (fun n d => p_242_0 σ (nI k) (fun _ w2 σ2 h2 => by
    obtain ⟨rfl, rfl⟩ := m240 h2 hL hR hG hV.2.2.1 hk (by omega)
    unfold brF
    rw [nI_clamp (by omega), (hG.2.2.2.2 k hk).2, eu, nI_clamp (by omega), hG.2.2.2.1 u hu]
    refine ⟨fun c _ w4 σ4 h4 w6 σ6 h6 w8 σ8 h8 => ?_, fun c => Pl.pos (fun n2 _ => p_242_48 σ2 (by rw [if_neg (fun h => c h.1)]; exact ⟨rfl, rfl⟩))⟩
    obtain ⟨rfl, rfl⟩ := m225 h4 hG (Nat.le_of_lt hk) (by omega)
    obtain ⟨rfl, rfl⟩ := m232 h6 hR hG (Nat.le_of_lt hk) (by omega)
    obtain ⟨rfl, rfl⟩ := m215 h8 hL hR
    exact ⟨fun c3 => Pl.pos (fun n2 _ => p_242_48 _ (by rw [if_neg (fun h => h.2 c3)]; exact ⟨rfl, rfl⟩)), fun c3 => by rw [if_pos ⟨c, c3⟩]; exact ⟨rfl, rfl⟩⟩))
  cases b
  exact ⟨a, rfl⟩
theorem m243 (h : RCx PRG n 243 [.ref 97, .int (nI i)] σ (some (.int w)) σ1) (hL : lOK s r t) (hR : LR s r t lv σ) (hG : rG D ld C W m σ) (hV : gV s r t D ld C W m) (hi : i < m) : σ1 = σ ∧ w = shF s r D C W m i := by
  have hm := hV.2.1
  have hN := hL.2.2.2.2.1
  obtain ⟨y1, y2⟩ := hG.2.2.2.2 i hi
  have loop : ∀ d n k, i < k → k ≤ m → Pl PRG n d 243 15 [(0, .ref 97), (1, .int (nI i)), (2, .int (nI k))] [] σ (fun v s' => s' = σ ∧ v = some (.int (shS r C W (W i) (ldG r C i) (m - k) k))) := by
    intro d n
    induction n using Nat.strongRecOn with
    | _ n ih =>
      intro k hik hk
      refine Pl.pos (fun n1 h1 => p_243_15 σ (nI i) (nI k) ?_)
      rw [hG.2.2.1]
      refine ⟨fun c => ?_, fun c _ _ => ?_⟩
      · have := (nI_leI (a := m) (b := k) (by omega) (by omega)).mp c
        rw [show m - k = 0 by omega]; exact ⟨rfl, rfl⟩
      · have hlt := nle_of (a := m) (b := k) (by omega) (by omega) c
        obtain ⟨z1, z2⟩ := hG.2.2.2.2 k hlt
        rw [nI_clamp (by omega), nI_clamp (by omega), z1, z2, y2, show m - k = (m - (k + 1)) + 1 by omega]
        have go : ∀ n2, n2 < n → ¬ (W k = W i ∧ suF r (C k) = ldG r C i) → Pl PRG n2 d 243 58 [(0, .ref 97), (1, .int (nI i)), (2, .int (nI k))] [] σ (fun v s' => s' = σ ∧ v = some (.int (shS r C W (W i) (ldG r C i) ((m - (k + 1)) + 1) k))) := fun n2 h2 hn => Pl.pos (fun n3 h3 => p_243_58 σ _ _ (by
          rw [nI_1, show shS r C W (W i) (ldG r C i) ((m - (k + 1)) + 1) k = shS r C W (W i) (ldG r C i) (m - (k + 1)) (k + 1) from if_neg hn]
          exact ih n3 (by omega) (k + 1) (by omega) (by omega)))
        refine ⟨fun c1 _ w2 σ2 h2 w4 σ4 h4 => ?_, fun c1 => go n1 (by omega) (fun h => c1 h.1)⟩
        obtain ⟨rfl, rfl⟩ := m212 h2 hR
        obtain ⟨rfl, rfl⟩ := m232 h4 hR hG (Nat.le_of_lt hi) (by omega)
        refine ⟨fun c2 => ?_, fun c2 => go n1 (by omega) (fun h => c2 h.2)⟩
        rw [show shS r C W (W i) (ldG r C i) ((m - (k + 1)) + 1) k = nI k from if_pos ⟨c1, c2⟩]
        exact ⟨rfl, rfl⟩
  obtain ⟨a, b⟩ := h.by (Q := fun v s' => s' = σ ∧ v = some (.int (shF s r D C W m i))) (fun n d => p_243_0 σ (nI i) (fun w2 σ2 h2 _ => by
    obtain ⟨rfl, rfl⟩ := m242 h2 hL hR hG hV hi
    unfold shF
    refine ⟨fun c => by rw [if_pos c]; exact ⟨rfl, rfl⟩, fun c => ?_⟩
    rw [if_neg c, nI_1]
    exact loop d n (i + 1) (by omega) (by omega)))
  cases b
  exact ⟨a, rfl⟩
end Rg
