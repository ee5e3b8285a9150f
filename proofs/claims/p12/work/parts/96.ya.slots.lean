/-! the slots -/
section G46
variable {s r m n a : Nat} {t x : Int32} {C W : Nat → Int32} {σ σ1 : Sg} {w : Int32}
theorem g46_34 (h : RCx PRG n 34 [.ref 46] σ (some (.int w)) σ1) (hL : lOK s r t) (hC : LC s r t σ) (hB : gB 46 49 50 C W m σ) (hV : isC s r C m) (hm : m ≤ 16) : σ1 = σ ∧ w = ldG r C m := by
  have hq := h.by (Q := fun v s' => s' = σ ∧ v = some (.int (ldG r C m))) (fun n d => p_34_b46_0 σ (by
    rw [hB.1, rem_4 (by omega), nI_subI (Nat.mod_le m 4)]
    refine ⟨fun c => ?_, fun c _ => ?_⟩
    · have := (nI_leI (by omega) (by omega)).mp c
      unfold ldG
      rw [if_pos (by omega)]
      exact ⟨rfl, rfl⟩
    · have hlt := nle_of (by omega) (by omega) c
      rw [nI_clamp (by omega), (hB.2 _ hlt).1]
      obtain ⟨cc, hcc, e⟩ := hV _ hlt
      intro _
      rw [hC.su hL e hcc]
      unfold ldG
      rw [if_neg (by omega)]
      exact ⟨rfl, rfl⟩))
  obtain ⟨a, b⟩ := hq
  cases b
  exact ⟨a, rfl⟩
theorem g46_37 {u : Int32} (h : RCx PRG n 37 [.ref 46, .int x, .int u] σ (some (.int w)) σ1) (hL : lOK s r t) (hC : LC s r t σ) (hx : ∃ c, c < s * r ∧ x = nI c) : σ1 = σ ∧ w = kdG r x u := by
  obtain ⟨c, hc, e⟩ := hx
  have hq := h.by (Q := fun v s' => s' = σ ∧ v = some (.int (kdG r x u))) (fun n d => p_37_b46_0 σ x u (by
    rw [hC.su hL e hc]
    unfold kdG
    refine ⟨fun c1 _ => ⟨fun c2 => ?_, fun c2 => ?_⟩, fun c1 => ?_⟩
    · rw [if_pos c1, if_pos c2]; exact ⟨rfl, rfl⟩
    · rw [if_pos c1, if_neg c2]; exact ⟨rfl, rfl⟩
    · rw [if_neg c1]; exact ⟨rfl, rfl⟩))
  obtain ⟨a, b⟩ := hq
  cases b
  exact ⟨a, rfl⟩
theorem g46_36l {d : Nat} {T : Int32} (hL : lOK s r t) (hC : LC s r t σ) (hB : gB 46 49 50 C W m σ) (hV : isC s r C m) (hm : m ≤ 16) (hx : ∃ c, c < s * r ∧ x = nI c) (hT : σ.1 46 6 = T) : ∀ n j, j ≤ m → Pl PRG n d 36 7 [(0, .ref 46), (1, .int x), (2, .int (nI j - 1))] [] σ (fun v s' => s' = σ ∧ v = some (.int (bfF r C W T (suF r x) j))) := by
  intro n
  induction n using Nat.strongRecOn with
  | _ n ih =>
    intro j hj
    refine Pl.pos (fun n1 h1 => p_36_b46_7 σ x (nI j - 1) ?_)
    cases j with
    | zero => exact ⟨fun _ => ⟨rfl, rfl⟩, fun c => absurd (by decide) c⟩
    | succ j =>
      rw [nI_pred, nI_clamp (by omega), (hB.2 j (by omega)).1, (hB.2 j (by omega)).2, hT]
      obtain ⟨c, hc, e⟩ := hx
      obtain ⟨cc, hcc, e2⟩ := hV j (by omega)
      have go : ¬ (W j = T ∧ suF r (C j) = suF r x) → Pl PRG n1 d 36 64 [(0, .ref 46), (1, .int x), (2, .int (nI j))] [] σ (fun v s' => s' = σ ∧ v = some (.int (bfF r C W T (suF r x) (j + 1)))) := fun hn => Pl.pos (fun n2 h2 => p_36_b46_64 σ x (nI j) (by
        rw [sub1, show bfF r C W T (suF r x) (j + 1) = bfF r C W T (suF r x) j from if_neg hn]
        exact ih n2 (by omega) j (by omega)))
      refine ⟨fun c => absurd c (nI_pos (by omega)), fun _ _ => ⟨fun c1 _ _ _ => ?_, fun c1 => go (fun h => c1 h.1)⟩⟩
      rw [hC.su hL e hc, hC.su hL e2 hcc]
      refine ⟨fun c2 _ w2 σ2 h2 => ?_, fun c2 => go (fun h => c2 h.2)⟩
      obtain ⟨rfl, rfl⟩ := rc9 h2 hL hC ⟨cc, hcc, e2⟩
      exact ⟨rfl, by rw [show bfF r C W T (suF r x) (j + 1) = rkG r (C j) from if_pos ⟨c1, c2⟩]⟩
theorem g46_36 {T : Int32} (h : RCx PRG n 36 [.ref 46, .int x] σ (some (.int w)) σ1) (hL : lOK s r t) (hC : LC s r t σ) (hB : gB 46 49 50 C W m σ) (hV : isC s r C m) (hm : m ≤ 16) (hx : ∃ c, c < s * r ∧ x = nI c) (hT : σ.1 46 6 = T) : σ1 = σ ∧ w = bfF r C W T (suF r x) m := by
  have hq := h.by (Q := fun v s' => s' = σ ∧ v = some (.int (bfF r C W T (suF r x) m))) (fun n d => p_36_b46_0 σ x (by
    rw [hB.1]
    exact g46_36l hL hC hB hV hm hx hT n m (Nat.le_refl _)))
  obtain ⟨a, b⟩ := hq
  cases b
  exact ⟨a, rfl⟩
theorem g46_45l {d : Nat} (hL : lOK s r t) (hC : LC s r t σ) (hB : gB 46 49 50 C W m σ) (hV : isC s r C m) (hm : m ≤ 16) (ha : a + 4 ≤ m) : ∀ n j, j ≤ 3 → Pl PRG n d 45 6 [(0, .ref 46), (1, .int (nI a)), (2, .int (nI (bsF r t C a j))), (3, .int (nI (a + j + 1)))] [] σ (fun v s' => s' = σ ∧ v = some (.int (nI (bsF r t C a 3)))) := by
  intro n
  induction n using Nat.strongRecOn with
  | _ n ih =>
    intro j hj
    refine Pl.pos (fun n1 h1 => p_45_b46_6 σ (nI a) _ _ ?_)
    have hr := bsF_rg (r := r) (t := t) (C := C) a j
    rw [hB.1, show nI a + (4 : Int32) = nI (a + 4) by rw [nI_4, nI_add]]
    by_cases e : j = 3
    · subst e
      refine ⟨fun c => ?_, fun c => ⟨fun _ => Pl.pos (fun n2 h2 => p_45_b46_106 σ _ ⟨rfl, rfl⟩), fun c2 => absurd ((nI_leI (by omega) (by omega)).mpr (by omega)) c2⟩⟩
      exact Pl.pos (fun n2 h2 => p_45_b46_106 σ _ ⟨rfl, rfl⟩)
    · have h6 : a + j + 1 < m := by omega
      obtain ⟨c1, hc1, e1⟩ := hV (a + j + 1) (by omega)
      obtain ⟨c2, hc2, e2⟩ := hV (bsF r t C a j) (by omega)
      rw [nI_clamp (by omega), nI_clamp (by omega), (hB.2 _ h6).1, (hB.2 _ (show bsF r t C a j < m by omega)).1, hC.su hL e1 hc1, hC.su hL e2 hc2, hC.2.2.1]
      have keep : bxF r t (C (a + j + 1)) (C (bsF r t C a j)) = false → Pl PRG n1 d 45 100 [(0, .ref 46), (1, .int (nI a)), (2, .int (nI (bsF r t C a j))), (3, .int (nI (a + j + 1)))] [] σ (fun v s' => s' = σ ∧ v = some (.int (nI (bsF r t C a 3)))) := fun hb => Pl.pos (fun n2 h2 => p_45_b46_100 σ _ _ _ (by
        rw [nI_1]
        have := ih n2 (by omega) (j + 1) (by omega)
        rw [show bsF r t C a (j + 1) = bsF r t C a j by (show (if _ then _ else _) = _); rw [hb]; rfl] at this
        exact this))
      have take : bxF r t (C (a + j + 1)) (C (bsF r t C a j)) = true → Pl PRG n1 d 45 98 [(0, .ref 46), (1, .int (nI a)), (3, .int (nI (a + j + 1)))] [] σ (fun v s' => s' = σ ∧ v = some (.int (nI (bsF r t C a 3)))) := fun hb => Pl.pos (fun n2 h2 => p_45_b46_98 σ _ _ (Pl.pos (fun n3 h3 => p_45_b46_100 σ _ _ _ (by
        rw [nI_1]
        have := ih n3 (by omega) (j + 1) (by omega)
        rw [show bsF r t C a (j + 1) = a + j + 1 by (show (if _ then _ else _) = _); rw [hb]; rfl] at this
        exact this))))
      refine ⟨fun c => absurd ((nI_leI (by omega) (by omega)).mp c) (by omega), fun _ => ⟨fun c => absurd ((nI_leI (by omega) (by omega)).mp c) (by omega), fun _ _ _ _ _ => ⟨fun c _ _ => ⟨fun c2 => keep ?_, fun c2 => take ?_⟩, fun c => ⟨fun c2 => take ?_, fun c2 => keep ?_⟩⟩⟩⟩
      · unfold bxF; rw [if_pos c]; exact decide_eq_false (fun e => by
          rw [Int32.lt_iff_toInt_lt] at e
          rw [Int32.le_iff_toInt_le] at c2
          omega)
      · unfold bxF; rw [if_pos c]; exact decide_eq_true (by
          rw [Int32.lt_iff_toInt_lt]
          rw [Int32.le_iff_toInt_le] at c2
          omega)
      · unfold bxF; rw [if_neg c]; exact decide_eq_true c2
      · unfold bxF; rw [if_neg c]; exact decide_eq_false c2
theorem g46_45 (h : RCx PRG n 45 [.ref 46, .int (nI a)] σ (some (.int w)) σ1) (hL : lOK s r t) (hC : LC s r t σ) (hB : gB 46 49 50 C W m σ) (hV : isC s r C m) (hm : m ≤ 16) (ha : a + 4 ≤ m) : σ1 = σ ∧ w = nI (bsF r t C a 3) := by
  have hq := h.by (Q := fun v s' => s' = σ ∧ v = some (.int (nI (bsF r t C a 3)))) (fun n d => p_45_b46_0 σ (nI a) (by
    rw [nI_1]
    exact g46_45l hL hC hB hV hm ha n 0 (by decide)))
  obtain ⟨a, b⟩ := hq
  cases b
  exact ⟨a, rfl⟩
theorem g46_62 {ld : Int32} (h : RCx PRG n 62 [.ref 46] σ (some (.int w)) σ1) (hL : lOK s r t) (hC : LC s r t σ) (h7 : σ.1 46 7 = nI m) (hm : 1 ≤ m ∧ m ≤ 16) (hT : σ.1 46 6 = W (m - 1)) (hZ : m % 4 = 0 → σ.1 57 (m / 4 - 1) = W (bsF r t C (m - 4) 3)) : σ1 = σ ∧ w = tnF (s * r) r t ld C W m := by
  have hN := hL.2.2.2.2.1
  have hq := h.by (Q := fun v s' => s' = σ ∧ v = some (.int (tnF (s * r) r t ld C W m))) (fun n d => p_62_b46_0 σ (by
    rw [h7, hC.2.2.2.1, rem_4 (by omega), div_4 (by omega), hT]
    unfold tnF
    refine ⟨fun c => ?_, fun c => ?_⟩
    · have hlt := (nI_ltI (by omega) (by omega)).mp c
      rw [if_neg (by omega)]
      refine ⟨fun c2 _ => ?_, fun c2 => ?_⟩
      · have c3 : m % 4 = 0 := (nI_eq (b := 0) (by omega) (by decide)).mp c2
        rw [if_pos c3, if_neg (by omega), show nI (m / 4) - 1 = nI (m / 4 - 1) from nI_subI (a := m / 4) (b := 1) (by omega), nI_clamp (by omega), hZ c3]
        exact ⟨rfl, rfl⟩
      · have c3 : ¬ m % 4 = 0 := fun e => c2 (by rw [e]; rfl)
        rw [if_neg c3]
        exact ⟨rfl, rfl⟩
    · have hge : s * r ≤ m := by
        rcases Nat.lt_or_ge m (s * r) with g | g
        · exact absurd (nI_lt g (by omega)) c
        · exact g
      rw [if_pos hge]
      exact ⟨rfl, rfl⟩))
  obtain ⟨a, b⟩ := hq
  cases b
  exact ⟨a, rfl⟩
end G46
/-! game 46 -/
def gD46 (s r : Nat) (t : Int32) (D : Nat → Int32) (ld : Int32) (C W : Nat → Int32) (md m wk : Nat) (tv : Int32) (σ : Sg) : Prop := σ.1 46 2 = 1 ∧ σ.1 46 5 = ld ∧ σ.1 46 6 = tv ∧ σ.1 46 7 = nI m ∧ (∀ p, p < 4 → σ.1 47 p = D p) ∧ (∀ p, p < 4 → σ.1 48 p = hnF D C W p m) ∧ (∀ i, i < md → dat s r D C W i (σ.1 49 i) (σ.1 50 i) (σ.1 51 i) (σ.1 52 i) (σ.1 53 i) (σ.1 54 i)) ∧ (∀ k, k < wk → σ.1 57 k = W (bsF r t C (4 * k) 3))
def gC46 (s r : Nat) (t : Int32) (D : Nat → Int32) (ld : Int32) (C W : Nat → Int32) (m : Nat) (σ : Sg) : Prop := gD46 s r t D ld C W m m (m / 4) (tnF (s * r) r t ld C W m) σ
def gO46 (E : List Nat) : Bool := ([46, 47, 48, 49, 50, 51, 52, 53, 54, 57] : List Nat).all (fun q => !(E.contains q))
section H46
variable {s r m n md wk : Nat} {t x ld tv : Int32} {D C W : Nat → Int32} {σ σ1 : Sg} {w : Int32}
theorem gD46.fr {E : List Nat} (h : gD46 s r t D ld C W md m wk tv σ) (hf : exc E σ σ1) (hE : gO46 E = true) : gD46 s r t D ld C W md m wk tv σ1 := by
  have e : ∀ q, q ∈ ([46, 47, 48, 49, 50, 51, 52, 53, 54, 57] : List Nat) → ∀ j, σ1.1 q j = σ.1 q j := fun q hq => hf q (by revert q; decide) (by
    have := List.all_eq_true.mp hE q hq
    simpa using this)
  have e0 := e 46 (by decide)
  have e1 := e 47 (by decide)
  have e2 := e 48 (by decide)
  have e3 := e 49 (by decide)
  have e4 := e 50 (by decide)
  have e5 := e 51 (by decide)
  have e6 := e 52 (by decide)
  have e7 := e 53 (by decide)
  have e8 := e 54 (by decide)
  have e9 := e 57 (by decide)
  obtain ⟨h1, h2, h3, h4, h5, h6, h7, h8⟩ := h
  exact ⟨by rw [e0]; exact h1, by rw [e0]; exact h2, by rw [e0]; exact h3, by rw [e0]; exact h4, fun p hp => by rw [e1]; exact h5 p hp, fun p hp => by rw [e2]; exact h6 p hp, fun i hi => by rw [e3, e4, e5, e6, e7, e8]; exact h7 i hi, fun k hk => by rw [e9]; exact h8 k hk⟩
theorem gD46.b (h : gD46 s r t D ld C W md m wk tv σ) (hm : m ≤ md) : gB 46 49 50 C W m σ := ⟨h.2.2.2.1, fun i hi => ⟨(h.2.2.2.2.2.2.1 i (by omega)).1, (h.2.2.2.2.2.2.1 i (by omega)).2.1⟩⟩
def E46 : List Nat := [46, 47, 48, 49, 50, 51, 52, 53, 54, 55, 56, 57, 13, 14, 81, 82, 83, 84, 85, 86, 87, 88]
theorem g46_putE {T : Int32} {d : Nat} (hL : lOK s r t) (hC : LC s r t σ) (hV : isC s r C m) (hm : m ≤ s * r ∧ 1 ≤ m) (hT : T = W (m - 1)) (hD : gD46 s r t D ld C W m m (m / 4) T σ) : ∀ n, Pl PRG n d 63 262 [(0, .ref 46)] [] σ (fun _ s' => gC46 s r t D ld C W m s' ∧ exc E46 σ s') := by
  intro n
  have hN := hL.2.2.2.2.1
  refine Pl.pos (fun n1 h1 => p_63_b46_262 σ (fun w2 σ2 h2 => ?_))
  obtain ⟨rfl, rfl⟩ := g46_62 (C := C) (W := W) (ld := ld) h2 hL hC hD.2.2.2.1 (by omega) (hD.2.2.1.trans hT) (fun e => by
    rw [hD.2.2.2.2.2.2.2 _ (by omega), show 4 * (m / 4 - 1) = m - 4 by omega])
  refine ⟨?_, ((exc.refl σ2).put rfl).put rfl⟩
  obtain ⟨d1, d2, d3, d4, d5, d6, d7, d8⟩ := hD
  exact ⟨by rw [s1_off (by omega), s1_off (by omega)]; exact d1, by rw [s1_off (by omega), s1_off (by omega)]; exact d2, by rw [s1_off (by omega), s1_on], by rw [s1_off (by omega), s1_off (by omega)]; exact d4, fun p hp => by rw [s1_off (by omega), s1_off (by omega)]; exact d5 p hp, fun p hp => by rw [s1_off (by omega), s1_off (by omega)]; exact d6 p hp, fun i hi => by
    iterate 12 rw [s1_off (by omega)]
    exact d7 i hi, fun k hk => by rw [s1_off (by omega), s1_off (by omega)]; exact d8 k hk⟩
theorem gD46.lift {C' W' : Nat → Int32} (h : gD46 s r t D ld C W m m (m / 4) tv σ) (hC' : ∀ k, k < m → C k = C' k) (hW' : ∀ k, k < m → W k = W' k) : gD46 s r t D ld C' W' m m (m / 4) tv σ := by
  obtain ⟨h1, h2, h3, h4, h5, h6, h7, h8⟩ := h
  refine ⟨h1, h2, h3, h4, h5, fun p hp => by rw [← hnF_cg hC' hW']; exact h6 p hp, fun i hi => (h7 i hi).cg (fun k hk => hC' k (by omega)) (fun k hk => hW' k (by omega)), fun k hk => ?_⟩
  have hr := bsF_rg (r := r) (t := t) (C := C) (4 * k) 3
  rw [← bsF_cg 3 (fun i hi => hC' i (by omega)), ← hW' _ (by omega)]
  exact h8 k hk
theorem g46_putK {T : Int32} {d p : Nat} {B σ0 : Sg} (hL : lOK s r t) (hC : LC s r t B) (hV : isC s r C (m + 1)) (hm : m < s * r) (hT : W m = T ∧ T = nI p ∧ p < 4) (hx : C m = x) (hD : gD46 s r t D ld C W (m + 1) m (m / 4) T B) (hf : exc E46 σ0 B) : ∀ w8 σ7, RCx PRG n 39 [.ref 46, .int x] B (some (.int w8)) σ7 → inR (nI m) 16 = true → inR (σ7.1 46 6) 4 = true → ∀ σ9, RCx PRG n 11 [.ref 12, .int (σ7.1 48 (σ7.1 46 6).toNatClampNeg)] (s1 σ7 55 (nI m).toNatClampNeg w8) none σ9 → inR (σ9.1 46 7) 16 = true → ∀ w11 σ10, RCx PRG n 13 [.ref 12, .int (σ9.1 55 (σ9.1 46 7).toNatClampNeg)] σ9 (some (.int w11)) σ10 → inR (σ9.1 46 7) 16 = true → inR (σ10.1 46 6) 4 = true → inR (σ10.1 46 6) 4 = true → ((((σ10.1 46 7) + (1 : Int32)) - ((σ10.1 46 7) + (1 : Int32)) / (4 : Int32) * (4 : Int32)) = 0 → (∀ w13 σ12, RCx PRG n 45 [.ref 46, .int (((σ10.1 46 7) + (1 : Int32)) - (4 : Int32))] (s1 (s1 (s1 σ10 56 (σ9.1 46 7).toNatClampNeg w11) 48 (σ10.1 46 6).toNatClampNeg ((σ10.1 48 (σ10.1 46 6).toNatClampNeg) &&& (((1 : Int32) <<< (x &&& 31)) ^^^ (-1 : Int32)))) 46 7 ((σ10.1 46 7) + (1 : Int32))) (some (.int w13)) σ12 → (inR w13 16 = true → (inR ((((σ10.1 46 7) + (1 : Int32)) / (4 : Int32)) - (1 : Int32)) 4 = true → Pl PRG n d 63 262 [(0, .ref 46)] [] (s1 σ12 57 ((((σ10.1 46 7) + (1 : Int32)) / (4 : Int32)) - (1 : Int32)).toNatClampNeg (σ12.1 50 w13.toNatClampNeg)) (fun _ s' => gC46 s r t D ld C W (m + 1) s' ∧ exc E46 σ0 s'))))) ∧ (¬ (((σ10.1 46 7) + (1 : Int32)) - ((σ10.1 46 7) + (1 : Int32)) / (4 : Int32) * (4 : Int32)) = 0 → Pl PRG n d 63 262 [(0, .ref 46)] [] (s1 (s1 (s1 σ10 56 (σ9.1 46 7).toNatClampNeg w11) 48 (σ10.1 46 6).toNatClampNeg ((σ10.1 48 (σ10.1 46 6).toNatClampNeg) &&& (((1 : Int32) <<< (x &&& 31)) ^^^ (-1 : Int32)))) 46 7 ((σ10.1 46 7) + (1 : Int32))) (fun _ s' => gC46 s r t D ld C W (m + 1) s' ∧ exc E46 σ0 s')) := by
  intro w8 σ7 h39 _ _ σ9 h11 _ w11 σ10 h13 _ _ _
  have hN := hL.2.2.2.2.1
  have f1 : exc [13, 14, 55, 81, 82, 83, 84, 85, 86, 87, 88] B σ9 := ((frJ h39 rfl rfl).sub (subE_ok rfl)).trans (((exc.refl σ7).put rfl).trans ((frJ h11 rfl rfl).sub (subE_ok rfl)))
  have f2 : exc [13, 14, 55, 81, 82, 83, 84, 85, 86, 87, 88] B σ10 := f1.trans ((frJ h13 rfl rfl).sub (subE_ok rfl))
  have D9 := hD.fr f1 rfl
  have D10 := hD.fr f2 rfl
  have C10 := hC.fr f2 rfl rfl rfl
  obtain ⟨t1, t2, t3⟩ := hT
  have e9 := D9.2.2.2.1
  have e7 := D10.2.2.2.1
  have e6 : σ10.1 46 6 = nI p := D10.2.2.1.trans t2
  have ew := D10.2.2.2.2.2.1 p t3
  rw [e9, e7, e6, nI_clamp (n := p) (by omega), ew, nI_clamp (n := m) (by omega), nI_1, rem_4 (by omega), div_4 (by omega)]
  have DF : ∀ z, gD46 s r t D ld C W (m + 1) (m + 1) (m / 4) T (s1 (s1 (s1 σ10 56 m z) 48 p (hnF D C W p m &&& (((1 : Int32) <<< (x &&& 31)) ^^^ (-1 : Int32)))) 46 7 (nI (m + 1))) ∧ exc E46 σ0 (s1 (s1 (s1 σ10 56 m z) 48 p (hnF D C W p m &&& (((1 : Int32) <<< (x &&& 31)) ^^^ (-1 : Int32)))) 46 7 (nI (m + 1))) := by
    intro z
    refine ⟨?_, (((hf.trans (f2.sub (subE_ok rfl))).put rfl).put rfl).put rfl⟩
    obtain ⟨d1, d2, d3, d4, d5, d6, d7, d8⟩ := D10
    refine ⟨?_, ?_, ?_, s1_on, fun q hq => ?_, fun q hq => ?_, fun i hi => ?_, fun k hk => ?_⟩
    · rw [s1_off (by omega), s1_off (by omega), s1_off (by omega)]; exact d1
    · rw [s1_off (by omega), s1_off (by omega), s1_off (by omega)]; exact d2
    · rw [s1_off (by omega), s1_off (by omega), s1_off (by omega)]; exact d3
    · rw [s1_off (by omega), s1_off (by omega), s1_off (by omega)]; exact d5 q hq
    · by_cases e : q = p
      · subst e
        rw [s1_off (by omega), s1_on, hnF_on (by rw [t1, t2]), hx]
      · rw [s1_off (by omega), s1_off (by omega), s1_off (by omega), hnF_off (fun h => e ((nI_eq (by omega) (by omega)).mp (by rw [← h, t1, t2])))]
        exact d6 q hq
    · have h18 := d7 i hi
      iterate 18 rw [s1_off (by omega)]
      exact h18
    · rw [s1_off (by omega), s1_off (by omega), s1_off (by omega)]; exact d8 k hk
  have CF : ∀ z, LC s r t (s1 (s1 (s1 σ10 56 m z) 48 p (hnF D C W p m &&& (((1 : Int32) <<< (x &&& 31)) ^^^ (-1 : Int32)))) 46 7 (nI (m + 1))) := fun z => C10.fr (E := [56, 48, 46]) ((((exc.refl σ10).put rfl).put rfl).put rfl) rfl rfl rfl
  obtain ⟨DF1, DF2⟩ := DF w11
  have CF1 := CF w11
  generalize s1 (s1 (s1 σ10 56 m w11) 48 p (hnF D C W p m &&& (((1 : Int32) <<< (x &&& 31)) ^^^ (-1 : Int32)))) 46 7 (nI (m + 1)) = F at DF1 DF2 CF1 ⊢
  have t4 : T = W (m + 1 - 1) := t1.symm
  refine ⟨fun c w13 σ12 h45 _ _ => ?_, fun c => ?_⟩
  · have c4 : (m + 1) % 4 = 0 := (nI_eq (b := 0) (by omega) (by decide)).mp c
    rw [show nI (m + 1) - (4 : Int32) = nI (m + 1 - 4) by rw [nI_4, nI_subI (by omega)]] at h45
    obtain ⟨rfl, rfl⟩ := g46_45 h45 hL CF1 (DF1.b (Nat.le_refl _)) hV (by omega) (by omega)
    have hr := bsF_rg (r := r) (t := t) (C := C) (m + 1 - 4) 3
    rw [show nI ((m + 1) / 4) - 1 = nI ((m + 1) / 4 - 1) from nI_subI (a := (m + 1) / 4) (b := 1) (by omega), nI_clamp (by omega), nI_clamp (by omega), ((DF1.b (Nat.le_refl _)).2 _ (by omega)).2]
    refine Pl.mono (g46_putE hL (CF1.fr (E := [57]) ((exc.refl σ12).put rfl) rfl rfl rfl) hV (by omega) t4 ?_ n) (fun v s' hq => ⟨hq.1, (DF2.put rfl).trans hq.2⟩)
    obtain ⟨d1, d2, d3, d4, d5, d6, d7, d8⟩ := DF1
    refine ⟨?_, ?_, ?_, ?_, fun q hq => ?_, fun q hq => ?_, fun i hi => ?_, fun k hk => ?_⟩
    · rw [s1_off (by omega)]; exact d1
    · rw [s1_off (by omega)]; exact d2
    · rw [s1_off (by omega)]; exact d3
    · rw [s1_off (by omega)]; exact d4
    · rw [s1_off (by omega)]; exact d5 q hq
    · rw [s1_off (by omega)]; exact d6 q hq
    · have h6 := d7 i hi
      iterate 6 rw [s1_off (by omega)]
      exact h6
    · by_cases e : k = (m + 1) / 4 - 1
      · subst e
        rw [s1_on, show 4 * ((m + 1) / 4 - 1) = m + 1 - 4 by omega]
      · rw [s1_off (by omega)]; exact d8 k (by omega)
  · have c4 : ¬ (m + 1) % 4 = 0 := fun e => c (by rw [e]; rfl)
    refine Pl.mono (g46_putE hL CF1 hV (by omega) t4 ?_ n) (fun v s' hq => ⟨hq.1, DF2.trans hq.2⟩)
    rw [show (m + 1) / 4 = m / 4 by omega]
    exact DF1
theorem g46_SN {p c : Nat} {b : Int32} (hG : gC46 s r t D ld C W m σ) (hp : tnF (s * r) r t ld C W m = nI p) (hx : x = nI c) (hb : b = brF s r D (upF C m x) (upF W m (nI p)) m) : gD46 s r t D ld (upF C m x) (upF W m (nI p)) (m + 1) m (m / 4) (nI p) (s1 (s1 (s1 (s1 (s1 (s1 σ 49 m x) 50 m (nI p)) 52 m (ldG r C m)) 51 m (kdG r x (ldG r C m))) 53 m (bfF r C W (nI p) (suF r x) m)) 54 m b) := by
  have hC : ∀ k, k < m → C k = upF C m x k := fun k hk => (upF_off (by omega)).symm
  have hW : ∀ k, k < m → W k = upF W m (nI p) k := fun k hk => (upF_off (by omega)).symm
  have h0 := hG.lift hC hW
  obtain ⟨d1, d2, d3, d4, d5, d6, d7, d8⟩ := h0
  refine ⟨?_, ?_, ?_, ?_, fun q hq => ?_, fun q hq => ?_, fun i hi => ?_, fun k hk => ?_⟩
  · iterate 6 rw [s1_off (by omega)]
    exact d1
  · iterate 6 rw [s1_off (by omega)]
    exact d2
  · iterate 6 rw [s1_off (by omega)]
    exact d3.trans hp
  · iterate 6 rw [s1_off (by omega)]
    exact d4
  · iterate 6 rw [s1_off (by omega)]
    exact d5 q hq
  · iterate 6 rw [s1_off (by omega)]
    exact d6 q hq
  · by_cases e : i = m
    · subst e
      refine ⟨?_, ?_, ?_, ?_, ?_, ?_⟩
      · iterate 5 rw [s1_off (by omega)]
        rw [s1_on, upF_on]
      · iterate 4 rw [s1_off (by omega)]
        rw [s1_on, upF_on]
      · iterate 2 rw [s1_off (by omega)]
        rw [s1_on]
        unfold kdF
        rw [upF_on, ← ldG_cg hC]
      · iterate 3 rw [s1_off (by omega)]
        rw [s1_on, ← ldG_cg hC]
      · iterate 1 rw [s1_off (by omega)]
        rw [s1_on, upF_on, upF_on, ← bfF_cg i hC hW]
      · rw [s1_on, hb]
    · have h36 := d7 i (by omega)
      iterate 36 rw [s1_off (by omega)]
      exact h36
  · iterate 6 rw [s1_off (by omega)]
    exact d8 k hk
theorem g46_63 (h : RCx PRG n 63 [.ref 46, .int x] σ none σ1) (hL : lOK s r t) (hC : LC s r t σ) (hG : gC46 s r t D ld C W m σ) (hV : gV s r t D ld C W m) (hm : m < s * r) (hx : ∃ c, c < s * r ∧ x = nI c) : gC46 s r t D ld (upF C m x) (upF W m (tnF (s * r) r t ld C W m)) (m + 1) σ1 ∧ exc E46 σ σ1 := by
  obtain ⟨p, hp, ep⟩ := hV.turn hm
  obtain ⟨c, hc, ex⟩ := hx
  have hN := hL.2.2.2.2.1
  have hVC : isC s r C m := hV.2.2.1
  have hCu : ∀ k, k < m → C k = upF C m x k := fun k hk => (upF_off (by omega)).symm
  have hWu : ∀ k, k < m → W k = upF W m (nI p) k := fun k hk => (upF_off (by omega)).symm
  have hVu : isC s r (upF C m x) (m + 1) := fun i hi => by
    by_cases e : i = m
    · subst e; rw [upF_on]; exact ⟨c, hc, ex⟩
    · rw [upF_off e]; exact hVC i (by omega)
  have hB := gD46.b hG (Nat.le_refl _)
  rw [ep]
  refine h.by (Q := fun _ s' => gC46 s r t D ld (upF C m x) (upF W m (nI p)) (m + 1) s' ∧ exc E46 σ s') (fun n d => p_63_b46_0 σ x ?_)
  have e6 : σ.1 46 6 = nI p := hG.2.2.1.trans ep
  have e7 := hG.2.2.2.1
  rw [e6, e7]
  have e16 : (16 : Int32) = nI 16 := by decide
  refine ⟨fun c1 => absurd c1 (nI_pos (by omega)), fun _ => ⟨fun c1 => absurd ((nI_leI (a := 16) (b := m) (by decide) (by omega)).mp (by rw [← e16]; exact c1)) (by omega), fun _ => ⟨fun c1 => absurd c1 (by rw [ex]; exact nI_pos (by omega)), fun _ => ⟨fun _ w2 σ2 h34 => ?_, fun c1 => absurd (by rw [ex, e16]; exact nI_lt (by omega) (by decide)) c1⟩⟩⟩⟩
  obtain ⟨hs2, rfl⟩ := g46_34 h34 hL hC hB hVC (by omega)
  rw [hs2, e6, e7, nI_clamp (n := m) (by omega)]
  intro _ _ _ w4 σ4 h37
  have C1 : LC s r t (s1 (s1 (s1 σ 49 m x) 50 m (nI p)) 52 m (ldG r C m)) := hC.fr (E := [49, 50, 52]) ((((exc.refl σ).put rfl).put rfl).put rfl) rfl rfl rfl
  obtain ⟨hs4, rfl⟩ := g46_37 h37 hL C1 ⟨c, hc, ex⟩
  intro _ w6 σ6 h36
  have C2 : LC s r t (s1 σ4 51 m (kdG r x (ldG r C m))) := by
    rw [hs4]; exact C1.fr (E := [51]) ((exc.refl _).put rfl) rfl rfl rfl
  have B2 : gB 46 49 50 C W m (s1 σ4 51 m (kdG r x (ldG r C m))) := by
    rw [hs4]
    refine ⟨?_, fun i hi => ⟨?_, ?_⟩⟩
    · iterate 4 rw [s1_off (by omega)]
      exact e7
    · iterate 4 rw [s1_off (by omega)]
      exact (hB.2 i hi).1
    · iterate 4 rw [s1_off (by omega)]
      exact (hB.2 i hi).2
  have T2 : (s1 σ4 51 m (kdG r x (ldG r C m))).1 46 6 = nI p := by
    rw [hs4]
    iterate 4 rw [s1_off (by omega)]
    exact e6
  obtain ⟨hs6, rfl⟩ := g46_36 h36 hL C2 B2 hVC (by omega) ⟨c, hc, ex⟩ T2
  have e47 : σ4.1 46 7 = nI m := by
    rw [hs4]
    iterate 3 rw [s1_off (by omega)]
    exact e7
  have e67 : σ6.1 46 7 = nI m := by
    rw [hs6, s1_off (by omega)]; exact e47
  have e66 : σ6.1 46 6 = nI p := by
    rw [hs6]; exact T2
  have ek : σ6.1 51 m = kdG r x (ldG r C m) := by rw [hs6, s1_on]
  have C6 : LC s r t σ6 := by rw [hs6]; exact C2
  have ew : σ6.1 48 p = hnF D C W p m := by
    rw [hs6, hs4]
    iterate 4 rw [s1_off (by omega)]
    exact hG.2.2.2.2.2.1 p hp
  have k1 : kdF r (upF C m x) m = kdG r x (ldG r C m) := by
    unfold kdF
    rw [upF_on, ← ldG_cg hCu]
  have k2 : hnF D (upF C m x) (upF W m (nI p)) (upF W m (nI p) m).toNatClampNeg m &&& scF s r (ldG r (upF C m x) m) = hnF D C W p m &&& scF s r (ldG r C m) := by
    rw [upF_on, nI_clamp (by omega), ← hnF_cg hCu hWu, ← ldG_cg hCu]
  have fin : ∀ b : Int32, b = brF s r D (upF C m x) (upF W m (nI p)) m → gD46 s r t D ld (upF C m x) (upF W m (nI p)) (m + 1) m (m / 4) (nI p) (s1 (s1 σ6 53 m (bfF r C W (nI p) (suF r x) m)) 54 m b) ∧ LC s r t (s1 (s1 σ6 53 m (bfF r C W (nI p) (suF r x) m)) 54 m b) ∧ exc E46 σ (s1 (s1 σ6 53 m (bfF r C W (nI p) (suF r x) m)) 54 m b) := by
    intro b hb
    refine ⟨?_, C6.fr (E := [53, 54]) (((exc.refl σ6).put rfl).put rfl) rfl rfl rfl, ?_⟩
    · rw [hs6, hs4]
      exact g46_SN hG ep ex hb
    · rw [hs6, hs4]
      exact ((((((exc.refl σ).put rfl).put rfl).put rfl).put rfl).put rfl).put rfl
  rw [e47, e67, e66, nI_clamp (n := m) (by omega), nI_clamp (n := p) (by omega), ek, ew]
  have hT : upF W m (nI p) m = nI p ∧ nI p = nI p ∧ p < 4 := ⟨upF_on, rfl, hp⟩
  intro _ _
  refine ⟨fun c2 _ _ => ?_, fun c2 => ?_⟩
  · obtain ⟨u, hu, eu⟩ := kd_2 hL hVC c2
    have es : σ6.1 9 (ldG r C m).toNatClampNeg = scF s r (ldG r C m) := by
      rw [eu, nI_clamp (by have := hL.2.1; omega)]
      exact C6.2.2.2.2.2.1 u (by have := hL.2.1; omega)
    rw [es]
    refine ⟨fun c3 _ => ?_, fun c3 _ => ?_⟩
    · obtain ⟨q1, q2, q3⟩ := fin 0 (by unfold brF; rw [k1, k2, if_neg (fun h => h.2 c3)])
      have := g46_putK (n := n) (d := d) hL q2 hVu hm hT upF_on q1 q3
      rw [nI_clamp (n := m) (by omega)] at this
      exact this
    · obtain ⟨q1, q2, q3⟩ := fin 1 (by unfold brF; rw [k1, k2, if_pos ⟨c2, c3⟩])
      have := g46_putK (n := n) (d := d) hL q2 hVu hm hT upF_on q1 q3
      rw [nI_clamp (n := m) (by omega)] at this
      exact this
  · intro _
    obtain ⟨q1, q2, q3⟩ := fin 0 (by unfold brF; rw [k1, if_neg (fun h => c2 h.1)])
    have := g46_putK (n := n) (d := d) hL q2 hVu hm hT upF_on q1 q3
    rw [nI_clamp (n := m) (by omega)] at this
    exact this
end H46
section I46
variable {s r m n : Nat} {t x ld : Int32} {D C W : Nat → Int32} {σ σ1 : Sg} {w : Int32}
def gN46 (σ : Sg) : Prop := σ.1 46 2 = 0 ∧ σ.1 46 6 = -2 ∧ σ.1 46 7 = 0
theorem g46_66 (h : RCx PRG n 66 [.ref 46] σ none σ1) : gN46 σ1 ∧ exc [46] σ σ1 := by
  refine h.by (Q := fun _ s' => gN46 s' ∧ exc [46] σ s') (fun n d => p_66_b46_0 σ ⟨⟨?_, ?_, ?_⟩, ((((exc.refl σ).put rfl).put rfl).put rfl).put rfl⟩)
  · rw [s1_off (by omega), s1_off (by omega), s1_off (by omega), s1_on]
  · rw [s1_off (by omega), s1_on]
  · rw [s1_off (by omega), s1_off (by omega), s1_on]
theorem g46_31 (h : RCx PRG n 31 [.ref 46, .int x] σ none σ1) : σ1 = s1 (s1 (s1 σ 46 5 x) 46 6 x) 46 17 ((σ.1 46 17) + (1 : Int32)) :=
  h.by (Q := fun _ s' => s' = s1 (s1 (s1 σ 46 5 x) 46 6 x) 46 17 ((σ.1 46 17) + (1 : Int32))) (fun n d => p_31_b46_0 σ x rfl)
theorem g46_led (hL : lOK s r t) (hG : gC46 s r t D ld C W 0 σ) {y : Int32} : gC46 s r t D x C W 0 (s1 (s1 (s1 σ 46 5 x) 46 6 x) 46 17 y) ∧ exc E46 σ (s1 (s1 (s1 σ 46 5 x) 46 6 x) 46 17 y) := by
  refine ⟨?_, (((exc.refl σ).put rfl).put rfl).put rfl⟩
  obtain ⟨d1, d2, d3, d4, d5, d6, d7, d8⟩ := hG
  refine ⟨?_, ?_, ?_, ?_, fun q hq => ?_, fun q hq => ?_, fun i hi => absurd hi (Nat.not_lt_zero _), fun k hk => absurd hk (Nat.not_lt_zero _)⟩
  · rw [s1_off (by omega), s1_off (by omega), s1_off (by omega)]; exact d1
  · rw [s1_off (by omega), s1_off (by omega), s1_on]
  · rw [s1_off (by omega), s1_on, tnF_0 hL]
  · rw [s1_off (by omega), s1_off (by omega), s1_off (by omega)]; exact d4
  · rw [s1_off (by omega), s1_off (by omega), s1_off (by omega)]; exact d5 q hq
  · rw [s1_off (by omega), s1_off (by omega), s1_off (by omega)]; exact d6 q hq
theorem g46_32 {x1 x2 x3 x4 : Int32} (h : RCx PRG n 32 [.ref 46, .int x1, .int x2, .int x3, .int x4] σ none σ1) (hL : lOK s r t) (C W : Nat → Int32) : gC46 s r t (d4 x1 x2 x3 x4) 0 C W 0 σ1 ∧ exc E46 σ σ1 := by
  have loop : ∀ d n j (σ' : Sg), j ≤ 4 → (∀ p, p < 4 → σ'.1 47 p = d4 x1 x2 x3 x4 p) → (∀ p, p < j → σ'.1 48 p = d4 x1 x2 x3 x4 p) → exc E46 σ σ' → Pl PRG n d 32 32 [(0, .ref 46), (5, .int (nI j))] [] σ' (fun _ s' => gC46 s r t (d4 x1 x2 x3 x4) 0 C W 0 s' ∧ exc E46 σ s') := by
    intro d n
    induction n using Nat.strongRecOn with
    | _ n ih =>
      intro j σ' hj hd hw hf
      refine Pl.pos (fun n1 h1 => p_32_b46_32 σ' (nI j) ?_)
      refine ⟨fun c σ2 h2 => ?_, fun c _ _ => ?_⟩
      · have hj4 : j = 4 := by
          have := (nI_leI (a := 4) (b := j) (by decide) (by omega)).mp c
          omega
        subst hj4
        have e := g46_31 h2
        subst e
        refine ⟨⟨?_, ?_, ?_, ?_, fun q hq => ?_, fun q hq => ?_, fun i hi => absurd hi (Nat.not_lt_zero _), fun k hk => absurd hk (Nat.not_lt_zero _)⟩, ((((hf.put rfl).put rfl).put rfl).put rfl).put rfl⟩
        · iterate 4 rw [s1_off (by omega)]
          rw [s1_on]
        · iterate 2 rw [s1_off (by omega)]
          rw [s1_on]
        · rw [s1_off (by omega), s1_on, tnF_0 hL]
        · iterate 3 rw [s1_off (by omega)]
          rw [s1_on]; rfl
        · iterate 5 rw [s1_off (by omega)]
          exact hd q hq
        · iterate 5 rw [s1_off (by omega)]
          rw [hnF_0]
          exact hw q hq
      · have hlt : j < 4 := nle_of (a := 4) (b := j) (by decide) (by omega) c
        rw [nI_1, nI_clamp (by omega)]
        refine ih n1 (by omega) (j + 1) _ (by omega) (fun p hp => by rw [s1_off (by omega)]; exact hd p hp) (fun p hp => ?_) (hf.put rfl)
        by_cases e : p = j
        · subst e; rw [s1_on]; exact hd p (by omega)
        · rw [s1_off (by omega)]; exact hw p (by omega)
  refine h.by (Q := fun _ s' => gC46 s r t (d4 x1 x2 x3 x4) 0 C W 0 s' ∧ exc E46 σ s') (fun n d => p_32_b46_0 σ x1 x2 x3 x4 ?_)
  refine loop d n 0 _ (by decide) (fun p hp => ?_) (fun p hp => absurd hp (Nat.not_lt_zero _)) (((((exc.refl σ).put rfl).put rfl).put rfl).put rfl)
  rcases (show p = 0 ∨ p = 1 ∨ p = 2 ∨ p = 3 by omega) with rfl | rfl | rfl | rfl
  · iterate 3 rw [s1_off (by omega)]
    rw [s1_on]; rfl
  · iterate 2 rw [s1_off (by omega)]
    rw [s1_on]; rfl
  · rw [s1_off (by omega), s1_on]; rfl
  · rw [s1_on]; rfl
theorem gC46.eqD {D' : Nat → Int32} (h : gC46 s r t D ld C W m σ) (hD : ∀ p, p < 4 → D p = D' p) (hW : ∀ i, i < m → ∃ w, w < 4 ∧ W i = nI w) : gC46 s r t D' ld C W m σ := by
  obtain ⟨h1, h2, h3, h4, h5, h6, h7, h8⟩ := h
  refine ⟨h1, h2, h3, h4, fun p hp => by rw [← hD p hp]; exact h5 p hp, fun p hp => by unfold hnF; rw [← hD p hp]; exact h6 p hp, fun i hi => ?_, h8⟩
  obtain ⟨q1, q2, q3, q4, q5, q6⟩ := h7 i hi
  refine ⟨q1, q2, q3, q4, q5, ?_⟩
  obtain ⟨w, hw, ew⟩ := hW i hi
  have e : brF s r D C W i = brF s r D' C W i := by
    unfold brF hnF
    rw [ew, nI_clamp (by omega), hD w hw]
  rw [← e]; exact q6
end I46
section G58
variable {s r m n a : Nat} {t x : Int32} {C W : Nat → Int32} {σ σ1 : Sg} {w : Int32}
theorem g58_34 (h : RCx PRG n 34 [.ref 58] σ (some (.int w)) σ1) (hL : lOK s r t) (hC : LC s r t σ) (hB : gB 58 61 62 C W m σ) (hV : isC s r C m) (hm : m ≤ 16) : σ1 = σ ∧ w = ldG r C m := by
  have hq := h.by (Q := fun v s' => s' = σ ∧ v = some (.int (ldG r C m))) (fun n d => p_34_b58_0 σ (by
    rw [hB.1, rem_4 (by omega), nI_subI (Nat.mod_le m 4)]
    refine ⟨fun c => ?_, fun c _ => ?_⟩
    · have := (nI_leI (by omega) (by omega)).mp c
      unfold ldG
      rw [if_pos (by omega)]
      exact ⟨rfl, rfl⟩
    · have hlt := nle_of (by omega) (by omega) c
      rw [nI_clamp (by omega), (hB.2 _ hlt).1]
      obtain ⟨cc, hcc, e⟩ := hV _ hlt
      intro _
      rw [hC.su hL e hcc]
      unfold ldG
      rw [if_neg (by omega)]
      exact ⟨rfl, rfl⟩))
  obtain ⟨a, b⟩ := hq
  cases b
  exact ⟨a, rfl⟩
theorem g58_37 {u : Int32} (h : RCx PRG n 37 [.ref 58, .int x, .int u] σ (some (.int w)) σ1) (hL : lOK s r t) (hC : LC s r t σ) (hx : ∃ c, c < s * r ∧ x = nI c) : σ1 = σ ∧ w = kdG r x u := by
  obtain ⟨c, hc, e⟩ := hx
  have hq := h.by (Q := fun v s' => s' = σ ∧ v = some (.int (kdG r x u))) (fun n d => p_37_b58_0 σ x u (by
    rw [hC.su hL e hc]
    unfold kdG
    refine ⟨fun c1 _ => ⟨fun c2 => ?_, fun c2 => ?_⟩, fun c1 => ?_⟩
    · rw [if_pos c1, if_pos c2]; exact ⟨rfl, rfl⟩
    · rw [if_pos c1, if_neg c2]; exact ⟨rfl, rfl⟩
    · rw [if_neg c1]; exact ⟨rfl, rfl⟩))
  obtain ⟨a, b⟩ := hq
  cases b
  exact ⟨a, rfl⟩
theorem g58_36l {d : Nat} {T : Int32} (hL : lOK s r t) (hC : LC s r t σ) (hB : gB 58 61 62 C W m σ) (hV : isC s r C m) (hm : m ≤ 16) (hx : ∃ c, c < s * r ∧ x = nI c) (hT : σ.1 58 6 = T) : ∀ n j, j ≤ m → Pl PRG n d 36 7 [(0, .ref 58), (1, .int x), (2, .int (nI j - 1))] [] σ (fun v s' => s' = σ ∧ v = some (.int (bfF r C W T (suF r x) j))) := by
  intro n
  induction n using Nat.strongRecOn with
  | _ n ih =>
    intro j hj
    refine Pl.pos (fun n1 h1 => p_36_b58_7 σ x (nI j - 1) ?_)
    cases j with
    | zero => exact ⟨fun _ => ⟨rfl, rfl⟩, fun c => absurd (by decide) c⟩
    | succ j =>
      rw [nI_pred, nI_clamp (by omega), (hB.2 j (by omega)).1, (hB.2 j (by omega)).2, hT]
      obtain ⟨c, hc, e⟩ := hx
      obtain ⟨cc, hcc, e2⟩ := hV j (by omega)
      have go : ¬ (W j = T ∧ suF r (C j) = suF r x) → Pl PRG n1 d 36 64 [(0, .ref 58), (1, .int x), (2, .int (nI j))] [] σ (fun v s' => s' = σ ∧ v = some (.int (bfF r C W T (suF r x) (j + 1)))) := fun hn => Pl.pos (fun n2 h2 => p_36_b58_64 σ x (nI j) (by
        rw [sub1, show bfF r C W T (suF r x) (j + 1) = bfF r C W T (suF r x) j from if_neg hn]
        exact ih n2 (by omega) j (by omega)))
      refine ⟨fun c => absurd c (nI_pos (by omega)), fun _ _ => ⟨fun c1 _ _ _ => ?_, fun c1 => go (fun h => c1 h.1)⟩⟩
      rw [hC.su hL e hc, hC.su hL e2 hcc]
      refine ⟨fun c2 _ w2 σ2 h2 => ?_, fun c2 => go (fun h => c2 h.2)⟩
      obtain ⟨rfl, rfl⟩ := rc9 h2 hL hC ⟨cc, hcc, e2⟩
      exact ⟨rfl, by rw [show bfF r C W T (suF r x) (j + 1) = rkG r (C j) from if_pos ⟨c1, c2⟩]⟩
theorem g58_36 {T : Int32} (h : RCx PRG n 36 [.ref 58, .int x] σ (some (.int w)) σ1) (hL : lOK s r t) (hC : LC s r t σ) (hB : gB 58 61 62 C W m σ) (hV : isC s r C m) (hm : m ≤ 16) (hx : ∃ c, c < s * r ∧ x = nI c) (hT : σ.1 58 6 = T) : σ1 = σ ∧ w = bfF r C W T (suF r x) m := by
  have hq := h.by (Q := fun v s' => s' = σ ∧ v = some (.int (bfF r C W T (suF r x) m))) (fun n d => p_36_b58_0 σ x (by
    rw [hB.1]
    exact g58_36l hL hC hB hV hm hx hT n m (Nat.le_refl _)))
  obtain ⟨a, b⟩ := hq
  cases b
  exact ⟨a, rfl⟩
theorem g58_45l {d : Nat} (hL : lOK s r t) (hC : LC s r t σ) (hB : gB 58 61 62 C W m σ) (hV : isC s r C m) (hm : m ≤ 16) (ha : a + 4 ≤ m) : ∀ n j, j ≤ 3 → Pl PRG n d 45 6 [(0, .ref 58), (1, .int (nI a)), (2, .int (nI (bsF r t C a j))), (3, .int (nI (a + j + 1)))] [] σ (fun v s' => s' = σ ∧ v = some (.int (nI (bsF r t C a 3)))) := by
  intro n
  induction n using Nat.strongRecOn with
  | _ n ih =>
    intro j hj
    refine Pl.pos (fun n1 h1 => p_45_b58_6 σ (nI a) _ _ ?_)
    have hr := bsF_rg (r := r) (t := t) (C := C) a j
    rw [hB.1, show nI a + (4 : Int32) = nI (a + 4) by rw [nI_4, nI_add]]
    by_cases e : j = 3
    · subst e
      refine ⟨fun c => ?_, fun c => ⟨fun _ => Pl.pos (fun n2 h2 => p_45_b58_106 σ _ ⟨rfl, rfl⟩), fun c2 => absurd ((nI_leI (by omega) (by omega)).mpr (by omega)) c2⟩⟩
      exact Pl.pos (fun n2 h2 => p_45_b58_106 σ _ ⟨rfl, rfl⟩)
    · have h6 : a + j + 1 < m := by omega
      obtain ⟨c1, hc1, e1⟩ := hV (a + j + 1) (by omega)
      obtain ⟨c2, hc2, e2⟩ := hV (bsF r t C a j) (by omega)
      rw [nI_clamp (by omega), nI_clamp (by omega), (hB.2 _ h6).1, (hB.2 _ (show bsF r t C a j < m by omega)).1, hC.su hL e1 hc1, hC.su hL e2 hc2, hC.2.2.1]
      have keep : bxF r t (C (a + j + 1)) (C (bsF r t C a j)) = false → Pl PRG n1 d 45 100 [(0, .ref 58), (1, .int (nI a)), (2, .int (nI (bsF r t C a j))), (3, .int (nI (a + j + 1)))] [] σ (fun v s' => s' = σ ∧ v = some (.int (nI (bsF r t C a 3)))) := fun hb => Pl.pos (fun n2 h2 => p_45_b58_100 σ _ _ _ (by
        rw [nI_1]
        have := ih n2 (by omega) (j + 1) (by omega)
        rw [show bsF r t C a (j + 1) = bsF r t C a j by (show (if _ then _ else _) = _); rw [hb]; rfl] at this
        exact this))
      have take : bxF r t (C (a + j + 1)) (C (bsF r t C a j)) = true → Pl PRG n1 d 45 98 [(0, .ref 58), (1, .int (nI a)), (3, .int (nI (a + j + 1)))] [] σ (fun v s' => s' = σ ∧ v = some (.int (nI (bsF r t C a 3)))) := fun hb => Pl.pos (fun n2 h2 => p_45_b58_98 σ _ _ (Pl.pos (fun n3 h3 => p_45_b58_100 σ _ _ _ (by
        rw [nI_1]
        have := ih n3 (by omega) (j + 1) (by omega)
        rw [show bsF r t C a (j + 1) = a + j + 1 by (show (if _ then _ else _) = _); rw [hb]; rfl] at this
        exact this))))
      refine ⟨fun c => absurd ((nI_leI (by omega) (by omega)).mp c) (by omega), fun _ => ⟨fun c => absurd ((nI_leI (by omega) (by omega)).mp c) (by omega), fun _ _ _ _ _ => ⟨fun c _ _ => ⟨fun c2 => keep ?_, fun c2 => take ?_⟩, fun c => ⟨fun c2 => take ?_, fun c2 => keep ?_⟩⟩⟩⟩
      · unfold bxF; rw [if_pos c]; exact decide_eq_false (fun e => by
          rw [Int32.lt_iff_toInt_lt] at e
          rw [Int32.le_iff_toInt_le] at c2
          omega)
      · unfold bxF; rw [if_pos c]; exact decide_eq_true (by
          rw [Int32.lt_iff_toInt_lt]
          rw [Int32.le_iff_toInt_le] at c2
          omega)
      · unfold bxF; rw [if_neg c]; exact decide_eq_true c2
      · unfold bxF; rw [if_neg c]; exact decide_eq_false c2
theorem g58_45 (h : RCx PRG n 45 [.ref 58, .int (nI a)] σ (some (.int w)) σ1) (hL : lOK s r t) (hC : LC s r t σ) (hB : gB 58 61 62 C W m σ) (hV : isC s r C m) (hm : m ≤ 16) (ha : a + 4 ≤ m) : σ1 = σ ∧ w = nI (bsF r t C a 3) := by
  have hq := h.by (Q := fun v s' => s' = σ ∧ v = some (.int (nI (bsF r t C a 3)))) (fun n d => p_45_b58_0 σ (nI a) (by
    rw [nI_1]
    exact g58_45l hL hC hB hV hm ha n 0 (by decide)))
  obtain ⟨a, b⟩ := hq
  cases b
  exact ⟨a, rfl⟩
theorem g58_62 {ld : Int32} (h : RCx PRG n 62 [.ref 58] σ (some (.int w)) σ1) (hL : lOK s r t) (hC : LC s r t σ) (h7 : σ.1 58 7 = nI m) (hm : 1 ≤ m ∧ m ≤ 16) (hT : σ.1 58 6 = W (m - 1)) (hZ : m % 4 = 0 → σ.1 69 (m / 4 - 1) = W (bsF r t C (m - 4) 3)) : σ1 = σ ∧ w = tnF (s * r) r t ld C W m := by
  have hN := hL.2.2.2.2.1
  have hq := h.by (Q := fun v s' => s' = σ ∧ v = some (.int (tnF (s * r) r t ld C W m))) (fun n d => p_62_b58_0 σ (by
    rw [h7, hC.2.2.2.1, rem_4 (by omega), div_4 (by omega), hT]
    unfold tnF
    refine ⟨fun c => ?_, fun c => ?_⟩
    · have hlt := (nI_ltI (by omega) (by omega)).mp c
      rw [if_neg (by omega)]
      refine ⟨fun c2 _ => ?_, fun c2 => ?_⟩
      · have c3 : m % 4 = 0 := (nI_eq (b := 0) (by omega) (by decide)).mp c2
        rw [if_pos c3, if_neg (by omega), show nI (m / 4) - 1 = nI (m / 4 - 1) from nI_subI (a := m / 4) (b := 1) (by omega), nI_clamp (by omega), hZ c3]
        exact ⟨rfl, rfl⟩
      · have c3 : ¬ m % 4 = 0 := fun e => c2 (by rw [e]; rfl)
        rw [if_neg c3]
        exact ⟨rfl, rfl⟩
    · have hge : s * r ≤ m := by
        rcases Nat.lt_or_ge m (s * r) with g | g
        · exact absurd (nI_lt g (by omega)) c
        · exact g
      rw [if_pos hge]
      exact ⟨rfl, rfl⟩))
  obtain ⟨a, b⟩ := hq
  cases b
  exact ⟨a, rfl⟩
end G58
/-! game 58 -/
def gD58 (s r : Nat) (t : Int32) (D : Nat → Int32) (ld : Int32) (C W : Nat → Int32) (md m wk : Nat) (tv : Int32) (σ : Sg) : Prop := σ.1 58 2 = 1 ∧ σ.1 58 5 = ld ∧ σ.1 58 6 = tv ∧ σ.1 58 7 = nI m ∧ (∀ p, p < 4 → σ.1 59 p = D p) ∧ (∀ p, p < 4 → σ.1 60 p = hnF D C W p m) ∧ (∀ i, i < md → dat s r D C W i (σ.1 61 i) (σ.1 62 i) (σ.1 63 i) (σ.1 64 i) (σ.1 65 i) (σ.1 66 i)) ∧ (∀ k, k < wk → σ.1 69 k = W (bsF r t C (4 * k) 3))
def gC58 (s r : Nat) (t : Int32) (D : Nat → Int32) (ld : Int32) (C W : Nat → Int32) (m : Nat) (σ : Sg) : Prop := gD58 s r t D ld C W m m (m / 4) (tnF (s * r) r t ld C W m) σ
def gO58 (E : List Nat) : Bool := ([58, 59, 60, 61, 62, 63, 64, 65, 66, 69] : List Nat).all (fun q => !(E.contains q))
section H58
variable {s r m n md wk : Nat} {t x ld tv : Int32} {D C W : Nat → Int32} {σ σ1 : Sg} {w : Int32}
theorem gD58.fr {E : List Nat} (h : gD58 s r t D ld C W md m wk tv σ) (hf : exc E σ σ1) (hE : gO58 E = true) : gD58 s r t D ld C W md m wk tv σ1 := by
  have e : ∀ q, q ∈ ([58, 59, 60, 61, 62, 63, 64, 65, 66, 69] : List Nat) → ∀ j, σ1.1 q j = σ.1 q j := fun q hq => hf q (by revert q; decide) (by
    have := List.all_eq_true.mp hE q hq
    simpa using this)
  have e0 := e 58 (by decide)
  have e1 := e 59 (by decide)
  have e2 := e 60 (by decide)
  have e3 := e 61 (by decide)
  have e4 := e 62 (by decide)
  have e5 := e 63 (by decide)
  have e6 := e 64 (by decide)
  have e7 := e 65 (by decide)
  have e8 := e 66 (by decide)
  have e9 := e 69 (by decide)
  obtain ⟨h1, h2, h3, h4, h5, h6, h7, h8⟩ := h
  exact ⟨by rw [e0]; exact h1, by rw [e0]; exact h2, by rw [e0]; exact h3, by rw [e0]; exact h4, fun p hp => by rw [e1]; exact h5 p hp, fun p hp => by rw [e2]; exact h6 p hp, fun i hi => by rw [e3, e4, e5, e6, e7, e8]; exact h7 i hi, fun k hk => by rw [e9]; exact h8 k hk⟩
theorem gD58.b (h : gD58 s r t D ld C W md m wk tv σ) (hm : m ≤ md) : gB 58 61 62 C W m σ := ⟨h.2.2.2.1, fun i hi => ⟨(h.2.2.2.2.2.2.1 i (by omega)).1, (h.2.2.2.2.2.2.1 i (by omega)).2.1⟩⟩
def E58 : List Nat := [58, 59, 60, 61, 62, 63, 64, 65, 66, 67, 68, 69, 13, 14, 81, 82, 83, 84, 85, 86, 87, 88]
theorem g58_putE {T : Int32} {d : Nat} (hL : lOK s r t) (hC : LC s r t σ) (hV : isC s r C m) (hm : m ≤ s * r ∧ 1 ≤ m) (hT : T = W (m - 1)) (hD : gD58 s r t D ld C W m m (m / 4) T σ) : ∀ n, Pl PRG n d 63 262 [(0, .ref 58)] [] σ (fun _ s' => gC58 s r t D ld C W m s' ∧ exc E58 σ s') := by
  intro n
  have hN := hL.2.2.2.2.1
  refine Pl.pos (fun n1 h1 => p_63_b58_262 σ (fun w2 σ2 h2 => ?_))
  obtain ⟨rfl, rfl⟩ := g58_62 (C := C) (W := W) (ld := ld) h2 hL hC hD.2.2.2.1 (by omega) (hD.2.2.1.trans hT) (fun e => by
    rw [hD.2.2.2.2.2.2.2 _ (by omega), show 4 * (m / 4 - 1) = m - 4 by omega])
  refine ⟨?_, ((exc.refl σ2).put rfl).put rfl⟩
  obtain ⟨d1, d2, d3, d4, d5, d6, d7, d8⟩ := hD
  exact ⟨by rw [s1_off (by omega), s1_off (by omega)]; exact d1, by rw [s1_off (by omega), s1_off (by omega)]; exact d2, by rw [s1_off (by omega), s1_on], by rw [s1_off (by omega), s1_off (by omega)]; exact d4, fun p hp => by rw [s1_off (by omega), s1_off (by omega)]; exact d5 p hp, fun p hp => by rw [s1_off (by omega), s1_off (by omega)]; exact d6 p hp, fun i hi => by
    iterate 12 rw [s1_off (by omega)]
    exact d7 i hi, fun k hk => by rw [s1_off (by omega), s1_off (by omega)]; exact d8 k hk⟩
theorem gD58.lift {C' W' : Nat → Int32} (h : gD58 s r t D ld C W m m (m / 4) tv σ) (hC' : ∀ k, k < m → C k = C' k) (hW' : ∀ k, k < m → W k = W' k) : gD58 s r t D ld C' W' m m (m / 4) tv σ := by
  obtain ⟨h1, h2, h3, h4, h5, h6, h7, h8⟩ := h
  refine ⟨h1, h2, h3, h4, h5, fun p hp => by rw [← hnF_cg hC' hW']; exact h6 p hp, fun i hi => (h7 i hi).cg (fun k hk => hC' k (by omega)) (fun k hk => hW' k (by omega)), fun k hk => ?_⟩
  have hr := bsF_rg (r := r) (t := t) (C := C) (4 * k) 3
  rw [← bsF_cg 3 (fun i hi => hC' i (by omega)), ← hW' _ (by omega)]
  exact h8 k hk
theorem g58_putK {T : Int32} {d p : Nat} {B σ0 : Sg} (hL : lOK s r t) (hC : LC s r t B) (hV : isC s r C (m + 1)) (hm : m < s * r) (hT : W m = T ∧ T = nI p ∧ p < 4) (hx : C m = x) (hD : gD58 s r t D ld C W (m + 1) m (m / 4) T B) (hf : exc E58 σ0 B) : ∀ w8 σ7, RCx PRG n 39 [.ref 58, .int x] B (some (.int w8)) σ7 → inR (nI m) 16 = true → inR (σ7.1 58 6) 4 = true → ∀ σ9, RCx PRG n 11 [.ref 12, .int (σ7.1 60 (σ7.1 58 6).toNatClampNeg)] (s1 σ7 67 (nI m).toNatClampNeg w8) none σ9 → inR (σ9.1 58 7) 16 = true → ∀ w11 σ10, RCx PRG n 13 [.ref 12, .int (σ9.1 67 (σ9.1 58 7).toNatClampNeg)] σ9 (some (.int w11)) σ10 → inR (σ9.1 58 7) 16 = true → inR (σ10.1 58 6) 4 = true → inR (σ10.1 58 6) 4 = true → ((((σ10.1 58 7) + (1 : Int32)) - ((σ10.1 58 7) + (1 : Int32)) / (4 : Int32) * (4 : Int32)) = 0 → (∀ w13 σ12, RCx PRG n 45 [.ref 58, .int (((σ10.1 58 7) + (1 : Int32)) - (4 : Int32))] (s1 (s1 (s1 σ10 68 (σ9.1 58 7).toNatClampNeg w11) 60 (σ10.1 58 6).toNatClampNeg ((σ10.1 60 (σ10.1 58 6).toNatClampNeg) &&& (((1 : Int32) <<< (x &&& 31)) ^^^ (-1 : Int32)))) 58 7 ((σ10.1 58 7) + (1 : Int32))) (some (.int w13)) σ12 → (inR w13 16 = true → (inR ((((σ10.1 58 7) + (1 : Int32)) / (4 : Int32)) - (1 : Int32)) 4 = true → Pl PRG n d 63 262 [(0, .ref 58)] [] (s1 σ12 69 ((((σ10.1 58 7) + (1 : Int32)) / (4 : Int32)) - (1 : Int32)).toNatClampNeg (σ12.1 62 w13.toNatClampNeg)) (fun _ s' => gC58 s r t D ld C W (m + 1) s' ∧ exc E58 σ0 s'))))) ∧ (¬ (((σ10.1 58 7) + (1 : Int32)) - ((σ10.1 58 7) + (1 : Int32)) / (4 : Int32) * (4 : Int32)) = 0 → Pl PRG n d 63 262 [(0, .ref 58)] [] (s1 (s1 (s1 σ10 68 (σ9.1 58 7).toNatClampNeg w11) 60 (σ10.1 58 6).toNatClampNeg ((σ10.1 60 (σ10.1 58 6).toNatClampNeg) &&& (((1 : Int32) <<< (x &&& 31)) ^^^ (-1 : Int32)))) 58 7 ((σ10.1 58 7) + (1 : Int32))) (fun _ s' => gC58 s r t D ld C W (m + 1) s' ∧ exc E58 σ0 s')) := by
  intro w8 σ7 h39 _ _ σ9 h11 _ w11 σ10 h13 _ _ _
  have hN := hL.2.2.2.2.1
  have f1 : exc [13, 14, 67, 81, 82, 83, 84, 85, 86, 87, 88] B σ9 := ((frJ h39 rfl rfl).sub (subE_ok rfl)).trans (((exc.refl σ7).put rfl).trans ((frJ h11 rfl rfl).sub (subE_ok rfl)))
  have f2 : exc [13, 14, 67, 81, 82, 83, 84, 85, 86, 87, 88] B σ10 := f1.trans ((frJ h13 rfl rfl).sub (subE_ok rfl))
  have D9 := hD.fr f1 rfl
  have D10 := hD.fr f2 rfl
  have C10 := hC.fr f2 rfl rfl rfl
  obtain ⟨t1, t2, t3⟩ := hT
  have e9 := D9.2.2.2.1
  have e7 := D10.2.2.2.1
  have e6 : σ10.1 58 6 = nI p := D10.2.2.1.trans t2
  have ew := D10.2.2.2.2.2.1 p t3
  rw [e9, e7, e6, nI_clamp (n := p) (by omega), ew, nI_clamp (n := m) (by omega), nI_1, rem_4 (by omega), div_4 (by omega)]
  have DF : ∀ z, gD58 s r t D ld C W (m + 1) (m + 1) (m / 4) T (s1 (s1 (s1 σ10 68 m z) 60 p (hnF D C W p m &&& (((1 : Int32) <<< (x &&& 31)) ^^^ (-1 : Int32)))) 58 7 (nI (m + 1))) ∧ exc E58 σ0 (s1 (s1 (s1 σ10 68 m z) 60 p (hnF D C W p m &&& (((1 : Int32) <<< (x &&& 31)) ^^^ (-1 : Int32)))) 58 7 (nI (m + 1))) := by
    intro z
    refine ⟨?_, (((hf.trans (f2.sub (subE_ok rfl))).put rfl).put rfl).put rfl⟩
    obtain ⟨d1, d2, d3, d4, d5, d6, d7, d8⟩ := D10
    refine ⟨?_, ?_, ?_, s1_on, fun q hq => ?_, fun q hq => ?_, fun i hi => ?_, fun k hk => ?_⟩
    · rw [s1_off (by omega), s1_off (by omega), s1_off (by omega)]; exact d1
    · rw [s1_off (by omega), s1_off (by omega), s1_off (by omega)]; exact d2
    · rw [s1_off (by omega), s1_off (by omega), s1_off (by omega)]; exact d3
    · rw [s1_off (by omega), s1_off (by omega), s1_off (by omega)]; exact d5 q hq
    · by_cases e : q = p
      · subst e
        rw [s1_off (by omega), s1_on, hnF_on (by rw [t1, t2]), hx]
      · rw [s1_off (by omega), s1_off (by omega), s1_off (by omega), hnF_off (fun h => e ((nI_eq (by omega) (by omega)).mp (by rw [← h, t1, t2])))]
        exact d6 q hq
    · have h18 := d7 i hi
      iterate 18 rw [s1_off (by omega)]
      exact h18
    · rw [s1_off (by omega), s1_off (by omega), s1_off (by omega)]; exact d8 k hk
  have CF : ∀ z, LC s r t (s1 (s1 (s1 σ10 68 m z) 60 p (hnF D C W p m &&& (((1 : Int32) <<< (x &&& 31)) ^^^ (-1 : Int32)))) 58 7 (nI (m + 1))) := fun z => C10.fr (E := [68, 60, 58]) ((((exc.refl σ10).put rfl).put rfl).put rfl) rfl rfl rfl
  obtain ⟨DF1, DF2⟩ := DF w11
  have CF1 := CF w11
  generalize s1 (s1 (s1 σ10 68 m w11) 60 p (hnF D C W p m &&& (((1 : Int32) <<< (x &&& 31)) ^^^ (-1 : Int32)))) 58 7 (nI (m + 1)) = F at DF1 DF2 CF1 ⊢
  have t4 : T = W (m + 1 - 1) := t1.symm
  refine ⟨fun c w13 σ12 h45 _ _ => ?_, fun c => ?_⟩
  · have c4 : (m + 1) % 4 = 0 := (nI_eq (b := 0) (by omega) (by decide)).mp c
    rw [show nI (m + 1) - (4 : Int32) = nI (m + 1 - 4) by rw [nI_4, nI_subI (by omega)]] at h45
    obtain ⟨rfl, rfl⟩ := g58_45 h45 hL CF1 (DF1.b (Nat.le_refl _)) hV (by omega) (by omega)
    have hr := bsF_rg (r := r) (t := t) (C := C) (m + 1 - 4) 3
    rw [show nI ((m + 1) / 4) - 1 = nI ((m + 1) / 4 - 1) from nI_subI (a := (m + 1) / 4) (b := 1) (by omega), nI_clamp (by omega), nI_clamp (by omega), ((DF1.b (Nat.le_refl _)).2 _ (by omega)).2]
    refine Pl.mono (g58_putE hL (CF1.fr (E := [69]) ((exc.refl σ12).put rfl) rfl rfl rfl) hV (by omega) t4 ?_ n) (fun v s' hq => ⟨hq.1, (DF2.put rfl).trans hq.2⟩)
    obtain ⟨d1, d2, d3, d4, d5, d6, d7, d8⟩ := DF1
    refine ⟨?_, ?_, ?_, ?_, fun q hq => ?_, fun q hq => ?_, fun i hi => ?_, fun k hk => ?_⟩
    · rw [s1_off (by omega)]; exact d1
    · rw [s1_off (by omega)]; exact d2
    · rw [s1_off (by omega)]; exact d3
    · rw [s1_off (by omega)]; exact d4
    · rw [s1_off (by omega)]; exact d5 q hq
    · rw [s1_off (by omega)]; exact d6 q hq
    · have h6 := d7 i hi
      iterate 6 rw [s1_off (by omega)]
      exact h6
    · by_cases e : k = (m + 1) / 4 - 1
      · subst e
        rw [s1_on, show 4 * ((m + 1) / 4 - 1) = m + 1 - 4 by omega]
      · rw [s1_off (by omega)]; exact d8 k (by omega)
  · have c4 : ¬ (m + 1) % 4 = 0 := fun e => c (by rw [e]; rfl)
    refine Pl.mono (g58_putE hL CF1 hV (by omega) t4 ?_ n) (fun v s' hq => ⟨hq.1, DF2.trans hq.2⟩)
    rw [show (m + 1) / 4 = m / 4 by omega]
    exact DF1
theorem g58_SN {p c : Nat} {b : Int32} (hG : gC58 s r t D ld C W m σ) (hp : tnF (s * r) r t ld C W m = nI p) (hx : x = nI c) (hb : b = brF s r D (upF C m x) (upF W m (nI p)) m) : gD58 s r t D ld (upF C m x) (upF W m (nI p)) (m + 1) m (m / 4) (nI p) (s1 (s1 (s1 (s1 (s1 (s1 σ 61 m x) 62 m (nI p)) 64 m (ldG r C m)) 63 m (kdG r x (ldG r C m))) 65 m (bfF r C W (nI p) (suF r x) m)) 66 m b) := by
  have hC : ∀ k, k < m → C k = upF C m x k := fun k hk => (upF_off (by omega)).symm
  have hW : ∀ k, k < m → W k = upF W m (nI p) k := fun k hk => (upF_off (by omega)).symm
  have h0 := hG.lift hC hW
  obtain ⟨d1, d2, d3, d4, d5, d6, d7, d8⟩ := h0
  refine ⟨?_, ?_, ?_, ?_, fun q hq => ?_, fun q hq => ?_, fun i hi => ?_, fun k hk => ?_⟩
  · iterate 6 rw [s1_off (by omega)]
    exact d1
  · iterate 6 rw [s1_off (by omega)]
    exact d2
  · iterate 6 rw [s1_off (by omega)]
    exact d3.trans hp
  · iterate 6 rw [s1_off (by omega)]
    exact d4
  · iterate 6 rw [s1_off (by omega)]
    exact d5 q hq
  · iterate 6 rw [s1_off (by omega)]
    exact d6 q hq
  · by_cases e : i = m
    · subst e
      refine ⟨?_, ?_, ?_, ?_, ?_, ?_⟩
      · iterate 5 rw [s1_off (by omega)]
        rw [s1_on, upF_on]
      · iterate 4 rw [s1_off (by omega)]
        rw [s1_on, upF_on]
      · iterate 2 rw [s1_off (by omega)]
        rw [s1_on]
        unfold kdF
        rw [upF_on, ← ldG_cg hC]
      · iterate 3 rw [s1_off (by omega)]
        rw [s1_on, ← ldG_cg hC]
      · iterate 1 rw [s1_off (by omega)]
        rw [s1_on, upF_on, upF_on, ← bfF_cg i hC hW]
      · rw [s1_on, hb]
    · have h36 := d7 i (by omega)
      iterate 36 rw [s1_off (by omega)]
      exact h36
  · iterate 6 rw [s1_off (by omega)]
    exact d8 k hk
theorem g58_63 (h : RCx PRG n 63 [.ref 58, .int x] σ none σ1) (hL : lOK s r t) (hC : LC s r t σ) (hG : gC58 s r t D ld C W m σ) (hV : gV s r t D ld C W m) (hm : m < s * r) (hx : ∃ c, c < s * r ∧ x = nI c) : gC58 s r t D ld (upF C m x) (upF W m (tnF (s * r) r t ld C W m)) (m + 1) σ1 ∧ exc E58 σ σ1 := by
  obtain ⟨p, hp, ep⟩ := hV.turn hm
  obtain ⟨c, hc, ex⟩ := hx
  have hN := hL.2.2.2.2.1
  have hVC : isC s r C m := hV.2.2.1
  have hCu : ∀ k, k < m → C k = upF C m x k := fun k hk => (upF_off (by omega)).symm
  have hWu : ∀ k, k < m → W k = upF W m (nI p) k := fun k hk => (upF_off (by omega)).symm
  have hVu : isC s r (upF C m x) (m + 1) := fun i hi => by
    by_cases e : i = m
    · subst e; rw [upF_on]; exact ⟨c, hc, ex⟩
    · rw [upF_off e]; exact hVC i (by omega)
  have hB := gD58.b hG (Nat.le_refl _)
  rw [ep]
  refine h.by (Q := fun _ s' => gC58 s r t D ld (upF C m x) (upF W m (nI p)) (m + 1) s' ∧ exc E58 σ s') (fun n d => p_63_b58_0 σ x ?_)
  have e6 : σ.1 58 6 = nI p := hG.2.2.1.trans ep
  have e7 := hG.2.2.2.1
  rw [e6, e7]
  have e16 : (16 : Int32) = nI 16 := by decide
  refine ⟨fun c1 => absurd c1 (nI_pos (by omega)), fun _ => ⟨fun c1 => absurd ((nI_leI (a := 16) (b := m) (by decide) (by omega)).mp (by rw [← e16]; exact c1)) (by omega), fun _ => ⟨fun c1 => absurd c1 (by rw [ex]; exact nI_pos (by omega)), fun _ => ⟨fun _ w2 σ2 h34 => ?_, fun c1 => absurd (by rw [ex, e16]; exact nI_lt (by omega) (by decide)) c1⟩⟩⟩⟩
  obtain ⟨hs2, rfl⟩ := g58_34 h34 hL hC hB hVC (by omega)
  rw [hs2, e6, e7, nI_clamp (n := m) (by omega)]
  intro _ _ _ w4 σ4 h37
  have C1 : LC s r t (s1 (s1 (s1 σ 61 m x) 62 m (nI p)) 64 m (ldG r C m)) := hC.fr (E := [61, 62, 64]) ((((exc.refl σ).put rfl).put rfl).put rfl) rfl rfl rfl
  obtain ⟨hs4, rfl⟩ := g58_37 h37 hL C1 ⟨c, hc, ex⟩
  intro _ w6 σ6 h36
  have C2 : LC s r t (s1 σ4 63 m (kdG r x (ldG r C m))) := by
    rw [hs4]; exact C1.fr (E := [63]) ((exc.refl _).put rfl) rfl rfl rfl
  have B2 : gB 58 61 62 C W m (s1 σ4 63 m (kdG r x (ldG r C m))) := by
    rw [hs4]
    refine ⟨?_, fun i hi => ⟨?_, ?_⟩⟩
    · iterate 4 rw [s1_off (by omega)]
      exact e7
    · iterate 4 rw [s1_off (by omega)]
      exact (hB.2 i hi).1
    · iterate 4 rw [s1_off (by omega)]
      exact (hB.2 i hi).2
  have T2 : (s1 σ4 63 m (kdG r x (ldG r C m))).1 58 6 = nI p := by
    rw [hs4]
    iterate 4 rw [s1_off (by omega)]
    exact e6
  obtain ⟨hs6, rfl⟩ := g58_36 h36 hL C2 B2 hVC (by omega) ⟨c, hc, ex⟩ T2
  have e47 : σ4.1 58 7 = nI m := by
    rw [hs4]
    iterate 3 rw [s1_off (by omega)]
    exact e7
  have e67 : σ6.1 58 7 = nI m := by
    rw [hs6, s1_off (by omega)]; exact e47
  have e66 : σ6.1 58 6 = nI p := by
    rw [hs6]; exact T2
  have ek : σ6.1 63 m = kdG r x (ldG r C m) := by rw [hs6, s1_on]
  have C6 : LC s r t σ6 := by rw [hs6]; exact C2
  have ew : σ6.1 60 p = hnF D C W p m := by
    rw [hs6, hs4]
    iterate 4 rw [s1_off (by omega)]
    exact hG.2.2.2.2.2.1 p hp
  have k1 : kdF r (upF C m x) m = kdG r x (ldG r C m) := by
    unfold kdF
    rw [upF_on, ← ldG_cg hCu]
  have k2 : hnF D (upF C m x) (upF W m (nI p)) (upF W m (nI p) m).toNatClampNeg m &&& scF s r (ldG r (upF C m x) m) = hnF D C W p m &&& scF s r (ldG r C m) := by
    rw [upF_on, nI_clamp (by omega), ← hnF_cg hCu hWu, ← ldG_cg hCu]
  have fin : ∀ b : Int32, b = brF s r D (upF C m x) (upF W m (nI p)) m → gD58 s r t D ld (upF C m x) (upF W m (nI p)) (m + 1) m (m / 4) (nI p) (s1 (s1 σ6 65 m (bfF r C W (nI p) (suF r x) m)) 66 m b) ∧ LC s r t (s1 (s1 σ6 65 m (bfF r C W (nI p) (suF r x) m)) 66 m b) ∧ exc E58 σ (s1 (s1 σ6 65 m (bfF r C W (nI p) (suF r x) m)) 66 m b) := by
    intro b hb
    refine ⟨?_, C6.fr (E := [65, 66]) (((exc.refl σ6).put rfl).put rfl) rfl rfl rfl, ?_⟩
    · rw [hs6, hs4]
      exact g58_SN hG ep ex hb
    · rw [hs6, hs4]
      exact ((((((exc.refl σ).put rfl).put rfl).put rfl).put rfl).put rfl).put rfl
  rw [e47, e67, e66, nI_clamp (n := m) (by omega), nI_clamp (n := p) (by omega), ek, ew]
  have hT : upF W m (nI p) m = nI p ∧ nI p = nI p ∧ p < 4 := ⟨upF_on, rfl, hp⟩
  intro _ _
  refine ⟨fun c2 _ _ => ?_, fun c2 => ?_⟩
  · obtain ⟨u, hu, eu⟩ := kd_2 hL hVC c2
    have es : σ6.1 9 (ldG r C m).toNatClampNeg = scF s r (ldG r C m) := by
      rw [eu, nI_clamp (by have := hL.2.1; omega)]
      exact C6.2.2.2.2.2.1 u (by have := hL.2.1; omega)
    rw [es]
    refine ⟨fun c3 _ => ?_, fun c3 _ => ?_⟩
    · obtain ⟨q1, q2, q3⟩ := fin 0 (by unfold brF; rw [k1, k2, if_neg (fun h => h.2 c3)])
      have := g58_putK (n := n) (d := d) hL q2 hVu hm hT upF_on q1 q3
      rw [nI_clamp (n := m) (by omega)] at this
      exact this
    · obtain ⟨q1, q2, q3⟩ := fin 1 (by unfold brF; rw [k1, k2, if_pos ⟨c2, c3⟩])
      have := g58_putK (n := n) (d := d) hL q2 hVu hm hT upF_on q1 q3
      rw [nI_clamp (n := m) (by omega)] at this
      exact this
  · intro _
    obtain ⟨q1, q2, q3⟩ := fin 0 (by unfold brF; rw [k1, if_neg (fun h => c2 h.1)])
    have := g58_putK (n := n) (d := d) hL q2 hVu hm hT upF_on q1 q3
    rw [nI_clamp (n := m) (by omega)] at this
    exact this
end H58
section I58
variable {s r m n : Nat} {t x ld : Int32} {D C W : Nat → Int32} {σ σ1 : Sg} {w : Int32}
def gN58 (σ : Sg) : Prop := σ.1 58 2 = 0 ∧ σ.1 58 6 = -2 ∧ σ.1 58 7 = 0
theorem g58_66 (h : RCx PRG n 66 [.ref 58] σ none σ1) : gN58 σ1 ∧ exc [58] σ σ1 := by
  refine h.by (Q := fun _ s' => gN58 s' ∧ exc [58] σ s') (fun n d => p_66_b58_0 σ ⟨⟨?_, ?_, ?_⟩, ((((exc.refl σ).put rfl).put rfl).put rfl).put rfl⟩)
  · rw [s1_off (by omega), s1_off (by omega), s1_off (by omega), s1_on]
  · rw [s1_off (by omega), s1_on]
  · rw [s1_off (by omega), s1_off (by omega), s1_on]
theorem g58_31 (h : RCx PRG n 31 [.ref 58, .int x] σ none σ1) : σ1 = s1 (s1 (s1 σ 58 5 x) 58 6 x) 58 17 ((σ.1 58 17) + (1 : Int32)) :=
  h.by (Q := fun _ s' => s' = s1 (s1 (s1 σ 58 5 x) 58 6 x) 58 17 ((σ.1 58 17) + (1 : Int32))) (fun n d => p_31_b58_0 σ x rfl)
theorem g58_led (hL : lOK s r t) (hG : gC58 s r t D ld C W 0 σ) {y : Int32} : gC58 s r t D x C W 0 (s1 (s1 (s1 σ 58 5 x) 58 6 x) 58 17 y) ∧ exc E58 σ (s1 (s1 (s1 σ 58 5 x) 58 6 x) 58 17 y) := by
  refine ⟨?_, (((exc.refl σ).put rfl).put rfl).put rfl⟩
  obtain ⟨d1, d2, d3, d4, d5, d6, d7, d8⟩ := hG
  refine ⟨?_, ?_, ?_, ?_, fun q hq => ?_, fun q hq => ?_, fun i hi => absurd hi (Nat.not_lt_zero _), fun k hk => absurd hk (Nat.not_lt_zero _)⟩
  · rw [s1_off (by omega), s1_off (by omega), s1_off (by omega)]; exact d1
  · rw [s1_off (by omega), s1_off (by omega), s1_on]
  · rw [s1_off (by omega), s1_on, tnF_0 hL]
  · rw [s1_off (by omega), s1_off (by omega), s1_off (by omega)]; exact d4
  · rw [s1_off (by omega), s1_off (by omega), s1_off (by omega)]; exact d5 q hq
  · rw [s1_off (by omega), s1_off (by omega), s1_off (by omega)]; exact d6 q hq
theorem g58_32 {x1 x2 x3 x4 : Int32} (h : RCx PRG n 32 [.ref 58, .int x1, .int x2, .int x3, .int x4] σ none σ1) (hL : lOK s r t) (C W : Nat → Int32) : gC58 s r t (d4 x1 x2 x3 x4) 0 C W 0 σ1 ∧ exc E58 σ σ1 := by
  have loop : ∀ d n j (σ' : Sg), j ≤ 4 → (∀ p, p < 4 → σ'.1 59 p = d4 x1 x2 x3 x4 p) → (∀ p, p < j → σ'.1 60 p = d4 x1 x2 x3 x4 p) → exc E58 σ σ' → Pl PRG n d 32 32 [(0, .ref 58), (5, .int (nI j))] [] σ' (fun _ s' => gC58 s r t (d4 x1 x2 x3 x4) 0 C W 0 s' ∧ exc E58 σ s') := by
    intro d n
    induction n using Nat.strongRecOn with
    | _ n ih =>
      intro j σ' hj hd hw hf
      refine Pl.pos (fun n1 h1 => p_32_b58_32 σ' (nI j) ?_)
      refine ⟨fun c σ2 h2 => ?_, fun c _ _ => ?_⟩
      · have hj4 : j = 4 := by
          have := (nI_leI (a := 4) (b := j) (by decide) (by omega)).mp c
          omega
        subst hj4
        have e := g58_31 h2
        subst e
        refine ⟨⟨?_, ?_, ?_, ?_, fun q hq => ?_, fun q hq => ?_, fun i hi => absurd hi (Nat.not_lt_zero _), fun k hk => absurd hk (Nat.not_lt_zero _)⟩, ((((hf.put rfl).put rfl).put rfl).put rfl).put rfl⟩
        · iterate 4 rw [s1_off (by omega)]
          rw [s1_on]
        · iterate 2 rw [s1_off (by omega)]
          rw [s1_on]
        · rw [s1_off (by omega), s1_on, tnF_0 hL]
        · iterate 3 rw [s1_off (by omega)]
          rw [s1_on]; rfl
        · iterate 5 rw [s1_off (by omega)]
          exact hd q hq
        · iterate 5 rw [s1_off (by omega)]
          rw [hnF_0]
          exact hw q hq
      · have hlt : j < 4 := nle_of (a := 4) (b := j) (by decide) (by omega) c
        rw [nI_1, nI_clamp (by omega)]
        refine ih n1 (by omega) (j + 1) _ (by omega) (fun p hp => by rw [s1_off (by omega)]; exact hd p hp) (fun p hp => ?_) (hf.put rfl)
        by_cases e : p = j
        · subst e; rw [s1_on]; exact hd p (by omega)
        · rw [s1_off (by omega)]; exact hw p (by omega)
  refine h.by (Q := fun _ s' => gC58 s r t (d4 x1 x2 x3 x4) 0 C W 0 s' ∧ exc E58 σ s') (fun n d => p_32_b58_0 σ x1 x2 x3 x4 ?_)
  refine loop d n 0 _ (by decide) (fun p hp => ?_) (fun p hp => absurd hp (Nat.not_lt_zero _)) (((((exc.refl σ).put rfl).put rfl).put rfl).put rfl)
  rcases (show p = 0 ∨ p = 1 ∨ p = 2 ∨ p = 3 by omega) with rfl | rfl | rfl | rfl
  · iterate 3 rw [s1_off (by omega)]
    rw [s1_on]; rfl
  · iterate 2 rw [s1_off (by omega)]
    rw [s1_on]; rfl
  · rw [s1_off (by omega), s1_on]; rfl
  · rw [s1_on]; rfl
theorem gC58.eqD {D' : Nat → Int32} (h : gC58 s r t D ld C W m σ) (hD : ∀ p, p < 4 → D p = D' p) (hW : ∀ i, i < m → ∃ w, w < 4 ∧ W i = nI w) : gC58 s r t D' ld C W m σ := by
  obtain ⟨h1, h2, h3, h4, h5, h6, h7, h8⟩ := h
  refine ⟨h1, h2, h3, h4, fun p hp => by rw [← hD p hp]; exact h5 p hp, fun p hp => by unfold hnF; rw [← hD p hp]; exact h6 p hp, fun i hi => ?_, h8⟩
  obtain ⟨q1, q2, q3, q4, q5, q6⟩ := h7 i hi
  refine ⟨q1, q2, q3, q4, q5, ?_⟩
  obtain ⟨w, hw, ew⟩ := hW i hi
  have e : brF s r D C W i = brF s r D' C W i := by
    unfold brF hnF
    rw [ew, nI_clamp (by omega), hD w hw]
  rw [← e]; exact q6
end I58
theorem g46_67_22 {s r m n : Nat} {t ld : Int32} {D C W : Nat → Int32} {σ σ1 : Sg} (h : RCx PRG n 67 [.ref 46, .ref 22] σ none σ1) (hL : lOK s r t) (hC : LC s r t σ) (hG : gC22 s r t D ld C W m σ) (hV : gV s r t D ld C W m) : gC46 s r t D ld C W m σ1 ∧ exc E46 σ σ1 := by
  have hm := hV.2.1
  have hN := hL.2.2.2.2.1
  have loop : ∀ d n j (σ' : Sg), j ≤ m → gC46 s r t D ld C W j σ' → exc E46 σ σ' → Pl PRG n d 67 38 [(0, .ref 46), (1, .ref 22), (2, .int (nI j))] [] σ' (fun _ s' => gC46 s r t D ld C W m s' ∧ exc E46 σ s') := by
    intro d n
    induction n using Nat.strongRecOn with
    | _ n ih =>
      intro j σ' hj hg hf
      refine Pl.pos (fun n1 h1 => p_67_b46_22_38 σ' (nI j) ?_)
      have hH := gD22.fr hG hf rfl
      rw [hH.2.2.2.1]
      refine ⟨fun c => ?_, fun c _ σ2 h2 => ?_⟩
      · have := (nI_leI (a := m) (b := j) (by omega) (by omega)).mp c
        have e : j = m := by omega
        subst e
        exact ⟨hg, hf⟩
      · have hlt : j < m := nle_of (a := m) (b := j) (by omega) (by omega) c
        rw [nI_clamp (by omega), (hH.2.2.2.2.2.2.1 j hlt).1] at h2
        obtain ⟨k1, k2⟩ := g46_63 h2 hL (hC.fr hf rfl rfl rfl) hg (hV.less (by omega)) (by omega) (hV.2.2.1 j hlt)
        rw [upF_id rfl, upF_id (hV.2.2.2.1 j hlt).symm] at k1
        rw [nI_1]
        exact ih n1 (by omega) (j + 1) σ2 (by omega) k1 (hf.trans k2)
  refine h.by (Q := fun _ s' => gC46 s r t D ld C W m s' ∧ exc E46 σ s') (fun n d => p_67_b46_22_0 σ (fun σ2 h2 σ3 h3 => ?_))
  rw [hG.2.2.2.2.1 0 (by decide), hG.2.2.2.2.1 1 (by decide), hG.2.2.2.2.1 2 (by decide), hG.2.2.2.2.1 3 (by decide)] at h2
  obtain ⟨k1, k2⟩ := g46_32 h2 hL C W
  have hH := gD22.fr hG k2 rfl
  rw [hH.2.1] at h3
  have e := g46_31 h3
  subst e
  obtain ⟨l1, l2⟩ := g46_led hL k1 (x := ld) (y := (σ2.1 46 17) + (1 : Int32))
  refine loop d n 0 _ (Nat.zero_le _) (l1.eqD (fun p hp => ?_) (fun i hi => absurd hi (Nat.not_lt_zero _))) (k2.trans l2)
  rcases (show p = 0 ∨ p = 1 ∨ p = 2 ∨ p = 3 by omega) with rfl | rfl | rfl | rfl <;> rfl
theorem g58_67_22 {s r m n : Nat} {t ld : Int32} {D C W : Nat → Int32} {σ σ1 : Sg} (h : RCx PRG n 67 [.ref 58, .ref 22] σ none σ1) (hL : lOK s r t) (hC : LC s r t σ) (hG : gC22 s r t D ld C W m σ) (hV : gV s r t D ld C W m) : gC58 s r t D ld C W m σ1 ∧ exc E58 σ σ1 := by
  have hm := hV.2.1
  have hN := hL.2.2.2.2.1
  have loop : ∀ d n j (σ' : Sg), j ≤ m → gC58 s r t D ld C W j σ' → exc E58 σ σ' → Pl PRG n d 67 38 [(0, .ref 58), (1, .ref 22), (2, .int (nI j))] [] σ' (fun _ s' => gC58 s r t D ld C W m s' ∧ exc E58 σ s') := by
    intro d n
    induction n using Nat.strongRecOn with
    | _ n ih =>
      intro j σ' hj hg hf
      refine Pl.pos (fun n1 h1 => p_67_b58_22_38 σ' (nI j) ?_)
      have hH := gD22.fr hG hf rfl
      rw [hH.2.2.2.1]
      refine ⟨fun c => ?_, fun c _ σ2 h2 => ?_⟩
      · have := (nI_leI (a := m) (b := j) (by omega) (by omega)).mp c
        have e : j = m := by omega
        subst e
        exact ⟨hg, hf⟩
      · have hlt : j < m := nle_of (a := m) (b := j) (by omega) (by omega) c
        rw [nI_clamp (by omega), (hH.2.2.2.2.2.2.1 j hlt).1] at h2
        obtain ⟨k1, k2⟩ := g58_63 h2 hL (hC.fr hf rfl rfl rfl) hg (hV.less (by omega)) (by omega) (hV.2.2.1 j hlt)
        rw [upF_id rfl, upF_id (hV.2.2.2.1 j hlt).symm] at k1
        rw [nI_1]
        exact ih n1 (by omega) (j + 1) σ2 (by omega) k1 (hf.trans k2)
  refine h.by (Q := fun _ s' => gC58 s r t D ld C W m s' ∧ exc E58 σ s') (fun n d => p_67_b58_22_0 σ (fun σ2 h2 σ3 h3 => ?_))
  rw [hG.2.2.2.2.1 0 (by decide), hG.2.2.2.2.1 1 (by decide), hG.2.2.2.2.1 2 (by decide), hG.2.2.2.2.1 3 (by decide)] at h2
  obtain ⟨k1, k2⟩ := g58_32 h2 hL C W
  have hH := gD22.fr hG k2 rfl
  rw [hH.2.1] at h3
  have e := g58_31 h3
  subst e
  obtain ⟨l1, l2⟩ := g58_led hL k1 (x := ld) (y := (σ2.1 58 17) + (1 : Int32))
  refine loop d n 0 _ (Nat.zero_le _) (l1.eqD (fun p hp => ?_) (fun i hi => absurd hi (Nat.not_lt_zero _))) (k2.trans l2)
  rcases (show p = 0 ∨ p = 1 ∨ p = 2 ∨ p = 3 by omega) with rfl | rfl | rfl | rfl <;> rfl
theorem g22_67_46 {s r m n : Nat} {t ld : Int32} {D C W : Nat → Int32} {σ σ1 : Sg} (h : RCx PRG n 67 [.ref 22, .ref 46] σ none σ1) (hL : lOK s r t) (hC : LC s r t σ) (hG : gC46 s r t D ld C W m σ) (hV : gV s r t D ld C W m) : gC22 s r t D ld C W m σ1 ∧ exc E22 σ σ1 := by
  have hm := hV.2.1
  have hN := hL.2.2.2.2.1
  have loop : ∀ d n j (σ' : Sg), j ≤ m → gC22 s r t D ld C W j σ' → exc E22 σ σ' → Pl PRG n d 67 38 [(0, .ref 22), (1, .ref 46), (2, .int (nI j))] [] σ' (fun _ s' => gC22 s r t D ld C W m s' ∧ exc E22 σ s') := by
    intro d n
    induction n using Nat.strongRecOn with
    | _ n ih =>
      intro j σ' hj hg hf
      refine Pl.pos (fun n1 h1 => p_67_b22_46_38 σ' (nI j) ?_)
      have hH := gD46.fr hG hf rfl
      rw [hH.2.2.2.1]
      refine ⟨fun c => ?_, fun c _ σ2 h2 => ?_⟩
      · have := (nI_leI (a := m) (b := j) (by omega) (by omega)).mp c
        have e : j = m := by omega
        subst e
        exact ⟨hg, hf⟩
      · have hlt : j < m := nle_of (a := m) (b := j) (by omega) (by omega) c
        rw [nI_clamp (by omega), (hH.2.2.2.2.2.2.1 j hlt).1] at h2
        obtain ⟨k1, k2⟩ := g22_63 h2 hL (hC.fr hf rfl rfl rfl) hg (hV.less (by omega)) (by omega) (hV.2.2.1 j hlt)
        rw [upF_id rfl, upF_id (hV.2.2.2.1 j hlt).symm] at k1
        rw [nI_1]
        exact ih n1 (by omega) (j + 1) σ2 (by omega) k1 (hf.trans k2)
  refine h.by (Q := fun _ s' => gC22 s r t D ld C W m s' ∧ exc E22 σ s') (fun n d => p_67_b22_46_0 σ (fun σ2 h2 σ3 h3 => ?_))
  rw [hG.2.2.2.2.1 0 (by decide), hG.2.2.2.2.1 1 (by decide), hG.2.2.2.2.1 2 (by decide), hG.2.2.2.2.1 3 (by decide)] at h2
  obtain ⟨k1, k2⟩ := g22_32 h2 hL C W
  have hH := gD46.fr hG k2 rfl
  rw [hH.2.1] at h3
  have e := g22_31 h3
  subst e
  obtain ⟨l1, l2⟩ := g22_led hL k1 (x := ld) (y := (σ2.1 22 17) + (1 : Int32))
  refine loop d n 0 _ (Nat.zero_le _) (l1.eqD (fun p hp => ?_) (fun i hi => absurd hi (Nat.not_lt_zero _))) (k2.trans l2)
  rcases (show p = 0 ∨ p = 1 ∨ p = 2 ∨ p = 3 by omega) with rfl | rfl | rfl | rfl <;> rfl
theorem g22_67_58 {s r m n : Nat} {t ld : Int32} {D C W : Nat → Int32} {σ σ1 : Sg} (h : RCx PRG n 67 [.ref 22, .ref 58] σ none σ1) (hL : lOK s r t) (hC : LC s r t σ) (hG : gC58 s r t D ld C W m σ) (hV : gV s r t D ld C W m) : gC22 s r t D ld C W m σ1 ∧ exc E22 σ σ1 := by
  have hm := hV.2.1
  have hN := hL.2.2.2.2.1
  have loop : ∀ d n j (σ' : Sg), j ≤ m → gC22 s r t D ld C W j σ' → exc E22 σ σ' → Pl PRG n d 67 38 [(0, .ref 22), (1, .ref 58), (2, .int (nI j))] [] σ' (fun _ s' => gC22 s r t D ld C W m s' ∧ exc E22 σ s') := by
    intro d n
    induction n using Nat.strongRecOn with
    | _ n ih =>
      intro j σ' hj hg hf
      refine Pl.pos (fun n1 h1 => p_67_b22_58_38 σ' (nI j) ?_)
      have hH := gD58.fr hG hf rfl
      rw [hH.2.2.2.1]
      refine ⟨fun c => ?_, fun c _ σ2 h2 => ?_⟩
      · have := (nI_leI (a := m) (b := j) (by omega) (by omega)).mp c
        have e : j = m := by omega
        subst e
        exact ⟨hg, hf⟩
      · have hlt : j < m := nle_of (a := m) (b := j) (by omega) (by omega) c
        rw [nI_clamp (by omega), (hH.2.2.2.2.2.2.1 j hlt).1] at h2
        obtain ⟨k1, k2⟩ := g22_63 h2 hL (hC.fr hf rfl rfl rfl) hg (hV.less (by omega)) (by omega) (hV.2.2.1 j hlt)
        rw [upF_id rfl, upF_id (hV.2.2.2.1 j hlt).symm] at k1
        rw [nI_1]
        exact ih n1 (by omega) (j + 1) σ2 (by omega) k1 (hf.trans k2)
  refine h.by (Q := fun _ s' => gC22 s r t D ld C W m s' ∧ exc E22 σ s') (fun n d => p_67_b22_58_0 σ (fun σ2 h2 σ3 h3 => ?_))
  rw [hG.2.2.2.2.1 0 (by decide), hG.2.2.2.2.1 1 (by decide), hG.2.2.2.2.1 2 (by decide), hG.2.2.2.2.1 3 (by decide)] at h2
  obtain ⟨k1, k2⟩ := g22_32 h2 hL C W
  have hH := gD58.fr hG k2 rfl
  rw [hH.2.1] at h3
  have e := g22_31 h3
  subst e
  obtain ⟨l1, l2⟩ := g22_led hL k1 (x := ld) (y := (σ2.1 22 17) + (1 : Int32))
  refine loop d n 0 _ (Nat.zero_le _) (l1.eqD (fun p hp => ?_) (fun i hi => absurd hi (Nat.not_lt_zero _))) (k2.trans l2)
  rcases (show p = 0 ∨ p = 1 ∨ p = 2 ∨ p = 3 by omega) with rfl | rfl | rfl | rfl <;> rfl
