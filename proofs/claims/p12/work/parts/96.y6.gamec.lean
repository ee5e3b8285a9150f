/-! the games of the class: what each of its methods answers and leaves -/
def LC (s r : Nat) (t : Int32) (σ : Sg) : Prop := σ.1 3 0 = nI s ∧ σ.1 3 1 = nI r ∧ σ.1 3 2 = t ∧ σ.1 3 10 = nI (s * r) ∧ σ.1 3 11 = nI (s * r / 4) ∧ (∀ u, u < 4 → σ.1 9 u = scF s r (nI u)) ∧ ∀ c, c < s * r → σ.1 10 c = suF r (nI c)
def gB (g c o : Nat) (C W : Nat → Int32) (m : Nat) (σ : Sg) : Prop := σ.1 g 7 = nI m ∧ ∀ i, i < m → σ.1 c i = C i ∧ σ.1 o i = W i
def isC (s r : Nat) (C : Nat → Int32) (m : Nat) : Prop := ∀ i, i < m → ∃ c, c < s * r ∧ C i = nI c
/-- all cells but these are as they were -/
def exc (E : List Nat) (σ σ' : Sg) : Prop := ∀ q, q < 158 → E.contains q = false → ∀ j, σ'.1 q j = σ.1 q j
theorem exc.refl {E : List Nat} (σ : Sg) : exc E σ σ := fun _ _ _ _ => rfl
theorem exc.trans {E : List Nat} {σ σ1 σ2 : Sg} (h : exc E σ σ1) (h' : exc E σ1 σ2) : exc E σ σ2 := fun q hq hE j => (h' q hq hE j).trans (h q hq hE j)
theorem exc.put {E : List Nat} {σ σ1 : Sg} {q k : Nat} {x : Int32} (h : exc E σ σ1) (hq : E.contains q = true) : exc E σ (s1 σ1 q k x) := fun q' hq' hE j => by
  rw [s1_off (fun e => by rw [e.1, hq] at hE; cases hE)]
  exact h q' hq' hE j
theorem exc.sub {E E' : List Nat} {σ σ1 : Sg} (h : exc E σ σ1) (hs : ∀ q, E'.contains q = false → E.contains q = false) : exc E' σ σ1 := fun q hq hE j => h q hq (hs q hE) j
def subE (E E' : List Nat) : Bool := E.all (fun q => E'.contains q)
theorem subE_ok {E E' : List Nat} (h : subE E E' = true) : ∀ q, E'.contains q = false → E.contains q = false := by
  intro q hq
  cases hc : E.contains q with
  | false => rfl
  | true =>
    have := List.all_eq_true.mp h q (by simpa using hc)
    rw [hq] at this
    cases this
set_option maxRecDepth 100000 in
theorem coverJ : ∀ q, q < 158 → ([13, 14, 81, 82, 83, 84, 85, 86, 87, 88] : List Nat).contains q = false → ZJ.contains q = true ∨ (match knd q with
  | some (0, _, _) => true
  | _ => false) = true := by decide +kernel
theorem frJ {n mi : Nat} {av : List Value} {σ σ1 : Sg} {v : Option Value} (h : RCx PRG n mi av σ v σ1) (hm : SJ.contains mi = true) (ha : nZs ZJ av = true) : exc [13, 14, 81, 82, 83, 84, 85, 86, 87, 88] σ σ1 := by
  intro q hq hE j
  rcases coverJ q hq hE with g | g
  · exact h.bits gGJ gAJ bSJ hm ha q g j
  · split at g
    · rename_i c fs hk
      exact h.np hk rfl npJ hm j
    · cases g
theorem cdiv_lt {s r c : Nat} (h : c < s * r) : c / r < s := by
  rcases Nat.eq_zero_or_pos r with e | e
  · subst e; omega
  · exact (Nat.div_lt_iff_lt_mul e).mpr h
theorem suF_nI {r c : Nat} (hl : 1 ≤ r ∧ r ≤ 16) (hc : c < 16) : suF r (nI c) = nI (c / r) := nI_div (by omega) (by omega) (by omega)
theorem rkG_nI {r c : Nat} (hl : 1 ≤ r ∧ r ≤ 16) (hc : c < 16) : rkG r (nI c) = nI (c % r) := nI_rem (by omega) (by omega) (by omega)
section Gc
variable {s r m n a : Nat} {t x : Int32} {C W : Nat → Int32} {σ σ1 : Sg} {w : Int32}
theorem LC.su (hL : lOK s r t) (h : LC s r t σ) {x : Int32} {c : Nat} (hx : x = nI c) (hc : c < s * r) : σ.1 10 x.toNatClampNeg = suF r x := by
  subst hx
  have := hL.2.2.2.2.1
  rw [nI_clamp (by omega)]
  exact h.2.2.2.2.2.2 c hc
theorem LC.fr {E : List Nat} (h : LC s r t σ) (hf : exc E σ σ1) (h3 : E.contains 3 = false) (h9 : E.contains 9 = false) (h10 : E.contains 10 = false) : LC s r t σ1 := by
  have e3 := hf 3 (by decide) h3
  have e9 := hf 9 (by decide) h9
  have e10 := hf 10 (by decide) h10
  obtain ⟨a1, a2, a3, a4, a5, a6, a7⟩ := h
  exact ⟨by rw [e3]; exact a1, by rw [e3]; exact a2, by rw [e3]; exact a3, by rw [e3]; exact a4, by rw [e3]; exact a5, fun u hu => by rw [e9]; exact a6 u hu, fun c hc => by rw [e10]; exact a7 c hc⟩
theorem rc9 (h : RCx PRG n 9 [.ref 3, .int x] σ (some (.int w)) σ1) (hL : lOK s r t) (hC : LC s r t σ) (hx : ∃ c, c < s * r ∧ x = nI c) : σ1 = σ ∧ w = rkG r x := by
  obtain ⟨c, hc, rfl⟩ := hx
  have hq := h.by (Q := fun v s' => s' = σ ∧ v = some (.int (rkG r (nI c)))) (fun n d => p_9_0 σ (nI c) (fun _ => by
    rw [hC.su hL rfl hc, hC.2.1]
    exact ⟨rfl, rfl⟩))
  obtain ⟨a, b⟩ := hq
  cases b
  exact ⟨a, rfl⟩
theorem sub1 (x : Int32) : x + (-1 : Int32) = x - 1 := (Int32.sub_eq_add_neg x 1).symm
end Gc
section G22
variable {s r m n a : Nat} {t x : Int32} {C W : Nat → Int32} {σ σ1 : Sg} {w : Int32}
theorem g22_34 (h : RCx PRG n 34 [.ref 22] σ (some (.int w)) σ1) (hL : lOK s r t) (hC : LC s r t σ) (hB : gB 22 25 26 C W m σ) (hV : isC s r C m) (hm : m ≤ 16) : σ1 = σ ∧ w = ldG r C m := by
  have hq := h.by (Q := fun v s' => s' = σ ∧ v = some (.int (ldG r C m))) (fun n d => p_34_0 σ (by
    rw [hB.1, rem_4 (by omega), nI_subI (Nat.mod_le m 4)]
    refine ⟨fun c => ?_, fun c _ => ?_⟩
    · have := (nI_leI (by omega) (by omega)).mp c
      unfold ldG
      rw [if_pos (by omega)]
      exact ⟨rfl, rfl⟩
    · have hlt := nle_of (by omega) (by omega) c
      rw [nI_clamp (by omega), (hB.2 _ hlt).1]
      obtain ⟨cc, hcc, e⟩ := hV _ hlt
      intro _
      rw [hC.su hL e hcc]
      unfold ldG
      rw [if_neg (by omega)]
      exact ⟨rfl, rfl⟩))
  obtain ⟨a, b⟩ := hq
  cases b
  exact ⟨a, rfl⟩
theorem g22_37 {u : Int32} (h : RCx PRG n 37 [.ref 22, .int x, .int u] σ (some (.int w)) σ1) (hL : lOK s r t) (hC : LC s r t σ) (hx : ∃ c, c < s * r ∧ x = nI c) : σ1 = σ ∧ w = kdG r x u := by
  obtain ⟨c, hc, e⟩ := hx
  have hq := h.by (Q := fun v s' => s' = σ ∧ v = some (.int (kdG r x u))) (fun n d => p_37_0 σ x u (by
    rw [hC.su hL e hc]
    unfold kdG
    refine ⟨fun c1 _ => ⟨fun c2 => ?_, fun c2 => ?_⟩, fun c1 => ?_⟩
    · rw [if_pos c1, if_pos c2]; exact ⟨rfl, rfl⟩
    · rw [if_pos c1, if_neg c2]; exact ⟨rfl, rfl⟩
    · rw [if_neg c1]; exact ⟨rfl, rfl⟩))
  obtain ⟨a, b⟩ := hq
  cases b
  exact ⟨a, rfl⟩
theorem g22_36l {d : Nat} {T : Int32} (hL : lOK s r t) (hC : LC s r t σ) (hB : gB 22 25 26 C W m σ) (hV : isC s r C m) (hm : m ≤ 16) (hx : ∃ c, c < s * r ∧ x = nI c) (hT : σ.1 22 6 = T) : ∀ n j, j ≤ m → Pl PRG n d 36 7 [(0, .ref 22), (1, .int x), (2, .int (nI j - 1))] [] σ (fun v s' => s' = σ ∧ v = some (.int (bfF r C W T (suF r x) j))) := by
  intro n
  induction n using Nat.strongRecOn with
  | _ n ih =>
    intro j hj
    refine Pl.pos (fun n1 h1 => p_36_7 σ x (nI j - 1) ?_)
    cases j with
    | zero => exact ⟨fun _ => ⟨rfl, rfl⟩, fun c => absurd (by decide) c⟩
    | succ j =>
      rw [nI_pred, nI_clamp (by omega), (hB.2 j (by omega)).1, (hB.2 j (by omega)).2, hT]
      obtain ⟨c, hc, e⟩ := hx
      obtain ⟨cc, hcc, e2⟩ := hV j (by omega)
      have go : ¬ (W j = T ∧ suF r (C j) = suF r x) → Pl PRG n1 d 36 64 [(0, .ref 22), (1, .int x), (2, .int (nI j))] [] σ (fun v s' => s' = σ ∧ v = some (.int (bfF r C W T (suF r x) (j + 1)))) := fun hn => Pl.pos (fun n2 h2 => p_36_64 σ x (nI j) (by
        rw [sub1, show bfF r C W T (suF r x) (j + 1) = bfF r C W T (suF r x) j from if_neg hn]
        exact ih n2 (by omega) j (by omega)))
      refine ⟨fun c => absurd c (nI_pos (by omega)), fun _ _ => ⟨fun c1 _ _ _ => ?_, fun c1 => go (fun h => c1 h.1)⟩⟩
      rw [hC.su hL e hc, hC.su hL e2 hcc]
      refine ⟨fun c2 _ w2 σ2 h2 => ?_, fun c2 => go (fun h => c2 h.2)⟩
      obtain ⟨rfl, rfl⟩ := rc9 h2 hL hC ⟨cc, hcc, e2⟩
      exact ⟨rfl, by rw [show bfF r C W T (suF r x) (j + 1) = rkG r (C j) from if_pos ⟨c1, c2⟩]⟩
theorem g22_36 {T : Int32} (h : RCx PRG n 36 [.ref 22, .int x] σ (some (.int w)) σ1) (hL : lOK s r t) (hC : LC s r t σ) (hB : gB 22 25 26 C W m σ) (hV : isC s r C m) (hm : m ≤ 16) (hx : ∃ c, c < s * r ∧ x = nI c) (hT : σ.1 22 6 = T) : σ1 = σ ∧ w = bfF r C W T (suF r x) m := by
  have hq := h.by (Q := fun v s' => s' = σ ∧ v = some (.int (bfF r C W T (suF r x) m))) (fun n d => p_36_0 σ x (by
    rw [hB.1]
    exact g22_36l hL hC hB hV hm hx hT n m (Nat.le_refl _)))
  obtain ⟨a, b⟩ := hq
  cases b
  exact ⟨a, rfl⟩
theorem g22_45l {d : Nat} (hL : lOK s r t) (hC : LC s r t σ) (hB : gB 22 25 26 C W m σ) (hV : isC s r C m) (hm : m ≤ 16) (ha : a + 4 ≤ m) : ∀ n j, j ≤ 3 → Pl PRG n d 45 6 [(0, .ref 22), (1, .int (nI a)), (2, .int (nI (bsF r t C a j))), (3, .int (nI (a + j + 1)))] [] σ (fun v s' => s' = σ ∧ v = some (.int (nI (bsF r t C a 3)))) := by
  intro n
  induction n using Nat.strongRecOn with
  | _ n ih =>
    intro j hj
    refine Pl.pos (fun n1 h1 => p_45_6 σ (nI a) _ _ ?_)
    have hr := bsF_rg (r := r) (t := t) (C := C) a j
    rw [hB.1, show nI a + (4 : Int32) = nI (a + 4) by rw [nI_4, nI_add]]
    by_cases e : j = 3
    · subst e
      refine ⟨fun c => ?_, fun c => ⟨fun _ => Pl.pos (fun n2 h2 => p_45_106 σ _ ⟨rfl, rfl⟩), fun c2 => absurd ((nI_leI (by omega) (by omega)).mpr (by omega)) c2⟩⟩
      exact Pl.pos (fun n2 h2 => p_45_106 σ _ ⟨rfl, rfl⟩)
    · have h6 : a + j + 1 < m := by omega
      obtain ⟨c1, hc1, e1⟩ := hV (a + j + 1) (by omega)
      obtain ⟨c2, hc2, e2⟩ := hV (bsF r t C a j) (by omega)
      rw [nI_clamp (by omega), nI_clamp (by omega), (hB.2 _ h6).1, (hB.2 _ (show bsF r t C a j < m by omega)).1, hC.su hL e1 hc1, hC.su hL e2 hc2, hC.2.2.1]
      have keep : bxF r t (C (a + j + 1)) (C (bsF r t C a j)) = false → Pl PRG n1 d 45 100 [(0, .ref 22), (1, .int (nI a)), (2, .int (nI (bsF r t C a j))), (3, .int (nI (a + j + 1)))] [] σ (fun v s' => s' = σ ∧ v = some (.int (nI (bsF r t C a 3)))) := fun hb => Pl.pos (fun n2 h2 => p_45_100 σ _ _ _ (by
        rw [nI_1]
        have := ih n2 (by omega) (j + 1) (by omega)
        rw [show bsF r t C a (j + 1) = bsF r t C a j by (show (if _ then _ else _) = _); rw [hb]; rfl] at this
        exact this))
      have take : bxF r t (C (a + j + 1)) (C (bsF r t C a j)) = true → Pl PRG n1 d 45 98 [(0, .ref 22), (1, .int (nI a)), (3, .int (nI (a + j + 1)))] [] σ (fun v s' => s' = σ ∧ v = some (.int (nI (bsF r t C a 3)))) := fun hb => Pl.pos (fun n2 h2 => p_45_98 σ _ _ (Pl.pos (fun n3 h3 => p_45_100 σ _ _ _ (by
        rw [nI_1]
        have := ih n3 (by omega) (j + 1) (by omega)
        rw [show bsF r t C a (j + 1) = a + j + 1 by (show (if _ then _ else _) = _); rw [hb]; rfl] at this
        exact this))))
      refine ⟨fun c => absurd ((nI_leI (by omega) (by omega)).mp c) (by omega), fun _ => ⟨fun c => absurd ((nI_leI (by omega) (by omega)).mp c) (by omega), fun _ _ _ _ _ => ⟨fun c _ _ => ⟨fun c2 => keep ?_, fun c2 => take ?_⟩, fun c => ⟨fun c2 => take ?_, fun c2 => keep ?_⟩⟩⟩⟩
      · unfold bxF; rw [if_pos c]; exact decide_eq_false (fun e => by
          rw [Int32.lt_iff_toInt_lt] at e
          rw [Int32.le_iff_toInt_le] at c2
          omega)
      · unfold bxF; rw [if_pos c]; exact decide_eq_true (by
          rw [Int32.lt_iff_toInt_lt]
          rw [Int32.le_iff_toInt_le] at c2
          omega)
      · unfold bxF; rw [if_neg c]; exact decide_eq_true c2
      · unfold bxF; rw [if_neg c]; exact decide_eq_false c2
theorem g22_45 (h : RCx PRG n 45 [.ref 22, .int (nI a)] σ (some (.int w)) σ1) (hL : lOK s r t) (hC : LC s r t σ) (hB : gB 22 25 26 C W m σ) (hV : isC s r C m) (hm : m ≤ 16) (ha : a + 4 ≤ m) : σ1 = σ ∧ w = nI (bsF r t C a 3) := by
  have hq := h.by (Q := fun v s' => s' = σ ∧ v = some (.int (nI (bsF r t C a 3)))) (fun n d => p_45_0 σ (nI a) (by
    rw [nI_1]
    exact g22_45l hL hC hB hV hm ha n 0 (by decide)))
  obtain ⟨a, b⟩ := hq
  cases b
  exact ⟨a, rfl⟩
theorem g22_62 {ld : Int32} (h : RCx PRG n 62 [.ref 22] σ (some (.int w)) σ1) (hL : lOK s r t) (hC : LC s r t σ) (h7 : σ.1 22 7 = nI m) (hm : 1 ≤ m ∧ m ≤ 16) (hT : σ.1 22 6 = W (m - 1)) (hZ : m % 4 = 0 → σ.1 33 (m / 4 - 1) = W (bsF r t C (m - 4) 3)) : σ1 = σ ∧ w = tnF (s * r) r t ld C W m := by
  have hN := hL.2.2.2.2.1
  have hq := h.by (Q := fun v s' => s' = σ ∧ v = some (.int (tnF (s * r) r t ld C W m))) (fun n d => p_62_0 σ (by
    rw [h7, hC.2.2.2.1, rem_4 (by omega), div_4 (by omega), hT]
    unfold tnF
    refine ⟨fun c => ?_, fun c => ?_⟩
    · have hlt := (nI_ltI (by omega) (by omega)).mp c
      rw [if_neg (by omega)]
      refine ⟨fun c2 _ => ?_, fun c2 => ?_⟩
      · have c3 : m % 4 = 0 := (nI_eq (b := 0) (by omega) (by decide)).mp c2
        rw [if_pos c3, if_neg (by omega), show nI (m / 4) - 1 = nI (m / 4 - 1) from nI_subI (a := m / 4) (b := 1) (by omega), nI_clamp (by omega), hZ c3]
        exact ⟨rfl, rfl⟩
      · have c3 : ¬ m % 4 = 0 := fun e => c2 (by rw [e]; rfl)
        rw [if_neg c3]
        exact ⟨rfl, rfl⟩
    · have hge : s * r ≤ m := by
        rcases Nat.lt_or_ge m (s * r) with g | g
        · exact absurd (nI_lt g (by omega)) c
        · exact g
      rw [if_pos hge]
      exact ⟨rfl, rfl⟩))
  obtain ⟨a, b⟩ := hq
  cases b
  exact ⟨a, rfl⟩
end G22
