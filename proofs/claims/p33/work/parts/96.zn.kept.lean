/-! the sums of the cards are kept by play, revoke, undo, hold and restore: the class -/
def adI (s r : Nat) (t : Int32) (nc : Nat) (K S : Nat → Int32) (PP : PPt) (D C W : Nat → Int32) (m : Nat) (σ : Sg) : Prop := ∀ i, i < m → σ.1 31 i = apI r nc K S PP C W i ∧ σ.1 32 i = lyI s r t nc K S PP D C W i
theorem adQ.succ {s r m nc : Nat} {t x y : Int32} {D C W K S : Nat → Int32} {PP : PPt} {σ σ1 : Sg} (h : adQ (apI r nc K S PP (upF C m x) (upF W m y) m) (lyI s r t nc K S PP D (upF C m x) (upF W m y) m) m σ σ1) (ha : adI s r t nc K S PP D C W m σ) : adI s r t nc K S PP D (upF C m x) (upF W m y) (m + 1) σ1 := by
  intro i hi
  by_cases e : i = m
  · subst e; exact ⟨h.1, h.2.1⟩
  · obtain ⟨b1, b2⟩ := h.2.2 i e
    obtain ⟨a1, a2⟩ := ha i (by omega)
    rw [b1, b2, a1, a2]
    exact ⟨apI_cg (fun k hk => (upF_off (by omega)).symm) (fun k hk => (upF_off (by omega)).symm), lyI_cg (fun k hk => (upF_off (by omega)).symm) (fun k hk => (upF_off (by omega)).symm)⟩
theorem g22_67_46A {s r m n nc : Nat} {t ld : Int32} {D C W K S : Nat → Int32} {PP : PPt} {σ σ1 : Sg} (h : RCx PRG n 67 [.ref 22, .ref 46] σ none σ1) (hL : lOK s r t) (hJ : jC s r t nc K S PP σ) (hP : gPP nc PP) (hG : gC46 s r t D ld C W m σ) (hV : gV s r t D ld C W m) : adI s r t nc K S PP D C W m σ1 := by
  have hC := hJ.1
  have hm := hV.2.1
  have hN := hL.2.2.2.2.1
  have loop : ∀ d n j (σ' : Sg), j ≤ m → gC22 s r t D ld C W j σ' → exc E22 σ σ' → adI s r t nc K S PP D C W j σ' → Pl PRG n d 67 38 [(0, .ref 22), (1, .ref 46), (2, .int (nI j))] [] σ' (fun _ s' => adI s r t nc K S PP D C W m s') := by
    intro d n
    induction n using Nat.strongRecOn with
    | _ n ih =>
      intro j σ' hj hg hf ha
      refine Pl.pos (fun n1 h1 => p_67_b22_46_38 σ' (nI j) ?_)
      have hH := gD46.fr hG hf rfl
      rw [hH.2.2.2.1]
      refine ⟨fun c => ?_, fun c _ σ2 h2 => ?_⟩
      · have := (nI_leI (a := m) (b := j) (by omega) (by omega)).mp c
        have e : j = m := by omega
        subst e
        exact ha
      · have hlt : j < m := nle_of (a := m) (b := j) (by omega) (by omega) c
        rw [nI_clamp (by omega), (hH.2.2.2.2.2.2.1 j hlt).1] at h2
        obtain ⟨k1, k2⟩ := g22_63 h2 hL (hC.fr hf rfl rfl rfl) hg (hV.less (by omega)) (by omega) (hV.2.2.1 j hlt)
        have q := (g22_63A h2 hL (hJ.ex hf rfl) hP hg (hV.less (by omega)) (by omega) (hV.2.2.1 j hlt)).succ ha
        rw [upF_id rfl, upF_id (hV.2.2.2.1 j hlt).symm] at k1 q
        rw [nI_1]
        exact ih n1 (by omega) (j + 1) σ2 (by omega) k1 (hf.trans k2) q
  refine h.by (Q := fun _ s' => adI s r t nc K S PP D C W m s') (fun n d => p_67_b22_46_0 σ (fun σ2 h2 σ3 h3 => ?_))
  rw [hG.2.2.2.2.1 0 (by decide), hG.2.2.2.2.1 1 (by decide), hG.2.2.2.2.1 2 (by decide), hG.2.2.2.2.1 3 (by decide)] at h2
  obtain ⟨k1, k2⟩ := g22_32 h2 hL C W
  have hH := gD46.fr hG k2 rfl
  rw [hH.2.1] at h3
  have e := g22_31 h3
  subst e
  obtain ⟨l1, l2⟩ := g22_led hL k1 (x := ld) (y := (σ2.1 22 17) + (1 : Int32))
  refine loop d n 0 _ (Nat.zero_le _) (l1.eqD (fun p hp => ?_) (fun i hi => absurd hi (Nat.not_lt_zero _))) (k2.trans l2) (fun i hi => absurd hi (Nat.not_lt_zero _))
  rcases (show p = 0 ∨ p = 1 ∨ p = 2 ∨ p = 3 by omega) with rfl | rfl | rfl | rfl <;> rfl
theorem g22_67_58A {s r m n nc : Nat} {t ld : Int32} {D C W K S : Nat → Int32} {PP : PPt} {σ σ1 : Sg} (h : RCx PRG n 67 [.ref 22, .ref 58] σ none σ1) (hL : lOK s r t) (hJ : jC s r t nc K S PP σ) (hP : gPP nc PP) (hG : gC58 s r t D ld C W m σ) (hV : gV s r t D ld C W m) : adI s r t nc K S PP D C W m σ1 := by
  have hC := hJ.1
  have hm := hV.2.1
  have hN := hL.2.2.2.2.1
  have loop : ∀ d n j (σ' : Sg), j ≤ m → gC22 s r t D ld C W j σ' → exc E22 σ σ' → adI s r t nc K S PP D C W j σ' → Pl PRG n d 67 38 [(0, .ref 22), (1, .ref 58), (2, .int (nI j))] [] σ' (fun _ s' => adI s r t nc K S PP D C W m s') := by
    intro d n
    induction n using Nat.strongRecOn with
    | _ n ih =>
      intro j σ' hj hg hf ha
      refine Pl.pos (fun n1 h1 => p_67_b22_58_38 σ' (nI j) ?_)
      have hH := gD58.fr hG hf rfl
      rw [hH.2.2.2.1]
      refine ⟨fun c => ?_, fun c _ σ2 h2 => ?_⟩
      · have := (nI_leI (a := m) (b := j) (by omega) (by omega)).mp c
        have e : j = m := by omega
        subst e
        exact ha
      · have hlt : j < m := nle_of (a := m) (b := j) (by omega) (by omega) c
        rw [nI_clamp (by omega), (hH.2.2.2.2.2.2.1 j hlt).1] at h2
        obtain ⟨k1, k2⟩ := g22_63 h2 hL (hC.fr hf rfl rfl rfl) hg (hV.less (by omega)) (by omega) (hV.2.2.1 j hlt)
        have q := (g22_63A h2 hL (hJ.ex hf rfl) hP hg (hV.less (by omega)) (by omega) (hV.2.2.1 j hlt)).succ ha
        rw [upF_id rfl, upF_id (hV.2.2.2.1 j hlt).symm] at k1 q
        rw [nI_1]
        exact ih n1 (by omega) (j + 1) σ2 (by omega) k1 (hf.trans k2) q
  refine h.by (Q := fun _ s' => adI s r t nc K S PP D C W m s') (fun n d => p_67_b22_58_0 σ (fun σ2 h2 σ3 h3 => ?_))
  rw [hG.2.2.2.2.1 0 (by decide), hG.2.2.2.2.1 1 (by decide), hG.2.2.2.2.1 2 (by decide), hG.2.2.2.2.1 3 (by decide)] at h2
  obtain ⟨k1, k2⟩ := g22_32 h2 hL C W
  have hH := gD58.fr hG k2 rfl
  rw [hH.2.1] at h3
  have e := g22_31 h3
  subst e
  obtain ⟨l1, l2⟩ := g22_led hL k1 (x := ld) (y := (σ2.1 22 17) + (1 : Int32))
  refine loop d n 0 _ (Nat.zero_le _) (l1.eqD (fun p hp => ?_) (fun i hi => absurd hi (Nat.not_lt_zero _))) (k2.trans l2) (fun i hi => absurd hi (Nat.not_lt_zero _))
  rcases (show p = 0 ∨ p = 1 ∨ p = 2 ∨ p = 3 by omega) with rfl | rfl | rfl | rfl <;> rfl

section Zn
variable {l : LA} {o : Option GA} {A : AA} {PP : PPt} {n : Nat} {x w : Int32} {σ σ1 : Sg}
theorem rc63A {g : GA} (h : RCx PRG n 63 [.ref 22, .int x] σ none σ1) (hl : lV l) (hC : lC l σ) (hc : jCl l PP σ) (hP : gPP l.2.2.2.1 PP) (ho : cG22 l (some g) σ) (hv : vG l (some g)) (hb : inB l g x = true) (ha : adG l PP (some g) σ) : adG l PP (some (putG l g x)) σ1 := by
  obtain ⟨c, hc', ex, hm, -⟩ := inB_of hl hv hb
  exact (g22_63A h hl.1 ⟨hC.1, hc, hC.2⟩ hP ho hv hm ⟨c, hc', ex⟩).succ ha
theorem t_playA (h : RCx PRG n 136 [.ref 0, .int x] σ (some (.int w)) σ1) (hl : lV l) (hC : lC l σ) (hc : jCl l PP σ) (hP : gPP l.2.2.2.1 PP) (ho : cG22 l o σ) (hv : vG l o) (ha : adG l PP o σ) : adG l PP (fPlay l x o).2 σ1 := by
  exact h.by (Q := fun v s' => adG l PP (fPlay l x o).2 s') (fun n d => p_136_0 σ x (fun w2 σ2 h2 _ => by
    obtain ⟨rfl, k⟩ := rc135 h2 hl hC ho hv
    refine ⟨fun z => ?_, fun z w4 σ4 h4 => ?_⟩
    · rcases k with ⟨e, -⟩ | ⟨-, q⟩
      · rw [e] at z; exact absurd z (by decide)
      · cases o with
        | none => exact ha
        | some g =>
          have q : inB l g x = false := q
          rw [fPlay_s, q]
          exact ha
    · rcases k with ⟨-, q⟩ | ⟨e, -⟩
      · obtain ⟨rfl, rfl⟩ := rc35 h4 hl hC ho hv
        cases o with
        | none => exact absurd q Bool.false_ne_true
        | some g =>
          have q : inB l g x = true := q
          have e0 : fPlay l x (some g) = if (myG l g >>> (x &&& 31)) &&& 1 = 0 then (-2, some g) else (nI (g.2.2.2.2 + 1), some (putG l g x)) := by
            rw [fPlay_s, q]; rfl
          rw [e0]
          show ((myG l g >>> (x &&& 31)) &&& 1 = 0 → _) ∧ _
          refine ⟨fun c => ?_, fun c σ6 h6 => ?_⟩
          · rw [if_pos c]; exact ha
          · obtain ⟨k1, k2, k3⟩ := rc63 h6 hl hC ho hv q
            have c' : ¬ (myG l g >>> (x &&& 31)) &&& 1 = 0 := c
            rw [if_neg c']
            exact rc63A h6 hl hC hc hP ho hv q ha
      · exact absurd e z))
theorem t_revA (h : RCx PRG n 137 [.ref 0, .int x] σ (some (.int w)) σ1) (hl : lV l) (hC : lC l σ) (hc : jCl l PP σ) (hP : gPP l.2.2.2.1 PP) (ho : cG22 l o σ) (hv : vG l o) (ha : adG l PP o σ) : adG l PP (fRev l x o).2 σ1 := by
  exact h.by (Q := fun v s' => adG l PP (fRev l x o).2 s') (fun n d => p_137_0 σ x (fun w2 σ2 h2 _ => by
    obtain ⟨rfl, k⟩ := rc135 h2 hl hC ho hv
    refine ⟨fun z => ?_, fun z σ4 h4 => ?_⟩
    · rcases k with ⟨e, -⟩ | ⟨-, q⟩
      · rw [e] at z; exact absurd z (by decide)
      · cases o with
        | none => exact ha
        | some g =>
          have q : inB l g x = false := q
          rw [fRev_s, q]
          exact ha
    · rcases k with ⟨-, q⟩ | ⟨e, -⟩
      · cases o with
        | none => exact absurd q Bool.false_ne_true
        | some g =>
          have q : inB l g x = true := q
          have e0 : fRev l x (some g) = (nI (g.2.2.2.2 + 1), some (putG l g x)) := by
            rw [fRev_s, q]; rfl
          obtain ⟨k1, k2, k3⟩ := rc63 h4 hl hC ho hv q
          rw [e0]
          exact rc63A h4 hl hC hc hP ho hv q ha
      · exact absurd e z))
theorem t_holdA (h : RCx PRG n 174 [.ref 0, .int x] σ (some (.int w)) σ1) (hv : V7 A) (hC : C7 A σ) : ∀ q, q = 6 ∨ q = 7 ∨ q = 8 ∨ q = 31 ∨ q = 32 → ∀ j, σ1.1 q j = σ.1 q j := by
  exact h.by (Q := fun v s' => ∀ q, q = 6 ∨ q = 7 ∨ q = 8 ∨ q = 31 ∨ q = 32 → ∀ j, s'.1 q j = σ.1 q j) (fun n d => p_174_0 σ x (by
    obtain ⟨c1, c2, c3, c4, c5⟩ := hC
    have no : ∀ n2, (fHold A x = (0, A)) → Pl PRG n2 d 174 19 [] [] σ (fun v s' => ∀ q, q = 6 ∨ q = 7 ∨ q = 8 ∨ q = 31 ∨ q = 32 → ∀ j, s'.1 q j = σ.1 q j) := fun n2 he => Pl.pos (fun n3 _ => p_174_19 σ (fun _ _ _ => rfl))
    have off : ¬ x = 0 → ¬ x = 1 → fHold A x = (0, A) := fun n0 n1 => by
      unfold fHold
      split
      · rfl
      · rw [if_neg n0, if_neg n1]
    refine ⟨fun c => no _ (off (fun e => by rw [e] at c; exact absurd c (by decide)) (fun e => by rw [e] at c; exact absurd c (by decide))), fun c => ⟨fun c' => no _ (off (fun e => by rw [e] at c'; exact absurd c' (by decide)) (fun e => by rw [e] at c'; exact absurd c' (by decide))), fun c' => ?_⟩⟩
    cases hg : A.2.1 with
    | none =>
      rw [hg] at c2
      refine ⟨fun _ => no _ (by unfold fHold; rw [hg]), fun z => absurd c2.1 z⟩
    | some g =>
      have hG : gC22 A.1.1 A.1.2.1 A.1.2.2.1 g.1 g.2.1 g.2.2.1 g.2.2.2.1 g.2.2.2.2 σ := by rw [hg] at c2; exact c2
      have hV : gV A.1.1 A.1.2.1 A.1.2.2.1 g.1 g.2.1 g.2.2.1 g.2.2.2.1 g.2.2.2.2 := by have := hv.2.1; rw [hg] at this; exact this
      refine ⟨fun z => by rw [hG.1] at z; exact absurd z (by decide), fun _ => ⟨fun z σ2 h2 => ?_, fun z σ2 h2 => ?_⟩⟩
      · subst z
        obtain ⟨k1, k2⟩ := g46_67_22 h2 hv.1.1 c1.1 hG hV
        exact fun q hq j => k2 q (by omega) (by rcases hq with rfl | rfl | rfl | rfl | rfl <;> rfl) j
      · subst z
        obtain ⟨k1, k2⟩ := g58_67_22 h2 hv.1.1 c1.1 hG hV
        exact fun q hq j => k2 q (by omega) (by rcases hq with rfl | rfl | rfl | rfl | rfl <;> rfl) j))
theorem t_restA (h : RCx PRG n 175 [.ref 0, .int x] σ (some (.int w)) σ1) (hv : V7 A) (hC : C7 A σ) (hc : jCl A.1 PP σ) (hP : gPP A.1.2.2.2.1 PP) (ha : adG A.1 PP A.2.1 σ) : adG (fRest A x).2.1 PP (fRest A x).2.2.1 σ1 := by
  exact h.by (Q := fun v s' => adG (fRest A x).2.1 PP (fRest A x).2.2.1 s') (fun n d => p_175_0 σ x (by
    have hC0 := hC
    obtain ⟨c1, c2, c3, c4, c5⟩ := hC
    have no : ∀ n2, (fRest A x = (0, A)) → Pl PRG n2 d 175 21 [] [] σ (fun v s' => adG (fRest A x).2.1 PP (fRest A x).2.2.1 s') := fun n2 he => Pl.pos (fun n3 _ => p_175_21 σ (by rw [he]; exact ha))
    have off : ¬ x = 0 → ¬ x = 1 → fRest A x = (0, A) := fun n0 n1 => by
      unfold fRest
      rw [if_neg n0, if_neg n1]
    refine ⟨fun c => no _ (off (fun e => by rw [e] at c; exact absurd c (by decide)) (fun e => by rw [e] at c; exact absurd c (by decide))), fun c => ⟨fun c' => no _ (off (fun e => by rw [e] at c'; exact absurd c' (by decide)) (fun e => by rw [e] at c'; exact absurd c' (by decide))), fun c' => ⟨fun z => ?_, fun z => ?_⟩⟩⟩
    · subst z
      cases hg : A.2.2.1 with
      | none =>
        rw [hg] at c3
        exact ⟨fun _ => no _ (by unfold fRest; rw [if_pos rfl, hg]), fun z => absurd c3.1 z⟩
      | some g =>
        have hG : gC46 A.1.1 A.1.2.1 A.1.2.2.1 g.1 g.2.1 g.2.2.1 g.2.2.2.1 g.2.2.2.2 σ := by rw [hg] at c3; exact c3
        have hV : gV A.1.1 A.1.2.1 A.1.2.2.1 g.1 g.2.1 g.2.2.1 g.2.2.2.1 g.2.2.2.2 := by have := hv.2.2.1; rw [hg] at this; exact this
        refine ⟨fun z => by rw [hG.1] at z; exact absurd z (by decide), fun _ => ⟨fun _ σ2 h2 => ?_, fun z => absurd z (by decide)⟩⟩
        obtain ⟨k1, k2⟩ := g22_67_46 h2 hv.1.1 c1.1 hG hV
        have e : fRest A 0 = (1, upG A (some g)) := by unfold fRest; rw [if_pos rfl, hg]
        rw [e]
        exact g22_67_46A h2 hv.1.1 ⟨c1.1, hc, c1.2⟩ hP hG hV
    · subst z
      cases hg : A.2.2.2.1 with
      | none =>
        rw [hg] at c4
        exact ⟨fun _ => no _ (by unfold fRest; rw [if_neg (by decide), if_pos rfl, hg]), fun z => absurd c4.1 z⟩
      | some g =>
        have hG : gC58 A.1.1 A.1.2.1 A.1.2.2.1 g.1 g.2.1 g.2.2.1 g.2.2.2.1 g.2.2.2.2 σ := by rw [hg] at c4; exact c4
        have hV : gV A.1.1 A.1.2.1 A.1.2.2.1 g.1 g.2.1 g.2.2.1 g.2.2.2.1 g.2.2.2.2 := by have := hv.2.2.2.1; rw [hg] at this; exact this
        refine ⟨fun z => by rw [hG.1] at z; exact absurd z (by decide), fun _ => ⟨fun z => absurd z (by decide), fun _ σ2 h2 => ?_⟩⟩
        obtain ⟨k1, k2⟩ := g22_67_58 h2 hv.1.1 c1.1 hG hV
        have e : fRest A 1 = (1, upG A (some g)) := by unfold fRest; rw [if_neg (by decide), if_pos rfl, hg]
        rw [e]
        exact g22_67_58A h2 hv.1.1 ⟨c1.1, hc, c1.2⟩ hP hG hV))
theorem adG.ex (h : adG l PP o σ) (hf : ∀ q, q = 31 ∨ q = 32 → ∀ j, σ1.1 q j = σ.1 q j) : adG l PP o σ1 := by
  cases o with
  | none => trivial
  | some g => exact fun i hi => ⟨(hf 31 (by omega) i).trans (h i hi).1, (hf 32 (by omega) i).trans (h i hi).2⟩
theorem adG_undo (h : adG l PP o σ) : adG l PP (fUndo o).2 σ := by
  cases o with
  | none => trivial
  | some g =>
    rw [fUndo_s]
    split
    · exact h
    · exact fun i hi => h i (by have : i < g.2.2.2.2 - 1 := hi; omega)
theorem adG_lead (h : adG l PP o σ) : adG l PP (fLead x o).2 σ := by
  cases o with
  | none => trivial
  | some g =>
    rw [fLead_s]
    split
    · rename_i c
      exact fun i hi => absurd (show i < g.2.2.2.2 from hi) (by omega)
    · exact h
theorem adG_hands {a b c : Int32} (h : adG l PP o σ) : adG l PP (fHands l a b c o).2 σ := by
  unfold fHands
  split
  · exact fun i hi => absurd hi (Nat.not_lt_zero _)
  · exact h
end Zn
