/-! the reader of the class, told by the grammar -/
def orE (a b : Option (Nat × Nat)) : Option (Nat × Nat) := match a with
  | some x => some x
  | none => b
def evO (TT : List Tk) (s : GSt) (i : Nat) : Option (Nat × Nat) := if evT TT s i = 0 then none else some (evT TT s i, i)
theorem evs_step {TT : List Tk} {i : Nat} {s : GSt} (h : pr TT i = .inr s) : evs TT (i + 1) = orE (evs TT i) (evO TT s i) := by
  show (match evs TT i with
    | some e => some e
    | none => match pr TT i with
      | .inr s => if evT TT s i = 0 then none else some (evT TT s i, i)
      | .inl _ => none) = _
  cases hv : evs TT i with
  | some e => rfl
  | none => rw [h]; rfl
theorem orE_none (a : Option (Nat × Nat)) : orE a none = a := by cases a <;> rfl
def EVd (TT : List Tk) (o : Option (Nat × Nat)) (σ : Sg) : Prop := match o with
  | none => σ.1 15 9 = 0
  | some x => σ.1 15 9 = nI x.1 ∧ σ.1 15 10 = nI (plT TT x.2) ∧ ¬ x.1 = 0 ∧ x.1 < 100
def PCo (TT : List Tk) (i : Nat) (o : Option (Nat × Nat)) (σ : Sg) : Prop := σ.1 15 4 = nI i ∧ σ.1 15 5 = nI (kdT TT i) ∧ i ≤ 400 ∧ σ.1 15 7 = 0 ∧ EVd TT o σ ∧ σ.1 15 8 = -1
def FAc (TT : List Tk) (σ : Sg) : Prop := ∃ i f, stopAt TT i f ∧ ¬ f = 0 ∧ f ≤ 2 ∧ i ≤ 400 ∧ σ.1 15 7 = nI f ∧ σ.1 15 8 = nI (plT TT i)
def FRc (σ σ1 : Sg) : Prop := (∀ q x, ¬ q = 16 → σ1.2 q x = σ.2 q x) ∧ (∀ q x, ¬ q = 15 → ¬ q = 8 → ¬ (q = 3 ∧ x = 9) → σ1.1 q x = σ.1 q x) ∧ σ1.1 15 3 = σ.1 15 3 ∧ σ1.1 15 6 = σ.1 15 6
theorem FRc.refl (σ : Sg) : FRc σ σ := ⟨fun _ _ _ => rfl, fun _ _ _ _ _ => rfl, rfl, rfl⟩
theorem FRc.trans {σ σ1 σ2 : Sg} (h : FRc σ σ1) (h' : FRc σ1 σ2) : FRc σ σ2 := ⟨fun q x a => (h'.1 q x a).trans (h.1 q x a), fun q x a b c => (h'.2.1 q x a b c).trans (h.2.1 q x a b c), h'.2.2.1.trans h.2.2.1, h'.2.2.2.trans h.2.2.2⟩
theorem FRc.put {σ σ1 : Sg} {j : Nat} {x : Int32} (h : FRc σ σ1) (hj : ¬ j = 3 ∧ ¬ j = 6) : FRc σ (s1 σ1 15 j x) := ⟨h.1, fun q y a b c => by rw [s1_off (fun e => a e.1)]; exact h.2.1 q y a b c, by rw [s1_off (fun e => hj.1 e.2.symm)]; exact h.2.2.1, by rw [s1_off (fun e => hj.2 e.2.symm)]; exact h.2.2.2⟩
theorem CQ.fr {TT : List Tk} {σ σ1 : Sg} (h : CQ TT σ) (hF : FRc σ σ1) : CQ TT σ1 := fun m t hm ht hg => by
  obtain ⟨h1, h2, h3, h4⟩ := h m t hm ht hg
  have e := hF.1 20 m (by decide)
  refine ⟨by rw [hF.2.1 18 m (by decide) (by decide) (by omega)]; exact h1, by rw [hF.2.1 19 m (by decide) (by decide) (by omega)]; exact h2, fun z => by rw [e]; exact h3 z, fun z => by rw [e]; exact h4 z⟩
theorem CQ.put15 {TT : List Tk} {σ : Sg} {j : Nat} {x : Int32} (h : CQ TT σ) : CQ TT (s1 σ 15 j x) := fun m t hm ht hg => by
  obtain ⟨h1, h2, h3, h4⟩ := h m t hm ht hg
  exact ⟨by rw [s1_off (by omega)]; exact h1, by rw [s1_off (by omega)]; exact h2, h3, h4⟩
/-- all fields of the reader are as they were -/
def same15 (σ σ1 : Sg) : Prop := ∀ j, σ1.1 15 j = σ.1 15 j
theorem PCo.same {TT : List Tk} {i : Nat} {o : Option (Nat × Nat)} {σ σ1 : Sg} (h : PCo TT i o σ) (hS : same15 σ σ1) : PCo TT i o σ1 := by
  obtain ⟨h1, h2, h3, h4, h5, h6⟩ := h
  refine ⟨by rw [hS]; exact h1, by rw [hS]; exact h2, h3, by rw [hS]; exact h4, ?_, by rw [hS]; exact h6⟩
  unfold EVd at h5 ⊢
  cases o with
  | none => rw [hS]; exact h5
  | some x => rw [hS, hS]; exact h5
theorem FAc.same {TT : List Tk} {σ σ1 : Sg} (h : FAc TT σ) (hS : same15 σ σ1) : FAc TT σ1 := by
  obtain ⟨i, f, h1, h2, h3, h4, h5, h6⟩ := h
  exact ⟨i, f, h1, h2, h3, h4, by rw [hS]; exact h5, by rw [hS]; exact h6⟩
theorem EVd.of {TT : List Tk} {o : Option (Nat × Nat)} {σ σ1 : Sg} (h : EVd TT o σ) (h9 : σ1.1 15 9 = σ.1 15 9) (h10 : σ1.1 15 10 = σ.1 15 10) : EVd TT o σ1 := by
  unfold EVd at h ⊢
  cases o with
  | none => rw [h9]; exact h
  | some x => rw [h9, h10]; exact h
section Rc
variable {TT : List Tk} {n i k : Nat} {o : Option (Nat × Nat)} {s : GSt} {σ σ1 : Sg} {w : Int32}
theorem rc101 (hW : WT TT) (h : RCx PRG n 101 [.ref 15, .int (nI k)] σ (some (.int w)) σ1) (hC : CQ TT σ) (hP : PCo TT i o σ) (hs : pr TT i = .inr s) (hk : k ≤ 36) (h1 : kdT TT i = k → ∃ q, gs s.1.1 s.1.2 s.2.2.2.1.length (kdT TT i) = .inr q) (h2 : ¬ kdT TT i = k → gs s.1.1 s.1.2 s.2.2.2.1.length (kdT TT i) = .inl 1) : FRc σ σ1 ∧ σ1.2 = σ.2 ∧ ((w = 1 ∧ kdT TT i = k ∧ i < 400 ∧ PCo TT (i + 1) o σ1) ∨ (w = 0 ∧ FAc TT σ1)) := by
  obtain ⟨p1, p2, p3, p4, p5, p6⟩ := hP
  have hkd := (kd_le hW hs).1
  have hat := CQ_at hW hC hs p3
  have kI : nI (kdT TT i) = nI k ↔ kdT TT i = k := nI_eq (by omega) (by omega)
  have at46 : ∀ m d, (kdT TT i = k → i = 400) → Pl PRG m d 101 46 [(0, .ref 15), (1, .int (nI k))] [] σ (fun v σ' => FRc σ σ' ∧ σ'.2 = σ.2 ∧ ((v = some (.int 1) ∧ kdT TT i = k ∧ i < 400 ∧ PCo TT (i + 1) o σ') ∨ (v = some (.int 0) ∧ FAc TT σ'))) := by
    intro m d he
    refine Pl.pos (fun m2 _ => p_101_46 σ (nI k) ?_)
    rw [p1, p2, nI_clamp (by omega), hat.2.1]
    refine ⟨fun c _ => ⟨((FRc.refl σ).put (by decide)).put (by decide), rfl, Or.inr ⟨rfl, ?_⟩⟩, fun c _ => ⟨((FRc.refl σ).put (by decide)).put (by decide), rfl, Or.inr ⟨rfl, ?_⟩⟩⟩
    · obtain rfl := he (kI.mp c)
      obtain ⟨q, hq⟩ := h1 (kI.mp c)
      exact ⟨400, 2, stop_2 hs hq, by decide, by decide, by omega, by rw [s1_off (by omega), s1_on]; rfl, s1_on⟩
    · exact ⟨i, 1, stop_f hs (h2 (fun e => c (kI.mpr e))), by decide, by decide, p3, by rw [s1_off (by omega), s1_on]; rfl, s1_on⟩
  have hq := h.by (Q := fun v σ' => FRc σ σ' ∧ σ'.2 = σ.2 ∧ ((v = some (.int 1) ∧ kdT TT i = k ∧ i < 400 ∧ PCo TT (i + 1) o σ') ∨ (v = some (.int 0) ∧ FAc TT σ'))) (fun m d => p_101_0 σ (nI k) (by
    rw [p2]
    refine ⟨fun c => ⟨fun c2 => ?_, fun c2 hi => ?_⟩, fun c => at46 m d (fun e => absurd (kI.mpr e) c)⟩
    · rw [p1] at c2
      have := (nI_leI (a := 400) (b := i) (by decide) (by omega)).mp c2
      exact at46 m d (fun _ => by omega)
    · rw [p1] at c2 hi
      have hlt : i < 400 := nle_of (a := 400) (b := i) (by decide) (by omega) c2
      have hk2 := kI.mp c
      obtain ⟨q, hq⟩ := h1 hk2
      have hn := pr_next hs hq hlt
      have hat2 := CQ_at hW hC hn (by omega)
      rw [p1, nI_1, nI_clamp (by omega), hat2.1]
      refine ⟨((FRc.refl σ).put (by decide)).put (by decide), rfl, Or.inl ⟨rfl, hk2, hlt, by rw [s1_off (by omega), s1_on], s1_on, by omega, by rw [s1_off (by omega), s1_off (by omega)]; exact p4, p5.of (by rw [s1_off (by omega), s1_off (by omega)]) (by rw [s1_off (by omega), s1_off (by omega)]), by rw [s1_off (by omega), s1_off (by omega)]; exact p6⟩⟩))
  obtain ⟨a, a2, b⟩ := hq
  refine ⟨a, a2, ?_⟩
  rcases b with ⟨e, b⟩ | ⟨e, b⟩
  · cases e; exact Or.inl ⟨rfl, b⟩
  · cases e; exact Or.inr ⟨rfl, b⟩
theorem rc106 (hW : WT TT) (h : RCx PRG n 106 [.ref 15] σ (some (.int w)) σ1) (hC : CQ TT σ) (hP : PCo TT i o σ) (hs : pr TT i = .inr s) (h2 : gs s.1.1 s.1.2 s.2.2.2.1.length (kdT TT i) = .inl 2) : FRc σ σ1 ∧ σ1.2 = σ.2 ∧ w = 0 ∧ FAc TT σ1 := by
  obtain ⟨p1, p2, p3, p4, p5, p6⟩ := hP
  have hat := CQ_at hW hC hs p3
  have hq := h.by (Q := fun v σ' => FRc σ σ' ∧ σ'.2 = σ.2 ∧ v = some (.int 0) ∧ FAc TT σ') (fun m d => p_106_0 σ (fun _ => by
    rw [p1, nI_clamp (by omega), hat.2.1]
    exact ⟨((FRc.refl σ).put (by decide)).put (by decide), rfl, rfl, i, 2, stop_f hs h2, by decide, by decide, p3, by rw [s1_off (by omega), s1_on]; rfl, s1_on⟩))
  obtain ⟨a, a2, b, c⟩ := hq
  cases b
  exact ⟨a, a2, rfl, c⟩
theorem rc102 {f t : Nat} (hW : WT TT) (h : RCx PRG n 102 [.ref 15, .int (nI f), .int (nI t)] σ none σ1) (hC : CQ TT σ) (hE : EVd TT o σ) (hs : pr TT t = .inr s) (ht : t ≤ 400) (hf : ¬ f = 0 ∧ f < 100) : FRc σ σ1 ∧ σ1.2 = σ.2 ∧ EVd TT (orE o (some (f, t))) σ1 ∧ ∀ j, ¬ j = 9 → ¬ j = 10 → σ1.1 15 j = σ.1 15 j := by
  have hat := CQ_at hW hC hs ht
  refine h.by (Q := fun _ σ' => FRc σ σ' ∧ σ'.2 = σ.2 ∧ EVd TT (orE o (some (f, t))) σ' ∧ ∀ j, ¬ j = 9 → ¬ j = 10 → σ'.1 15 j = σ.1 15 j) (fun m d => p_102_0 σ (nI f) (nI t) ⟨fun c => ⟨fun c2 => absurd c2 (nI_pos (by omega)), fun _ => ⟨fun c3 => ?_, fun _ _ => Pl.pos (fun m2 _ => p_102_41 _ ?_)⟩⟩, fun c => Pl.pos (fun m2 _ => p_102_41 _ ?_)⟩)
  · have := (nI_leI (a := 402) (b := t) (by decide) (by omega)).mp c3
    omega
  · rw [nI_clamp (by omega), hat.2.1]
    refine ⟨((FRc.refl σ).put (by decide)).put (by decide), rfl, ?_, fun j h9 h10 => by rw [s1_off (fun e => h10 e.2), s1_off (fun e => h9 e.2)]⟩
    have : o = none := by
      cases o with
      | none => rfl
      | some x =>
        obtain ⟨e1, -, e3, e4⟩ := hE
        rw [e1] at c
        exact absurd c (nI_ne0 (by omega) (by omega))
    subst this
    exact ⟨by rw [s1_off (by omega), s1_on], s1_on, hf.1, hf.2⟩
  · refine ⟨FRc.refl σ, rfl, ?_, fun j _ _ => rfl⟩
    cases o with
    | none => exact absurd hE c
    | some x => exact hE
theorem PCo.ev {o' : Option (Nat × Nat)} (hP : PCo TT i o σ) (hE : EVd TT o' σ1) (hS : ∀ j, ¬ j = 9 → ¬ j = 10 → σ1.1 15 j = σ.1 15 j) : PCo TT i o' σ1 := by
  obtain ⟨p1, p2, p3, p4, p5, p6⟩ := hP
  exact ⟨by rw [hS 4 (by decide) (by decide)]; exact p1, by rw [hS 5 (by decide) (by decide)]; exact p2, p3, by rw [hS 7 (by decide) (by decide)]; exact p4, hE, by rw [hS 8 (by decide) (by decide)]; exact p6⟩
theorem rc108 {x y : Int32} (h : RCx PRG n 108 [.ref 15, .int x, .int y] σ none σ1) : FRc σ σ1 ∧ σ1.2 = σ.2 ∧ same15 σ σ1 :=
  h.by (Q := fun _ σ' => FRc σ σ' ∧ σ'.2 = σ.2 ∧ same15 σ σ') (fun m d => p_108_0 σ x y ⟨fun _ => ⟨FRc.refl σ, rfl, fun _ => rfl⟩, fun _ σ2 h2 => h2.by (Q := fun _ σ' => FRc σ σ' ∧ σ'.2 = σ.2 ∧ same15 σ σ') (fun m d => p_72_0 σ x y ⟨fun _ => ⟨FRc.refl σ, rfl, fun _ => rfl⟩, fun _ _ => ⟨⟨fun _ _ _ => rfl, fun q z a b c => by rw [s1_off c, s1_off (fun e => b e.1)], by rw [s1_off (by omega), s1_off (by omega)], by rw [s1_off (by omega), s1_off (by omega)]⟩, rfl, fun j => by rw [s1_off (by omega), s1_off (by omega)]⟩⟩)⟩)
theorem l2i_i2l (x : Int32) : x.toInt64.toInt32 = x := by
  rw [Int32.toInt32_toInt64]
theorem rc103 {lo hi : Int32} (hW : WT TT) (h : RCx PRG n 103 [.ref 15, .int lo, .int hi] σ (some (.int w)) σ1) (hC : CQ TT σ) (hP : PCo TT i o σ) (hs : pr TT i = .inr s) (h1 : kdT TT i = 3 → ∃ q, gs s.1.1 s.1.2 s.2.2.2.1.length (kdT TT i) = .inr q) (h2 : ¬ kdT TT i = 3 → gs s.1.1 s.1.2 s.2.2.2.1.length (kdT TT i) = .inl 1) : FRc σ σ1 ∧ σ1.2 = σ.2 ∧ ((w = vlT TT i ∧ kdT TT i = 3 ∧ i < 400 ∧ PCo TT (i + 1) (orE o (bif off (vlT TT i) lo hi then some (5, i) else none)) σ1) ∨ (w = -1 ∧ FAc TT σ1)) := by
  have p1 := hP.1
  have p3 := hP.2.2.1
  have hat := CQ_at hW hC hs p3
  have hq := h.by (Q := fun v σ' => FRc σ σ' ∧ σ'.2 = σ.2 ∧ ((v = some (.int (vlT TT i)) ∧ kdT TT i = 3 ∧ i < 400 ∧ PCo TT (i + 1) (orE o (bif off (vlT TT i) lo hi then some (5, i) else none)) σ') ∨ (v = some (.int (-1)) ∧ FAc TT σ'))) (fun m d => p_103_0 σ lo hi (fun _ w2 σ2 hw _ => by
    rw [p1, nI_clamp (by omega)]
    obtain ⟨f1, f2, f3⟩ := rc101 (k := 3) hW hw hC hP hs (by decide) h1 h2
    refine ⟨fun z => ?_, fun z => ?_⟩
    · rcases f3 with ⟨e, -⟩ | ⟨e, g⟩
      · rw [e] at z; exact absurd z (by decide)
      · exact ⟨f1, f2, Or.inr ⟨rfl, g⟩⟩
    · rcases f3 with ⟨e, g1, g2, g3⟩ | ⟨e, -⟩
      · rw [hat.2.2.1 g1, l2i_i2l]
        have bad : off (vlT TT i) lo hi = true → Pl PRG m d 103 34 [(0, .ref 15), (3, .int (vlT TT i))] [] σ2 (fun v σ' => FRc σ σ' ∧ σ'.2 = σ.2 ∧ ((v = some (.int (vlT TT i)) ∧ kdT TT i = 3 ∧ i < 400 ∧ PCo TT (i + 1) (orE o (bif off (vlT TT i) lo hi then some (5, i) else none)) σ') ∨ (v = some (.int (-1)) ∧ FAc TT σ'))) := fun hb => Pl.pos (fun m2 _ => p_103_34 σ2 (vlT TT i) (fun σ3 h3 => by
          rw [g3.1] at h3
          have e1 : nI (i + 1) - (1 : Int32) = nI i := by
            rw [← nI_1, Int32.add_sub_cancel]
          rw [e1] at h3
          obtain ⟨b1, b2, b3, b4⟩ := rc102 (f := 5) hW h3 (hC.fr f1) g3.2.2.2.2.1 hs p3 (by decide)
          refine Pl.pos (fun m3 _ => p_103_45 σ3 _ ⟨f1.trans b1, b2.trans f2, Or.inl ⟨rfl, g1, g2, ?_⟩⟩)
          rw [hb]
          exact g3.ev b3 b4))
        refine ⟨fun c => bad ?_, fun c => ⟨fun c2 => Pl.pos (fun m3 _ => p_103_45 σ2 _ ⟨f1, f2, Or.inl ⟨rfl, g1, g2, ?_⟩⟩), fun c2 => bad ?_⟩⟩
        · unfold off; rw [decide_eq_true c]; rfl
        · have : off (vlT TT i) lo hi = false := by
            unfold off
            rw [decide_eq_false c, decide_eq_false (fun e => by
              rw [Int32.lt_iff_toInt_lt] at e
              rw [Int32.le_iff_toInt_le] at c2
              omega)]
            rfl
          rw [this]
          show PCo TT (i + 1) (orE o none) σ2
          rw [orE_none]
          exact g3
        · unfold off
          rw [decide_eq_true (p := hi < vlT TT i) (by
            rw [Int32.lt_iff_toInt_lt]
            rw [Int32.le_iff_toInt_le] at c2
            omega), Bool.or_true]
      · exact absurd e z))
  obtain ⟨a, a2, b⟩ := hq
  refine ⟨a, a2, ?_⟩
  rcases b with ⟨e, b⟩ | ⟨e, b⟩
  · cases e; exact Or.inl ⟨rfl, b⟩
  · cases e; exact Or.inr ⟨rfl, b⟩
end Rc
/-! expressions -/
def MO (a u c : Nat) : Prop := (a = 12 ∧ u = 11 ∧ c = 13) ∨ (a = 15 ∧ u = 14 ∧ c = 16) ∨ (a = 22 ∧ u = 21 ∧ c = 23) ∨ (a = 25 ∧ u = 24 ∧ c = 26)
section Mo
variable {a u c : Nat}
theorem MO.gsu (h : MO a u c) (dp len k : Nat) : gs u dp len k = gu a u c dp k := by
  rcases h with ⟨rfl, rfl, rfl⟩ | ⟨rfl, rfl, rfl⟩ | ⟨rfl, rfl, rfl⟩ | ⟨rfl, rfl, rfl⟩ <;> rfl
theorem MO.gsc (h : MO a u c) (dp len k : Nat) : gs c dp len k = if k = 3 then .inr (a, dp) else .inl 1 := by
  rcases h with ⟨rfl, rfl, rfl⟩ | ⟨rfl, rfl, rfl⟩ | ⟨rfl, rfl, rfl⟩ | ⟨rfl, rfl, rfl⟩ <;> rfl
theorem MO.gsa (h : MO a u c) (k : Nat) : ∃ r, ∀ dp len, gs a dp len k = ga a u dp k r := by
  rcases h with ⟨rfl, rfl, rfl⟩ | ⟨rfl, rfl, rfl⟩ | ⟨rfl, rfl, rfl⟩ | ⟨rfl, rfl, rfl⟩ <;> exact ⟨_, fun _ _ => rfl⟩
theorem MO.ne (h : MO a u c) : (¬ a = 6 ∧ ¬ a = 3 ∧ ¬ a = 5) ∧ (¬ u = 6 ∧ ¬ u = 3 ∧ ¬ u = 5) ∧ (¬ c = 6 ∧ ¬ c = 3 ∧ ¬ c = 5) ∧ ¬ u = 25 ∧ ¬ c = 25 := by
  rcases h with ⟨rfl, rfl, rfl⟩ | ⟨rfl, rfl, rfl⟩ | ⟨rfl, rfl, rfl⟩ | ⟨rfl, rfl, rfl⟩ <;> decide
theorem MO.eva (h : MO a u c) {TT : List Tk} {i dp : Nat} {D : DT} : evT TT ((a, dp), D) i = 0 := by
  rcases h with ⟨rfl, rfl, rfl⟩ | ⟨rfl, rfl, rfl⟩ | ⟨rfl, rfl, rfl⟩ | ⟨rfl, rfl, rfl⟩ <;> rfl
theorem MO.evu (h : MO a u c) {TT : List Tk} {i dp : Nat} {D : DT} : evT TT ((u, dp), D) i = 0 := by
  rcases h with ⟨rfl, rfl, rfl⟩ | ⟨rfl, rfl, rfl⟩ | ⟨rfl, rfl, rfl⟩ | ⟨rfl, rfl, rfl⟩ <;> rfl
theorem MO.evc (h : MO a u c) {TT : List Tk} {i dp : Nat} {D : DT} : evT TT ((c, dp), D) i = bif off (vlT TT i) 0 3 then 5 else 0 := by
  rcases h with ⟨rfl, rfl, rfl⟩ | ⟨rfl, rfl, rfl⟩ | ⟨rfl, rfl, rfl⟩ | ⟨rfl, rfl, rfl⟩ <;> rfl
end Mo
theorem evO_0 {TT : List Tk} {s : GSt} {i : Nat} (h : evT TT s i = 0) : evO TT s i = none := by
  unfold evO; rw [if_pos h]
theorem evO_off {TT : List Tk} {s : GSt} {i : Nat} {b : Bool} (h : evT TT s i = bif b then 5 else 0) : evO TT s i = bif b then some (5, i) else none := by
  unfold evO
  cases b with
  | true => rw [h]; rfl
  | false => rw [h]; rfl
/-- what unit and expression leave -/
def exQ (TT : List Tk) (i a dp : Nat) (D : DT) (X : Nat → Prop) (σ σ1 : Sg) (w : Int32) : Prop := FRc σ σ1 ∧ σ1.2 = σ.2 ∧ ((w = 1 ∧ ∃ j, i < j ∧ pr TT j = .inr ((a, dp), D) ∧ PCo TT j (evs TT j) σ1 ∧ X j) ∨ (w = 0 ∧ FAc TT σ1))
def exP (TT : List Tk) (i a u c dp : Nat) (s : GSt) (σ : Sg) : Prop := MO a u c ∧ dp ≤ 6 ∧ CQ TT σ ∧ PCo TT i (evs TT i) σ ∧ pr TT i = .inr s ∧ gs s.1.1 s.1.2 s.2.2.2.1.length (kdT TT i) = gu a u c dp (kdT TT i) ∧ (¬ s.1.1 = 6 ∧ ¬ s.1.1 = 3 ∧ ¬ s.1.1 = 5) ∧ ¬ s.1.1 = 25 ∧ evT TT s i = 0
theorem unit_c {TT : List Tk} (hW : WT TT) {n : Nat} (ihE : ∀ (m : Nat), m < n → ∀ (i a u c dp : Nat) (s : GSt) (σ σ1 : Sg) (w : Int32), exP TT i a u c dp s σ → RCx PRG m 110 [.ref 15, .int (nI dp)] σ (some (.int w)) σ1 → exQ TT i a dp s.2 (fun j => ¬ (5 ≤ kdT TT j ∧ kdT TT j ≤ 8)) σ σ1 w) (i a u c dp : Nat) (s : GSt) (σ σ1 : Sg) (w : Int32) (hE : exP TT i a u c dp s σ) (h : RCx PRG n 109 [.ref 15, .int (nI dp)] σ (some (.int w)) σ1) : exQ TT i a dp s.2 (fun _ => True) σ σ1 w := by
  obtain ⟨hM, hdp, hC, hP, hs, hU, hm, h25, hev⟩ := hE
  have p2 := hP.2.1
  have hkd := (kd_le hW hs).1
  have hvr := vl_rg hW hs
  have kI : ∀ k, k ≤ 36 → (nI (kdT TT i) = nI k ↔ kdT TT i = k) := fun k hk => nI_eq (by omega) (by omega)
  have evn : evs TT (i + 1) = evs TT i := by rw [evs_step hs, evO_0 hev, orE_none]
  have hup : ∀ (q : Nat × Nat), i < 400 → ¬ kdT TT i = 22 → gu a u c dp (kdT TT i) = .inr q → pr TT (i + 1) = .inr (q, s.2) := fun q hi hk hq => by
    have := pr_next hs (by rw [hU]; exact hq) hi
    rw [upd_id hm hk (fun e => h25 e.1)] at this
    exact this
  obtain ⟨v, hv, hq⟩ : ∃ v : Int32, some (Value.int w) = some (.int v) ∧ exQ TT i a dp s.2 (fun _ => True) σ σ1 v := h.of (Q := fun v0 σ' => ∃ v : Int32, v0 = some (.int v) ∧ exQ TT i a dp s.2 (fun _ => True) σ σ' v) (fun d => Pl.pos (fun m hmn => p_109_0 σ (nI dp) (by
    rw [p2]
    have num : ¬ kdT TT i = 13 → ¬ (27 ≤ kdT TT i ∧ kdT TT i ≤ 36) → ¬ kdT TT i = 26 → ∀ w2 σ2, RCx PRG m 103 [.ref 15, .int (0 : Int32), .int (9999 : Int32)] σ (some (.int w2)) σ2 → ∀ σ3, RCx PRG m 108 [.ref 15, .int (3 : Int32), .int w2] σ2 none σ3 → ((w2 < 0 → ∃ v : Int32, some (Value.int (0 : Int32)) = some (.int v) ∧ exQ TT i a dp s.2 (fun _ => True) σ σ3 v) ∧ (¬ w2 < 0 → ∃ v : Int32, some (Value.int (1 : Int32)) = some (.int v) ∧ exQ TT i a dp s.2 (fun _ => True) σ σ3 v)) := by
      intro n13 nv n26 w2 σ2 hw2 σ3 hw3
      have hg : gu a u c dp (kdT TT i) = if kdT TT i = 3 then .inr (a, dp) else .inl 1 := by
        unfold gu
        rw [if_neg n13, if_neg nv, if_neg n26]
      obtain ⟨f1, f2, f3⟩ := rc103 hW hw2 hC hP hs (fun e => ⟨(a, dp), by rw [hU, hg, if_pos e]⟩) (fun e => by rw [hU, hg, if_neg e])
      obtain ⟨b1, b2, b3⟩ := rc108 hw3
      have noff : off (vlT TT i) 0 9999 = false := by
        unfold off
        rw [decide_eq_false (by rw [Int32.lt_iff_toInt_lt]; have : (0 : Int32).toInt = 0 := by decide
                                omega), decide_eq_false (by rw [Int32.lt_iff_toInt_lt]; have : (9999 : Int32).toInt = 9999 := by decide
                                                            omega)]
        rfl
      refine ⟨fun z => ⟨0, rfl, f1.trans b1, b2.trans f2, ?_⟩, fun z => ⟨1, rfl, f1.trans b1, b2.trans f2, ?_⟩⟩
      · rcases f3 with ⟨e, -⟩ | ⟨-, g⟩
        · rw [e, Int32.lt_iff_toInt_lt] at z
          have : (0 : Int32).toInt = 0 := by decide
          omega
        · exact Or.inr ⟨rfl, g.same b3⟩
      · rcases f3 with ⟨e, g1, g2, g3⟩ | ⟨e, -⟩
        · refine Or.inl ⟨rfl, i + 1, Nat.lt_succ_self i, hup (a, dp) g2 (by omega) (by rw [hg, if_pos g1]), ?_, trivial⟩
          rw [noff] at g3
          rw [evn]
          have g4 : PCo TT (i + 1) (orE (evs TT i) none) σ2 := g3
          rw [orE_none] at g4
          exact g4.same b3
        · rw [e] at z
          exact absurd (by decide) z
    have cnt : kdT TT i = 26 → ∀ w5 σ4, RCx PRG m 101 [.ref 15, .int (26 : Int32)] σ (some (.int w5)) σ4 → (w5 = 0 ∨ w5 = 1) → ((w5 = 0 → ∀ σ6, RCx PRG m 108 [.ref 15, .int (27 : Int32), .int ((10 : Int32) + (-1 : Int32))] σ4 none σ6 → ∃ v : Int32, some (Value.int (0 : Int32)) = some (.int v) ∧ exQ TT i a dp s.2 (fun _ => True) σ σ6 v) ∧ (¬ w5 = 0 → ∀ w8 σ7, RCx PRG m 103 [.ref 15, .int (0 : Int32), .int (3 : Int32)] σ4 (some (.int w8)) σ7 → ∀ σ9, RCx PRG m 108 [.ref 15, .int (27 : Int32), .int ((10 : Int32) + w8)] σ7 none σ9 → ((w8 < 0 → ∃ v : Int32, some (Value.int (0 : Int32)) = some (.int v) ∧ exQ TT i a dp s.2 (fun _ => True) σ σ9 v) ∧ (¬ w8 < 0 → ∃ v : Int32, some (Value.int (1 : Int32)) = some (.int v) ∧ exQ TT i a dp s.2 (fun _ => True) σ σ9 v)))) := by
      intro e26 w5 σ4 hw5 _
      have hg : gu a u c dp (kdT TT i) = .inr (c, dp) := by
        unfold gu
        rw [if_neg (by omega), if_neg (by omega), if_pos e26]
      obtain ⟨f1, f2, f3⟩ := rc101 (k := 26) hW hw5 hC hP hs (by decide) (fun _ => ⟨_, by rw [hU, hg]⟩) (fun e => absurd e26 e)
      refine ⟨fun z σ6 h6 => ?_, fun z w8 σ7 hw8 σ9 h9 => ?_⟩
      · rcases f3 with ⟨e, -⟩ | ⟨-, g⟩
        · rw [e] at z; exact absurd z (by decide)
        · obtain ⟨b1, b2, b3⟩ := rc108 h6
          exact ⟨0, rfl, f1.trans b1, b2.trans f2, Or.inr ⟨rfl, g.same b3⟩⟩
      · rcases f3 with ⟨e, g1, g2, g3⟩ | ⟨e, -⟩
        · have hs2 := hup (c, dp) g2 (by omega) hg
          have hvr2 := vl_rg hW hs2
          obtain ⟨k1, k2, k3⟩ := rc103 hW hw8 (hC.fr f1) g3 hs2 (fun e => ⟨(a, dp), by show gs c dp _ _ = _; rw [hM.gsc, if_pos e]⟩) (fun e => by show gs c dp _ _ = _; rw [hM.gsc, if_neg e])
          obtain ⟨b1, b2, b3⟩ := rc108 h9
          refine ⟨fun z => ⟨0, rfl, (f1.trans k1).trans b1, b2.trans (k2.trans f2), ?_⟩, fun z => ⟨1, rfl, (f1.trans k1).trans b1, b2.trans (k2.trans f2), ?_⟩⟩
          · rcases k3 with ⟨e, -⟩ | ⟨-, g⟩
            · rw [e, Int32.lt_iff_toInt_lt] at z
              have : (0 : Int32).toInt = 0 := by decide
              omega
            · exact Or.inr ⟨rfl, g.same b3⟩
          · rcases k3 with ⟨e, j1, j2, j3⟩ | ⟨e, -⟩
            · have hs3 := pr_next (q := (a, dp)) hs2 (by show gs c dp _ _ = _; rw [hM.gsc, if_pos j1]) j2
              rw [show updD ((c, dp), s.2).1.1 (kdT TT (i + 1)) (i + 1) ((c, dp), s.2).2 = s.2 from upd_id hM.ne.2.2.1 (by omega) (fun e => hM.ne.2.2.2.2 e.1)] at hs3
              refine Or.inl ⟨rfl, i + 1 + 1, by omega, hs3, ?_, trivial⟩
              rw [evs_step hs2, evO_off hM.evc, evn]
              exact j3.same b3
            · rw [e] at z
              exact absurd (by decide) z
        · exact absurd e z
    refine ⟨fun c13 => ⟨fun c6 w23 σ22 h23 _ => ?_, fun c6 w29 σ28 h29 _ _ => ?_⟩, fun c13 => ⟨fun c27 => ⟨fun c26 => cnt ((kI 26 (by decide)).mp c26), fun c26 => num (fun e => c13 ((kI 13 (by decide)).mpr e)) (fun e => ?_) (fun e => c26 ((kI 26 (by decide)).mpr e))⟩, fun c27 => ⟨fun c36 => ?_, fun c36 σ19 h19 w21 σ20 h21 _ _ => ?_⟩⟩⟩
    · have e13 := (kI 13 (by decide)).mp c13
      have hdp6 : dp < 6 := by
        rcases Nat.lt_or_ge dp 6 with g | g
        · exact g
        · exact absurd c6 (nI_nlt (a := dp) (b := 6) g (by omega))
      have hg : gu a u c dp (kdT TT i) = .inr (u, dp + 1) := by
        unfold gu
        rw [if_pos e13, if_neg (by omega)]
      obtain ⟨f1, f2, f3⟩ := rc101 (k := 13) hW h23 hC hP hs (by decide) (fun _ => ⟨_, by rw [hU, hg]⟩) (fun e => absurd e13 e)
      refine ⟨fun z => ?_, fun z w25 σ24 h25' _ => ?_⟩
      · rcases f3 with ⟨e, -⟩ | ⟨-, g⟩
        · rw [e] at z; exact absurd z (by decide)
        · exact ⟨0, rfl, f1, f2, Or.inr ⟨rfl, g⟩⟩
      · rcases f3 with ⟨e, g1, g2, g3⟩ | ⟨e, -⟩
        · have hs2 := hup (u, dp + 1) g2 (by omega) hg
          rw [nI_1] at h25'
          rw [← evn] at g3
          obtain ⟨k1, k2, k3⟩ := ihE m (by omega) (i + 1) a u c (dp + 1) _ σ22 σ24 w25 ⟨hM, by omega, hC.fr f1, g3, hs2, hM.gsu _ _ _, hM.ne.2.1, hM.ne.2.2.2.1, hM.evu⟩ h25'
          refine ⟨fun z => ?_, fun z w27 σ26 h27 _ => ?_⟩
          · rcases k3 with ⟨e, -⟩ | ⟨-, g⟩
            · rw [e] at z; exact absurd z (by decide)
            · exact ⟨0, rfl, f1.trans k1, k2.trans f2, Or.inr ⟨rfl, g⟩⟩
          · rcases k3 with ⟨e, j, j1, j2, j3, j4⟩ | ⟨e, -⟩
            · obtain ⟨r, hr⟩ := hM.gsa (kdT TT j)
              have hga : ∀ len, gs a (dp + 1) len (kdT TT j) = if kdT TT j = 14 then .inr (a, dp) else .inl 1 := by
                intro len
                rw [hr]
                unfold ga
                rw [if_neg j4]
                by_cases e14 : kdT TT j = 14
                · rw [if_pos ⟨e14, by omega⟩, if_pos e14]; rfl
                · rw [if_neg (fun e => e14 e.1), if_neg (by omega), if_neg e14]
              obtain ⟨l1, l2, l3⟩ := rc101 (k := 14) hW h27 ((hC.fr f1).fr k1) j3 j2 (by decide) (fun e => ⟨(a, dp), by show gs a (dp + 1) _ _ = _; rw [hga, if_pos e]⟩) (fun e => by show gs a (dp + 1) _ _ = _; rw [hga, if_neg e])
              refine ⟨fun z => ?_, fun z => ?_⟩
              · rcases l3 with ⟨e, -⟩ | ⟨-, g⟩
                · rw [e] at z; exact absurd z (by decide)
                · exact ⟨0, rfl, (f1.trans k1).trans l1, l2.trans (k2.trans f2), Or.inr ⟨rfl, g⟩⟩
              · rcases l3 with ⟨e, m1, m2, m3⟩ | ⟨e, -⟩
                · have hs3 := pr_next (q := (a, dp)) j2 (by show gs a (dp + 1) _ _ = _; rw [hga, if_pos m1]) m2
                  rw [show updD ((a, dp + 1), s.2).1.1 (kdT TT j) j ((a, dp + 1), s.2).2 = s.2 from upd_id hM.ne.1 (by omega) (fun e => by omega)] at hs3
                  refine ⟨1, rfl, (f1.trans k1).trans l1, l2.trans (k2.trans f2), Or.inl ⟨rfl, j + 1, by omega, hs3, ?_, trivial⟩⟩
                  rw [evs_step j2, evO_0 hM.eva, orE_none]
                  exact m3
                · exact absurd e z
            · exact absurd e z
        · exact absurd e z
    · have e13 := (kI 13 (by decide)).mp c13
      have hdp6 : 6 ≤ dp := by
        rcases Nat.lt_or_ge dp 6 with g | g
        · exact absurd (nI_lt g (by decide)) c6
        · exact g
      have hg : gu a u c dp (kdT TT i) = .inl 2 := by
        unfold gu
        rw [if_pos e13, if_pos hdp6]
      obtain ⟨f1, f2, rfl, g⟩ := rc106 hW h29 hC hP hs (by rw [hU, hg])
      exact ⟨0, rfl, f1, f2, Or.inr ⟨rfl, g⟩⟩
    · exact absurd c27 (nI_nlt (a := kdT TT i) (b := 27) e.1 (by omega))
    · exact absurd c36 (nI_nlt (a := 36) (b := kdT TT i) (by omega) (by decide))
    · have h27 : 27 ≤ kdT TT i := by
        rcases Nat.lt_or_ge (kdT TT i) 27 with g | g
        · exact absurd (nI_lt g (by decide)) c27
        · exact g
      have hg : gu a u c dp (kdT TT i) = .inr (a, dp) := by
        unfold gu
        rw [if_neg (by omega), if_pos ⟨h27, by omega⟩]
      obtain ⟨b1, b2, b3⟩ := rc108 h19
      rw [b3 5, p2] at h21
      obtain ⟨f1, f2, f3⟩ := rc101 (k := kdT TT i) hW h21 (hC.fr b1) (hP.same b3) hs (by omega) (fun _ => ⟨_, by rw [hU, hg]⟩) (fun e => absurd rfl e)
      refine ⟨w21, rfl, b1.trans f1, f2.trans b2, ?_⟩
      rcases f3 with ⟨e, g1, g2, g3⟩ | ⟨e, g⟩
      · refine Or.inl ⟨e, i + 1, Nat.lt_succ_self i, hup (a, dp) g2 (by omega) hg, ?_, trivial⟩
        rw [evn]
        exact g3
      · exact Or.inr ⟨e, g⟩)))
  cases hv
  exact hq
/-- what stands between the calls of expression -/
def exI (TT : List Tk) (i a dp kk : Nat) (D : DT) (σ0 σ : Sg) (x : Int32) : Prop := FRc σ0 σ ∧ σ.2 = σ0.2 ∧ ((x = 1 ∧ ∃ j, i < j ∧ kk < j ∧ pr TT j = .inr ((a, dp), D) ∧ PCo TT j (evs TT j) σ) ∨ (x = 0 ∧ FAc TT σ))
theorem expr_c {TT : List Tk} (hW : WT TT) : ∀ (n : Nat) (i a u c dp : Nat) (s : GSt) (σ σ1 : Sg) (w : Int32), exP TT i a u c dp s σ → RCx PRG n 110 [.ref 15, .int (nI dp)] σ (some (.int w)) σ1 → exQ TT i a dp s.2 (fun j => ¬ (5 ≤ kdT TT j ∧ kdT TT j ≤ 8)) σ σ1 w := by
  intro n
  induction n using Nat.strongRecOn with
  | _ n ih =>
    intro i a u c dp s σ σ1 w hE h
    have hM := hE.1
    have hdp := hE.2.1
    have hC := hE.2.2.1
    obtain ⟨v, hv, hq⟩ : ∃ v : Int32, some (Value.int w) = some (.int v) ∧ exQ TT i a dp s.2 (fun j => ¬ (5 ≤ kdT TT j ∧ kdT TT j ≤ 8)) σ σ1 v := by
      refine h.of (Q := fun v0 σ' => ∃ v : Int32, v0 = some (.int v) ∧ exQ TT i a dp s.2 (fun j => ¬ (5 ≤ kdT TT j ∧ kdT TT j ≤ 8)) σ σ' v) (fun d => ?_)
      -- the end
      have fin : ∀ (m : Nat) (y x : Int32) (σ2 : Sg) (kk : Nat), exI TT i a dp kk s.2 σ σ2 x → (x = 1 → ∀ j, pr TT j = .inr ((a, dp), s.2) → PCo TT j (evs TT j) σ2 → kk < j → ¬ (5 ≤ kdT TT j ∧ kdT TT j ≤ 8)) → Pl PRG m d 110 128 [(0, .ref 15), (2, .int y), (3, .int x)] [] σ2 (fun v0 σ' => ∃ v : Int32, v0 = some (.int v) ∧ exQ TT i a dp s.2 (fun j => ¬ (5 ≤ kdT TT j ∧ kdT TT j ≤ 8)) σ σ' v) := by
        intro m y x σ2 kk hI hX
        obtain ⟨f1, f2, f3⟩ := hI
        refine Pl.pos (fun m2 _ => p_110_128 σ2 y x ⟨fun _ => ?_, fun _ σ3 h3 => ?_⟩)
        · refine Pl.pos (fun m3 _ => p_110_138 σ2 x (fun _ => ⟨x, rfl, f1, f2, ?_⟩))
          rcases f3 with ⟨e, j, j1, j2, j3, j4⟩ | ⟨e, g⟩
          · exact Or.inl ⟨e, j, j1, j3, j4, hX e j j3 j4 j2⟩
          · exact Or.inr ⟨e, g⟩
        · obtain ⟨b1, b2, b3⟩ := rc108 h3
          refine Pl.pos (fun m3 _ => p_110_138 σ3 x (fun _ => ⟨x, rfl, f1.trans b1, b2.trans f2, ?_⟩))
          rcases f3 with ⟨e, j, j1, j2, j3, j4⟩ | ⟨e, g⟩
          · exact Or.inl ⟨e, j, j1, j3, j4.same b3, hX e j j3 j4 j2⟩
          · exact Or.inr ⟨e, g.same b3⟩
      have loop : ∀ (m : Nat), m < n → ∀ (kk : Nat) (y x : Int32) (σ2 : Sg), kk ≤ 400 → exI TT i a dp kk s.2 σ σ2 x → Pl PRG m d 110 11 [(0, .ref 15), (1, .int (nI dp)), (2, .int y), (3, .int x), (4, .int (nI kk))] [] σ2 (fun v0 σ' => ∃ v : Int32, v0 = some (.int v) ∧ exQ TT i a dp s.2 (fun j => ¬ (5 ≤ kdT TT j ∧ kdT TT j ≤ 8)) σ σ' v) := by
        intro m
        induction m using Nat.strongRecOn with
        | _ m ihm =>
          intro hmn kk y x σ2 hkk hI
          refine Pl.pos (fun m1 hm1 => p_110_11 σ2 (nI dp) y x (nI kk) ⟨fun c1 => ?_, fun c1 => ⟨fun c2 => ?_, fun c2 => ?_⟩⟩)
          · have h400 := (nI_leI (a := 400) (b := kk) (by decide) (by omega)).mp c1
            exact fin m1 y x σ2 kk hI (fun _ j _ hj hlt => by have := hj.2.2.1; omega)
          · exact fin m1 y x σ2 kk hI (fun e => by rw [e] at c2; exact absurd c2 (by decide))
          · obtain ⟨f1, f2, f3⟩ := hI
            have hkk4 : kk < 400 := nle_of (a := 400) (b := kk) (by decide) (by omega) c1
            rcases f3 with ⟨e, j, j1, j2, j3, j4⟩ | ⟨e, -⟩
            · have hkd := (kd_le hW j3).1
              rw [j4.2.1]
              have out : ¬ (5 ≤ kdT TT j ∧ kdT TT j ≤ 8) → Pl PRG m1 d 110 128 [(0, .ref 15), (2, .int y), (3, .int x)] [] σ2 (fun v0 σ' => ∃ v : Int32, v0 = some (.int v) ∧ exQ TT i a dp s.2 (fun j => ¬ (5 ≤ kdT TT j ∧ kdT TT j ≤ 8)) σ σ' v) := fun hn => fin m1 y x σ2 kk ⟨f1, f2, Or.inl ⟨e, j, j1, j2, j3, j4⟩⟩ (fun _ j' h1 h2 _ => by
                have e1 := h2.1
                rw [j4.1] at e1
                have : j = j' := (nI_eq (by have := j4.2.2.1; omega) (by have := h2.2.2.1; omega)).mp e1
                subst this
                exact hn)
              refine ⟨fun c3 => out (fun h => absurd c3 (nI_nlt (a := kdT TT j) (b := 5) h.1 (by omega))), fun c3 => ⟨fun c4 => out (fun h => absurd c4 (nI_nlt (a := 8) (b := kdT TT j) h.2 (by decide))), fun c4 => ?_⟩⟩
              have h5 : 5 ≤ kdT TT j := by
                rcases Nat.lt_or_ge (kdT TT j) 5 with g | g
                · exact absurd (nI_lt g (by decide)) c3
                · exact g
              have h8 : kdT TT j ≤ 8 := by
                rcases Nat.lt_or_ge 8 (kdT TT j) with g | g
                · exact absurd (nI_lt g (by omega)) c4
                · exact g
              -- an operator
              have back : ∀ (m2 : Nat), m2 < m → ∀ (y2 x2 : Int32) (σ3 : Sg), exI TT i a dp (kk + 1) s.2 σ σ3 x2 → Pl PRG m2 d 110 122 [(0, .ref 15), (1, .int (nI dp)), (2, .int y2), (3, .int x2), (4, .int (nI kk))] [] σ3 (fun v0 σ' => ∃ v : Int32, v0 = some (.int v) ∧ exQ TT i a dp s.2 (fun j => ¬ (5 ≤ kdT TT j ∧ kdT TT j ≤ 8)) σ σ' v) := fun m2 hm2 y2 x2 σ3 hI3 => Pl.pos (fun m3 hm3 => p_110_122 σ3 (nI dp) y2 x2 (nI kk) (by
                rw [nI_1]
                exact ihm m3 (by omega) (by omega) (kk + 1) y2 x2 σ3 (by omega) hI3))
              have low : ∀ (m2 : Nat), m2 < m → ∀ (x6 : Int32) (σ3 : Sg), FRc σ σ3 → σ3.2 = σ.2 → FAc TT σ3 → Pl PRG m2 d 110 102 [(0, .ref 15), (1, .int (nI dp)), (2, .int y), (4, .int (nI kk)), (5, .int (nI (kdT TT j))), (6, .int x6)] [] σ3 (fun v0 σ' => ∃ v : Int32, v0 = some (.int v) ∧ exQ TT i a dp s.2 (fun j => ¬ (5 ≤ kdT TT j ∧ kdT TT j ≤ 8)) σ σ' v) := fun m2 hm2 x6 σ3 g1 g2 g3 => Pl.pos (fun m3 hm3 => p_110_102 σ3 (nI dp) y (nI kk) (nI (kdT TT j)) x6 ⟨fun _ σ4 h4 => by
                obtain ⟨b1, b2, b3⟩ := rc108 h4
                exact back m3 (by omega) y 0 σ4 ⟨g1.trans b1, b2.trans g2, Or.inr ⟨rfl, g3.same b3⟩⟩, fun _ => back m3 (by omega) (nI (kdT TT j)) 0 σ3 ⟨g1, g2, Or.inr ⟨rfl, g3⟩⟩⟩)
              have op : ∀ (m2 : Nat), m2 < m → ∀ (x6 : Int32) (σ3 : Sg), FRc σ σ3 → σ3.2 = σ.2 → PCo TT j (evs TT j) σ3 → Pl PRG m2 d 110 81 [(0, .ref 15), (1, .int (nI dp)), (2, .int y), (4, .int (nI kk)), (5, .int (nI (kdT TT j))), (6, .int x6)] [] σ3 (fun v0 σ' => ∃ v : Int32, v0 = some (.int v) ∧ exQ TT i a dp s.2 (fun j => ¬ (5 ≤ kdT TT j ∧ kdT TT j ≤ 8)) σ σ' v) := by
                intro m2 hm2 x6 σ3 g1 g2 g3
                refine Pl.pos (fun m3 hm3 => p_110_81 σ3 (nI dp) y (nI kk) (nI (kdT TT j)) x6 (fun w2 σ4 h4 _ => ?_))
                obtain ⟨r, hr⟩ := hM.gsa (kdT TT j)
                have hga : ∀ len, gs a dp len (kdT TT j) = .inr (u, dp) := fun len => by
                  rw [hr]
                  unfold ga
                  rw [if_pos ⟨h5, h8⟩]
                obtain ⟨l1, l2, l3⟩ := rc101 (k := kdT TT j) hW h4 (hC.fr g1) g3 j3 (by omega) (fun _ => ⟨(u, dp), hga _⟩) (fun e => absurd rfl e)
                refine ⟨fun z => ?_, fun z w4 σ5 h5' _ => ?_⟩
                · rcases l3 with ⟨e', -⟩ | ⟨-, g⟩
                  · rw [e'] at z; exact absurd z (by decide)
                  · exact low m3 (by omega) x6 σ4 (g1.trans l1) (l2.trans g2) g
                · rcases l3 with ⟨e', q1, q2, q3⟩ | ⟨e', -⟩
                  · have hs2 := pr_next (q := (u, dp)) j3 (hga _) q2
                    rw [show updD ((a, dp), s.2).1.1 (kdT TT j) j ((a, dp), s.2).2 = s.2 from upd_id hM.ne.1 (by omega) (fun e => by omega)] at hs2
                    have ev2 : evs TT (j + 1) = evs TT j := by rw [evs_step j3, evO_0 hM.eva, orE_none]
                    rw [← ev2] at q3
                    obtain ⟨k1, k2, k3⟩ := unit_c hW (n := m3) (fun m' hm' => ih m' (by omega)) (j + 1) a u c dp _ σ4 σ5 w4 ⟨hM, hdp, (hC.fr g1).fr l1, q3, hs2, hM.gsu _ _ _, hM.ne.2.1, hM.ne.2.2.2.1, hM.evu⟩ h5'
                    refine ⟨fun z => ?_, fun z => ?_⟩
                    · rcases k3 with ⟨e'', -⟩ | ⟨-, g⟩
                      · rw [e''] at z; exact absurd z (by decide)
                      · exact low m3 (by omega) x6 σ5 ((g1.trans l1).trans k1) (k2.trans (l2.trans g2)) g
                    · rcases k3 with ⟨e'', j', t1, t2, t3, -⟩ | ⟨e'', -⟩
                      · have nx : exI TT i a dp (kk + 1) s.2 σ σ5 1 := ⟨(g1.trans l1).trans k1, k2.trans (l2.trans g2), Or.inl ⟨rfl, j', by omega, by omega, t2, t3⟩⟩
                        refine ⟨fun _ σ6 h6 => ?_, fun _ => back m3 (by omega) (nI (kdT TT j)) 1 σ5 nx⟩
                        obtain ⟨b1, b2, b3⟩ := rc108 h6
                        exact back m3 (by omega) y 1 σ6 ⟨nx.1.trans b1, b2.trans nx.2.1, Or.inl ⟨rfl, j', by omega, by omega, t2, t3.same b3⟩⟩
                      · exact absurd e'' z
                  · exact absurd e' z
              have wait : Pl PRG m1 d 110 59 [(0, .ref 15), (1, .int (nI dp)), (2, .int y), (4, .int (nI kk)), (5, .int (nI (kdT TT j)))] [] σ2 (fun v0 σ' => ∃ v : Int32, v0 = some (.int v) ∧ exQ TT i a dp s.2 (fun j => ¬ (5 ≤ kdT TT j ∧ kdT TT j ≤ 8)) σ σ' v) := Pl.pos (fun m2 hm2 => p_110_59 σ2 (nI dp) y (nI kk) (nI (kdT TT j)) ⟨fun _ => op m2 (by omega) 1 σ2 f1 f2 j4, fun _ σ3 h3 => by
                obtain ⟨b1, b2, b3⟩ := rc108 h3
                exact op m2 (by omega) 1 σ3 (f1.trans b1) (b2.trans f2) (j4.same b3)⟩)
              exact ⟨fun _ => wait, fun _ => ⟨fun _ => wait, fun _ => op m1 (by omega) 0 σ2 f1 f2 j4⟩⟩
            · exact absurd e c2
      refine Pl.pos (fun m hmn => p_110_0 σ (nI dp) (fun w2 σ2 h2 _ => ?_))
      obtain ⟨k1, k2, k3⟩ := unit_c hW (n := m) (fun m' hm' => ih m' (by omega)) i a u c dp s σ σ2 w2 hE h2
      refine loop m (by omega) 0 0 w2 σ2 (by omega) ⟨k1, k2, ?_⟩
      rcases k3 with ⟨e, j, t1, t2, t3, -⟩ | ⟨e, g⟩
      · exact Or.inl ⟨e, j, t1, by omega, t2, t3⟩
      · exact Or.inr ⟨e, g⟩
    cases hv
    exact hq
/-! literals, conditions -/
def BO (b : Nat) : Prop := b = 10 ∨ b = 20
section Bo
variable {b : Nat}
theorem BO.l (h : BO b) : MO (b + 2) (b + 1) (b + 3) := by rcases h with rfl | rfl <;> (unfold MO; decide)
theorem BO.r (h : BO b) : MO (b + 5) (b + 4) (b + 6) := by rcases h with rfl | rfl <;> (unfold MO; decide)
theorem BO.gs0 (h : BO b) (dp len k : Nat) : gs b dp len k = if k = 25 then .inr (b, 0) else gu (b + 2) (b + 1) (b + 3) dp k := by rcases h with rfl | rfl <;> rfl
theorem BO.gs2 (h : BO b) (dp len k : Nat) : gs (b + 2) dp len k = ga (b + 2) (b + 1) dp k (if 9 ≤ k ∧ k ≤ 12 then .inr (b + 4, 0) else .inl 1) := by rcases h with rfl | rfl <;> rfl
theorem BO.gs5 (h : BO b) (dp len k : Nat) : gs (b + 5) dp len k = ga (b + 5) (b + 4) dp k (if k = 23 ∨ k = 24 then .inr (b, 0) else if b = 10 ∧ k = 22 then .inr (20, 0) else if b = 20 ∧ k = 4 then .inr (0, 0) else .inl 1) := by
  rcases h with rfl | rfl
  · show ga 15 14 dp k _ = ga 15 14 dp k _
    congr 1
    by_cases h1 : k = 23 ∨ k = 24
    · rw [if_pos h1, if_pos h1]
    · rw [if_neg h1, if_neg h1]
      by_cases h2 : k = 22
      · rw [if_pos h2, if_pos ⟨rfl, h2⟩]
      · rw [if_neg h2, if_neg (fun e => h2 e.2), if_neg (fun e => absurd e.1 (by decide))]
  · show ga 25 24 dp k _ = ga 25 24 dp k _
    congr 1
    by_cases h1 : k = 23 ∨ k = 24
    · rw [if_pos h1, if_pos h1]
    · have e10 : ¬ ((20 : Nat) = 10 ∧ k = 22) := fun e => absurd e.1 (by decide)
      rw [if_neg h1, if_neg h1, if_neg e10]
      by_cases h2 : k = 4
      · rw [if_pos h2, if_pos ⟨rfl, h2⟩]
      · rw [if_neg h2, if_neg (fun e => h2 e.2)]
theorem BO.ne (h : BO b) : (¬ b = 6 ∧ ¬ b = 3 ∧ ¬ b = 5) ∧ ¬ b = 25 := by rcases h with rfl | rfl <;> decide
theorem BO.ev (h : BO b) {TT : List Tk} {i dp : Nat} {D : DT} : evT TT ((b, dp), D) i = 0 := by rcases h with rfl | rfl <;> rfl
end Bo
def clR (k : Int32) : Int32 := if (9 : Int32) < (if k < (12 : Int32) then k else (12 : Int32)) then (if k < (12 : Int32) then k else (12 : Int32)) else (9 : Int32)
theorem clR_k : ∀ k, k < 37 → (9 ≤ k ∧ k ≤ 12 ∧ clR (nI k) = nI k) ∨ (¬ (9 ≤ k ∧ k ≤ 12) ∧ ∃ k', k' < 37 ∧ clR (nI k) = nI k' ∧ ¬ k = k') := by decide +kernel
def liQ (TT : List Tk) (i b : Nat) (D : DT) (X : Nat → Prop) (σ σ1 : Sg) (w : Int32) : Prop := exQ TT i (b + 5) 0 D (fun j => ¬ (5 ≤ kdT TT j ∧ kdT TT j ≤ 8) ∧ X j) σ σ1 w
theorem lit_c {TT : List Tk} (hW : WT TT) {n i b : Nat} {D : DT} {σ σ1 : Sg} {w : Int32} (hb : BO b) (hC : CQ TT σ) (hP : PCo TT i (evs TT i) σ) (hs : pr TT i = .inr ((b, 0), D)) (h : RCx PRG n 111 [.ref 15] σ (some (.int w)) σ1) : liQ TT i b D (fun _ => True) σ σ1 w := by
  obtain ⟨v, hv, hq⟩ : ∃ v : Int32, some (Value.int w) = some (.int v) ∧ liQ TT i b D (fun _ => True) σ σ1 v := by
    refine h.by (Q := fun v0 σ' => ∃ v : Int32, v0 = some (.int v) ∧ liQ TT i b D (fun _ => True) σ σ' v) (fun m d => ?_)
    have body : ∀ (m : Nat) (x : Int32) (j : Nat) (σ2 : Sg), i ≤ j → FRc σ σ2 → σ2.2 = σ.2 → PCo TT j (evs TT j) σ2 → pr TT j = .inr ((b, 0), D) → ¬ kdT TT j = 25 → Pl PRG m d 111 47 [(0, .ref 15), (1, .int x)] [] σ2 (fun v0 σ' => ∃ v : Int32, v0 = some (.int v) ∧ liQ TT i b D (fun _ => True) σ σ' v) := by
      intro m x j σ2 hij f1 f2 j4 j3 n25
      have bad : ∀ (m2 : Nat) (σ3 : Sg), FRc σ σ3 → σ3.2 = σ.2 → FAc TT σ3 → Pl PRG m2 d 111 88 [] [] σ3 (fun v0 σ' => ∃ v : Int32, v0 = some (.int v) ∧ liQ TT i b D (fun _ => True) σ σ' v) := fun m2 σ3 g1 g2 g3 => Pl.pos (fun m3 _ => p_111_88 σ3 ⟨0, rfl, g1, g2, Or.inr ⟨rfl, g3⟩⟩)
      refine Pl.pos (fun m1 _ => p_111_47 σ2 x (fun w2 σ3 h3 _ => ?_))
      obtain ⟨k1, k2, k3⟩ := expr_c hW m1 j (b + 2) (b + 1) (b + 3) 0 ((b, 0), D) σ2 σ3 w2 ⟨hb.l, by omega, hC.fr f1, j4, j3, by show gs b 0 _ _ = _; rw [hb.gs0, if_neg n25], hb.ne.1, hb.ne.2, hb.ev⟩ h3
      refine ⟨fun z => ?_, fun z w4 σ5 h5 _ => ?_⟩
      · rcases k3 with ⟨e, -⟩ | ⟨-, g⟩
        · rw [e] at z; exact absurd z (by decide)
        · exact ⟨0, rfl, f1.trans k1, k2.trans f2, Or.inr ⟨rfl, g⟩⟩
      · rcases k3 with ⟨-, j', t1, t2, t3, t4⟩ | ⟨e, -⟩
        · have hkd := (kd_le hW t2).1
          have hga : ∀ len, gs (b + 2) 0 len (kdT TT j') = if 9 ≤ kdT TT j' ∧ kdT TT j' ≤ 12 then .inr (b + 4, 0) else .inl 1 := fun len => by
            rw [hb.gs2]
            unfold ga
            rw [if_neg t4, if_neg (fun e => absurd e.2 (by decide)), if_pos rfl]
          rw [t3.2.1] at h5
          have h5' : RCx PRG m1 101 [.ref 15, .int (clR (nI (kdT TT j')))] σ3 (some (.int w4)) σ5 := h5
          have res : FRc σ3 σ5 ∧ σ5.2 = σ3.2 ∧ ((w4 = 1 ∧ (9 ≤ kdT TT j' ∧ kdT TT j' ≤ 12) ∧ j' < 400 ∧ PCo TT (j' + 1) (evs TT j') σ5) ∨ (w4 = 0 ∧ FAc TT σ5)) := by
            rcases clR_k (kdT TT j') (by omega) with ⟨r1, r2, r3⟩ | ⟨r1, k', r2, r3, r4⟩
            · rw [r3] at h5'
              obtain ⟨l1, l2, l3⟩ := rc101 (k := kdT TT j') hW h5' ((hC.fr f1).fr k1) t3 t2 hkd (fun _ => ⟨(b + 4, 0), by show gs (b + 2) 0 _ _ = _; rw [hga, if_pos ⟨r1, r2⟩]⟩) (fun e => absurd rfl e)
              refine ⟨l1, l2, ?_⟩
              rcases l3 with ⟨e, q1, q2, q3⟩ | h
              · exact Or.inl ⟨e, ⟨r1, r2⟩, q2, q3⟩
              · exact Or.inr h
            · rw [r3] at h5'
              obtain ⟨l1, l2, l3⟩ := rc101 (k := k') hW h5' ((hC.fr f1).fr k1) t3 t2 (by omega) (fun e => absurd e r4) (fun _ => by show gs (b + 2) 0 _ _ = _; rw [hga, if_neg r1])
              refine ⟨l1, l2, ?_⟩
              rcases l3 with ⟨e, q1, -⟩ | h
              · exact absurd q1 r4
              · exact Or.inr h
          obtain ⟨l1, l2, l3⟩ := res
          refine ⟨fun z => ?_, fun z w6 σ7 h7 _ => ?_⟩
          · rcases l3 with ⟨e, -⟩ | ⟨-, g⟩
            · rw [e] at z; exact absurd z (by decide)
            · exact bad m1 σ5 ((f1.trans k1).trans l1) (l2.trans (k2.trans f2)) g
          · rcases l3 with ⟨-, q1, q2, q3⟩ | ⟨e, -⟩
            · have hs2 := pr_next (q := (b + 4, 0)) t2 (by show gs (b + 2) 0 _ _ = _; rw [hga, if_pos q1]) q2
              rw [show updD ((b + 2, 0), D).1.1 (kdT TT j') j' ((b + 2, 0), D).2 = D from upd_id hb.l.ne.1 (by omega) (fun e => by omega)] at hs2
              have ev2 : evs TT (j' + 1) = evs TT j' := by rw [evs_step t2, evO_0 hb.l.eva, orE_none]
              rw [← ev2] at q3
              obtain ⟨y1, y2, y3⟩ := expr_c hW m1 (j' + 1) (b + 5) (b + 4) (b + 6) 0 ((b + 4, 0), D) σ5 σ7 w6 ⟨hb.r, by omega, ((hC.fr f1).fr k1).fr l1, q3, hs2, hb.r.gsu _ _ _, hb.r.ne.2.1, hb.r.ne.2.2.2.1, hb.r.evu⟩ h7
              refine ⟨fun z => ?_, fun z σ8 h8 => ?_⟩
              · rcases y3 with ⟨e, -⟩ | ⟨-, g⟩
                · rw [e] at z; exact absurd z (by decide)
                · exact bad m1 σ7 (((f1.trans k1).trans l1).trans y1) (y2.trans (l2.trans (k2.trans f2))) g
              · rcases y3 with ⟨-, j2, u1, u2, u3, u4⟩ | ⟨e, -⟩
                · have good : ∀ (m2 : Nat) (σ9 : Sg), FRc σ σ9 → σ9.2 = σ.2 → PCo TT j2 (evs TT j2) σ9 → Pl PRG m2 d 111 107 [] [] σ9 (fun v0 σ' => ∃ v : Int32, v0 = some (.int v) ∧ liQ TT i b D (fun _ => True) σ σ' v) := fun m2 σ9 g1 g2 g3 => Pl.pos (fun m3 _ => p_111_107 σ9 ⟨1, rfl, g1, g2, Or.inl ⟨rfl, j2, by omega, u2, g3, u4, trivial⟩⟩)
                  obtain ⟨b1, b2, b3⟩ := rc108 h8
                  have g1 := (((f1.trans k1).trans l1).trans y1).trans b1
                  have g2 := b2.trans (y2.trans (l2.trans (k2.trans f2)))
                  refine ⟨fun _ => good m1 σ8 g1 g2 (u3.same b3), fun _ σ9 h9 => ?_⟩
                  obtain ⟨b1', b2', b3'⟩ := rc108 h9
                  exact good m1 σ9 (g1.trans b1') (b2'.trans g2) ((u3.same b3).same b3')
                · exact absurd e z
            · exact absurd e z
        · exact absurd e z
    have loop : ∀ (m : Nat) (kk j : Nat) (x : Int32) (σ2 : Sg), kk ≤ j → i ≤ j → FRc σ σ2 → σ2.2 = σ.2 → PCo TT j (evs TT j) σ2 → pr TT j = .inr ((b, 0), D) → Pl PRG m d 111 4 [(0, .ref 15), (1, .int x), (2, .int (nI kk))] [] σ2 (fun v0 σ' => ∃ v : Int32, v0 = some (.int v) ∧ liQ TT i b D (fun _ => True) σ σ' v) := by
      intro m
      induction m using Nat.strongRecOn with
      | _ m ihm =>
        intro kk j x σ2 hkk hij f1 f2 j4 j3
        have hj := j4.2.2.1
        have hkd := (kd_le hW j3).1
        have kI : nI (kdT TT j) = (25 : Int32) ↔ kdT TT j = 25 := nI_eq (b := 25) (by omega) (by decide)
        refine Pl.pos (fun m1 hm1 => p_111_4 σ2 x (nI kk) ⟨fun c1 => absurd c1 (nI_nlt (a := 400) (b := kk) (by omega) (by decide)), fun c1 => ?_⟩)
        rw [j4.2.1]
        refine ⟨fun c2 => ?_, fun c2 => body m1 x j σ2 hij f1 f2 j4 j3 (fun e => c2 (kI.mpr e))⟩
        have e25 := kI.mp c2
        have tk : ∀ (w4 : Int32) (σ3 : Sg) (x' : Int32), RCx PRG m1 101 [.ref 15, .int (25 : Int32)] σ2 (some (.int w4)) σ3 → ((w4 = 0 → ∃ v : Int32, some (Value.int (0 : Int32)) = some (.int v) ∧ liQ TT i b D (fun _ => True) σ σ3 v) ∧ (¬ w4 = 0 → Pl PRG m1 d 111 4 [(0, .ref 15), (1, .int x'), (2, .int (nI kk + (1 : Int32)))] [] σ3 (fun v0 σ' => ∃ v : Int32, v0 = some (.int v) ∧ liQ TT i b D (fun _ => True) σ σ' v))) := by
          intro w4 σ3 x' h3
          have hga : ∀ len, gs b 0 len (kdT TT j) = .inr (b, 0) := fun len => by rw [hb.gs0, if_pos e25]
          obtain ⟨l1, l2, l3⟩ := rc101 (k := 25) hW h3 (hC.fr f1) j4 j3 (by decide) (fun _ => ⟨(b, 0), hga _⟩) (fun e => absurd e25 e)
          refine ⟨fun z => ?_, fun z => ?_⟩
          · rcases l3 with ⟨e, -⟩ | ⟨-, g⟩
            · rw [e] at z; exact absurd z (by decide)
            · exact ⟨0, rfl, f1.trans l1, l2.trans f2, Or.inr ⟨rfl, g⟩⟩
          · rcases l3 with ⟨-, q1, q2, q3⟩ | ⟨e, -⟩
            · have hs2 := pr_next (q := (b, 0)) j3 (hga _) q2
              rw [show updD ((b, 0), D).1.1 (kdT TT j) j ((b, 0), D).2 = D from upd_id hb.ne.1 (by omega) (fun e => by omega)] at hs2
              have ev2 : evs TT (j + 1) = evs TT j := by rw [evs_step j3, evO_0 hb.ev, orE_none]
              rw [← ev2] at q3
              rw [nI_1]
              exact ihm m1 (by omega) (kk + 1) (j + 1) x' σ3 (by omega) (by omega) (f1.trans l1) (l2.trans f2) q3 hs2
            · exact absurd e z
        exact ⟨fun _ w4 σ3 h3 _ => tk w4 σ3 1 h3, fun _ w4 σ3 h3 _ => tk w4 σ3 0 h3⟩
    exact p_111_0 σ (loop m 0 i 0 σ (by omega) (Nat.le_refl i) (FRc.refl σ) rfl hP hs)
  cases hv
  exact hq
theorem cond_c {TT : List Tk} (hW : WT TT) {n i b : Nat} {D : DT} {σ σ1 : Sg} {w : Int32} (hb : BO b) (hC : CQ TT σ) (hP : PCo TT i (evs TT i) σ) (hs : pr TT i = .inr ((b, 0), D)) (h : RCx PRG n 112 [.ref 15] σ (some (.int w)) σ1) : liQ TT i b D (fun j => ¬ (kdT TT j = 23 ∨ kdT TT j = 24)) σ σ1 w := by
  obtain ⟨v, hv, hq⟩ : ∃ v : Int32, some (Value.int w) = some (.int v) ∧ liQ TT i b D (fun j => ¬ (kdT TT j = 23 ∨ kdT TT j = 24)) σ σ1 v := by
    refine h.by (Q := fun v0 σ' => ∃ v : Int32, v0 = some (.int v) ∧ liQ TT i b D (fun j => ¬ (kdT TT j = 23 ∨ kdT TT j = 24)) σ σ' v) (fun m d => ?_)
    have ends : ∀ (m : Nat) (y x : Int32) (σ2 : Sg), liQ TT i b D (fun j => ¬ (kdT TT j = 23 ∨ kdT TT j = 24)) σ σ2 x → Pl PRG m d 112 117 [(0, .ref 15), (1, .int y), (2, .int x)] [] σ2 (fun v0 σ' => ∃ v : Int32, v0 = some (.int v) ∧ liQ TT i b D (fun j => ¬ (kdT TT j = 23 ∨ kdT TT j = 24)) σ σ' v) := by
      intro m y x σ2 hI
      refine Pl.pos (fun m2 _ => p_112_117 σ2 y x ⟨fun _ => Pl.pos (fun m3 _ => p_112_128 σ2 x (fun _ => ⟨x, rfl, hI⟩)), fun _ σ3 h3 => ?_⟩)
      obtain ⟨b1, b2, b3⟩ := rc108 h3
      obtain ⟨f1, f2, f3⟩ := hI
      refine Pl.pos (fun m3 _ => p_112_128 σ3 x (fun _ => ⟨x, rfl, f1.trans b1, b2.trans f2, ?_⟩))
      rcases f3 with ⟨e, j, j1, j2, j3, j4⟩ | ⟨e, g⟩
      · exact Or.inl ⟨e, j, j1, j2, j3.same b3, j4⟩
      · exact Or.inr ⟨e, g.same b3⟩
    have loop : ∀ (m : Nat) (kk : Nat) (y x : Int32) (σ2 : Sg), kk ≤ 400 → liQ TT i b D (fun j => kk < j) σ σ2 x → Pl PRG m d 112 9 [(0, .ref 15), (1, .int y), (2, .int x), (3, .int (nI kk))] [] σ2 (fun v0 σ' => ∃ v : Int32, v0 = some (.int v) ∧ liQ TT i b D (fun j => ¬ (kdT TT j = 23 ∨ kdT TT j = 24)) σ σ' v) := by
      intro m
      induction m using Nat.strongRecOn with
      | _ m ihm =>
        intro kk y x σ2 hkk hI
        obtain ⟨f1, f2, f3⟩ := hI
        refine Pl.pos (fun m1 hm1 => p_112_9 σ2 y x (nI kk) ⟨fun c1 => ?_, fun c1 => ⟨fun c2 => ?_, fun c2 => ?_⟩⟩)
        · have h400 := (nI_leI (a := 400) (b := kk) (by decide) (by omega)).mp c1
          refine ends m1 y x σ2 ⟨f1, f2, ?_⟩
          rcases f3 with ⟨e, j, j1, j2, j3, j4, j5⟩ | g
          · have := j3.2.2.1; omega
          · exact Or.inr g
        · refine ends m1 y x σ2 ⟨f1, f2, ?_⟩
          rcases f3 with ⟨e, -⟩ | g
          · rw [e] at c2; exact absurd c2 (by decide)
          · exact Or.inr g
        · have hkk4 : kk < 400 := nle_of (a := 400) (b := kk) (by decide) (by omega) c1
          rcases f3 with ⟨e, j, j1, j3, j4, j5, j2⟩ | ⟨e, -⟩
          · have hkd := (kd_le hW j3).1
            rw [j4.2.1]
            have kI : ∀ k, k ≤ 36 → (nI (kdT TT j) = nI k ↔ kdT TT j = k) := fun k hk => nI_eq (by omega) (by omega)
            have go : kdT TT j = 23 ∨ kdT TT j = 24 → Pl PRG m1 d 112 38 [(0, .ref 15), (1, .int y), (3, .int (nI kk))] [] σ2 (fun v0 σ' => ∃ v : Int32, v0 = some (.int v) ∧ liQ TT i b D (fun j => ¬ (kdT TT j = 23 ∨ kdT TT j = 24)) σ σ' v) := by
              intro hk
              have back : ∀ (m2 : Nat), m2 < m → ∀ (y2 x2 : Int32) (σ3 : Sg), liQ TT i b D (fun j => kk + 1 < j) σ σ3 x2 → Pl PRG m2 d 112 111 [(0, .ref 15), (1, .int y2), (2, .int x2), (3, .int (nI kk))] [] σ3 (fun v0 σ' => ∃ v : Int32, v0 = some (.int v) ∧ liQ TT i b D (fun j => ¬ (kdT TT j = 23 ∨ kdT TT j = 24)) σ σ' v) := fun m2 hm2 y2 x2 σ3 hI3 => Pl.pos (fun m3 hm3 => p_112_111 σ3 y2 x2 (nI kk) (by
                rw [nI_1]
                exact ihm m3 (by omega) (kk + 1) y2 x2 σ3 (by omega) hI3))
              have low : ∀ (m2 : Nat), m2 < m → ∀ (y2 x4 : Int32) (σ3 : Sg), FRc σ σ3 → σ3.2 = σ.2 → FAc TT σ3 → Pl PRG m2 d 112 92 [(0, .ref 15), (1, .int y2), (3, .int (nI kk)), (4, .int x4)] [] σ3 (fun v0 σ' => ∃ v : Int32, v0 = some (.int v) ∧ liQ TT i b D (fun j => ¬ (kdT TT j = 23 ∨ kdT TT j = 24)) σ σ' v) := fun m2 hm2 y2 x4 σ3 g1 g2 g3 => Pl.pos (fun m3 hm3 => p_112_92 σ3 y2 (nI kk) x4 ⟨fun _ => back m3 (by omega) 1 0 σ3 ⟨g1, g2, Or.inr ⟨rfl, g3⟩⟩, fun _ σ4 h4 => by
                obtain ⟨b1, b2, b3⟩ := rc108 h4
                exact back m3 (by omega) y2 0 σ4 ⟨g1.trans b1, b2.trans g2, Or.inr ⟨rfl, g3.same b3⟩⟩⟩)
              have op : ∀ (m2 : Nat), m2 < m → ∀ (y2 x4 : Int32) (σ3 : Sg), FRc σ σ3 → σ3.2 = σ.2 → PCo TT j (evs TT j) σ3 → Pl PRG m2 d 112 70 [(0, .ref 15), (1, .int y2), (3, .int (nI kk)), (4, .int x4)] [] σ3 (fun v0 σ' => ∃ v : Int32, v0 = some (.int v) ∧ liQ TT i b D (fun j => ¬ (kdT TT j = 23 ∨ kdT TT j = 24)) σ σ' v) := by
                intro m2 hm2 y2 x4 σ3 g1 g2 g3
                refine Pl.pos (fun m3 hm3 => p_112_70 σ3 y2 (nI kk) x4 (fun w2 σ4 h4 _ => ?_))
                rw [g3.2.1] at h4
                have hga : ∀ len, gs (b + 5) 0 len (kdT TT j) = .inr (b, 0) := fun len => by
                  rw [hb.gs5]
                  unfold ga
                  rw [if_neg j5, if_neg (fun e => absurd e.2 (by decide)), if_pos rfl, if_pos hk]
                obtain ⟨l1, l2, l3⟩ := rc101 (k := kdT TT j) hW h4 (hC.fr g1) g3 j3 hkd (fun _ => ⟨(b, 0), hga _⟩) (fun e => absurd rfl e)
                refine ⟨fun z => ?_, fun z w4 σ5 h5 _ => ?_⟩
                · rcases l3 with ⟨e', -⟩ | ⟨-, g⟩
                  · rw [e'] at z; exact absurd z (by decide)
                  · exact low m3 (by omega) y2 x4 σ4 (g1.trans l1) (l2.trans g2) g
                · rcases l3 with ⟨e', q1, q2, q3⟩ | ⟨e', -⟩
                  · have hs2 := pr_next (q := (b, 0)) j3 (hga _) q2
                    rw [show updD ((b + 5, 0), D).1.1 (kdT TT j) j ((b + 5, 0), D).2 = D from upd_id hb.r.ne.1 (by omega) (fun e => by omega)] at hs2
                    have ev2 : evs TT (j + 1) = evs TT j := by rw [evs_step j3, evO_0 hb.r.eva, orE_none]
                    rw [← ev2] at q3
                    obtain ⟨k1, k2, k3⟩ := lit_c hW hb ((hC.fr g1).fr l1) q3 hs2 h5
                    refine ⟨fun z => ?_, fun z => ?_⟩
                    · rcases k3 with ⟨e'', -⟩ | ⟨-, g⟩
                      · rw [e''] at z; exact absurd z (by decide)
                      · exact low m3 (by omega) y2 x4 σ5 ((g1.trans l1).trans k1) (k2.trans (l2.trans g2)) g
                    · rcases k3 with ⟨-, j', t1, t2, t3, t4, -⟩ | ⟨e'', -⟩
                      · have nx : liQ TT i b D (fun j => kk + 1 < j) σ σ5 1 := ⟨(g1.trans l1).trans k1, k2.trans (l2.trans g2), Or.inl ⟨rfl, j', by omega, t2, t3, t4, by omega⟩⟩
                        refine ⟨fun _ => back m3 (by omega) 1 1 σ5 nx, fun _ σ6 h6 => ?_⟩
                        obtain ⟨b1, b2, b3⟩ := rc108 h6
                        exact back m3 (by omega) y2 1 σ6 ⟨nx.1.trans b1, b2.trans nx.2.1, Or.inl ⟨rfl, j', by omega, t2, t3.same b3, t4, by omega⟩⟩
                      · exact absurd e'' z
                  · exact absurd e' z
              refine Pl.pos (fun m2 hm2 => p_112_38 σ2 y (nI kk) ⟨fun _ => op m2 (by omega) y 1 σ2 f1 f2 j4, fun _ => ⟨fun _ => op m2 (by omega) y 0 σ2 f1 f2 j4, fun _ σ3 h3 => ?_⟩⟩)
              obtain ⟨b1, b2, b3⟩ := rc108 h3
              exact op m2 (by omega) y 0 σ3 (f1.trans b1) (b2.trans f2) (j4.same b3)
            refine ⟨fun c3 => go (Or.inr ((kI 24 (by decide)).mp c3)), fun c3 => ⟨fun c4 => go (Or.inl ((kI 23 (by decide)).mp c4)), fun c4 => ends m1 y x σ2 ⟨f1, f2, Or.inl ⟨e, j, j1, j3, j4, j5, ?_⟩⟩⟩⟩
            rintro (e1 | e1)
            · exact c4 ((kI 23 (by decide)).mpr e1)
            · exact c3 ((kI 24 (by decide)).mpr e1)
          · exact absurd e c2
    refine p_112_0 σ (fun w2 σ2 h2 _ => ?_)
    obtain ⟨k1, k2, k3⟩ := lit_c hW hb hC hP hs h2
    refine loop m 0 0 w2 σ2 (by omega) ⟨k1, k2, ?_⟩
    rcases k3 with ⟨e, j, t1, t2, t3, t4, -⟩ | g
    · exact Or.inl ⟨e, j, t1, t2, t3, t4, by omega⟩
    · exact Or.inr g
  cases hv
  exact hq
/-! what is told: packs, trumps, customs -/
def NMc (TT : List Tk) (D : DT) (σ : Sg) : Prop := ∀ (q : Nat) (e : Nat × Nat × Nat), D.2.2.1[q]? = some e → σ.2 16 q = n32T TT e.1
def PKw (TT : List Tk) (D : DT) (σ : Sg) : Prop := match D.2.2.2.1 with
  | none => σ.1 3 0 = 4 ∧ σ.1 3 1 = 4
  | some j => σ.1 3 0 = vlT TT j ∧ σ.1 3 1 = vlT TT (j + 1)
def TRw (TT : List Tk) (D : DT) (σ : Sg) : Prop := match D.2.2.2.2 with
  | none => σ.1 3 2 = -1
  | some j => σ.1 3 2 = vlT TT j
def CUw (TT : List Tk) (D : DT) (σ : Sg) : Prop := σ.1 3 3 = nI D.2.2.1.length ∧ ∀ (q : Nat) (e : Nat × Nat × Nat), D.2.2.1[q]? = some e → σ.1 4 q = vlT TT (e.1 + 1) ∧ σ.1 5 q = nI (kdT TT (e.1 + 2) - 18)
/-- what has been written into the laws so far -/
def WRc (TT : List Tk) (D : DT) (σ : Sg) : Prop := σ.1 15 3 = 0 ∨ (PKw TT D σ ∧ TRw TT D σ ∧ CUw TT D σ)
theorem WRc.of {TT : List Tk} {D : DT} {σ σ1 : Sg} (h : WRc TT D σ) (h3 : σ1.1 15 3 = σ.1 15 3) (hl : ∀ x, x < 4 → σ1.1 3 x = σ.1 3 x) (h4 : ∀ x, σ1.1 4 x = σ.1 4 x) (h5 : ∀ x, σ1.1 5 x = σ.1 5 x) : WRc TT D σ1 := by
  rcases h with h | ⟨a, b, c⟩
  · exact Or.inl (by rw [h3]; exact h)
  · refine Or.inr ⟨?_, ?_, ?_⟩
    · unfold PKw at a ⊢
      cases hp : D.2.2.2.1 with
      | none => rw [hp] at a; rw [hl 0 (by decide), hl 1 (by decide)]; exact a
      | some j => rw [hp] at a; rw [hl 0 (by decide), hl 1 (by decide)]; exact a
    · unfold TRw at b ⊢
      cases hp : D.2.2.2.2 with
      | none => rw [hp] at b; rw [hl 2 (by decide)]; exact b
      | some j => rw [hp] at b; rw [hl 2 (by decide)]; exact b
    · exact ⟨by rw [hl 3 (by decide)]; exact c.1, fun q e he => by rw [h4, h5]; exact c.2 q e he⟩
theorem WRc.fr {TT : List Tk} {D : DT} {σ σ1 : Sg} (h : WRc TT D σ) (hF : FRc σ σ1) : WRc TT D σ1 := h.of hF.2.2.1 (fun x hx => hF.2.1 3 x (by decide) (by decide) (by omega)) (fun x => hF.2.1 4 x (by decide) (by decide) (by omega)) (fun x => hF.2.1 5 x (by decide) (by decide) (by omega))
/-- between twoK of what is told -/
def TIc (TT : List Tk) (i : Nat) (D : DT) (σ : Sg) : Prop := CQ TT σ ∧ PCo TT i (evs TT i) σ ∧ pr TT i = .inr ((0, 0), D) ∧ NMc TT D σ ∧ σ.1 15 6 = nI D.2.2.1.length ∧ D.2.2.1.length ≤ 6 ∧ WRc TT D σ
def onQ (TT : List Tk) (i : Nat) (σ1 : Sg) : Prop := (∃ j D, i < j ∧ TIc TT j D σ1) ∨ FAc TT σ1
theorem or_two (a : Option (Nat × Nat)) (x y : Bool) (e : Nat × Nat) : orE (orE a (bif x then some e else none)) (bif y then some e else none) = orE a (bif x || y then some e else none) := by
  cases a <;> cases x <;> cases y <;> rfl
theorem neg1 {w : Int32} (e : w = -1) : ¬ 0 ≤ w ∧ w < 0 := by rw [e]; exact ⟨by decide, by decide⟩
theorem nonneg {x : Int32} (h : 0 ≤ x.toInt) : (0 : Int32) ≤ x ∧ ¬ x < 0 := by
  have : (0 : Int32).toInt = 0 := by decide
  rw [Int32.le_iff_toInt_le, Int32.lt_iff_toInt_lt]
  omega
theorem pack_c {TT : List Tk} (hW : WT TT) {n i : Nat} {D : DT} {σ σ1 : Sg} (hT : TIc TT i D σ) (hk : kdT TT i = 15) (h : RCx PRG n 104 [.ref 15] σ none σ1) : onQ TT i σ1 := by
  obtain ⟨hC, hP, hs, hN, hc6, hl6, hR⟩ := hT
  refine h.by (Q := fun _ σ' => onQ TT i σ') (fun m d => p_104_0 σ (fun w2 σ1 h1 _ => ?_))
  have g0 : ∀ len, gs 0 0 len (kdT TT i) = .inr (1, 0) := fun len => by rw [hk]; rfl
  obtain ⟨f1, f2, f3⟩ := rc101 (k := 15) hW h1 hC hP hs (by decide) (fun _ => ⟨(1, 0), g0 _⟩) (fun e => absurd hk e)
  refine ⟨fun z => ?_, fun z w4 σ3 h3 => ?_⟩
  · rcases f3 with ⟨e, -⟩ | ⟨-, g⟩
    · rw [e] at z; exact absurd z (by decide)
    · exact Or.inr g
  · rcases f3 with ⟨-, a1, a2, a3⟩ | ⟨e, -⟩
    · have hs1 := pr_next (q := (1, 0)) hs (g0 _) a2
      rw [show updD ((0, 0), D).1.1 (kdT TT i) i ((0, 0), D).2 = D by rw [hk]; rfl] at hs1
      have e1 : evs TT (i + 1) = evs TT i := by rw [evs_step hs]; exact orE_none _
      rw [← e1] at a3
      obtain ⟨b1, b2, b3⟩ := rc103 hW h3 (hC.fr f1) a3 hs1 (fun e => ⟨(2, 0), if_pos e⟩) (fun e => if_neg e)
      have v1 := vl_rg hW hs1
      refine ⟨fun z => ?_, fun z w6 σ5 h5 => ?_⟩
      · rcases b3 with ⟨e, -⟩ | ⟨-, g⟩
        · rw [e] at z; exact absurd z (nonneg v1.1).2
        · exact Or.inr g
      · rcases b3 with ⟨ew4, c1, c2, c3⟩ | ⟨e, -⟩
        · have hs2 := pr_next (q := (2, 0)) hs1 (if_pos c1) c2
          rw [show updD ((1, 0), D).1.1 (kdT TT (i + 1)) (i + 1) ((1, 0), D).2 = D from upd_id (m := 1) (by decide) (by omega) (fun e => absurd (show (1 : Nat) = 25 from e.1) (by decide))] at hs2
          have e2 : evs TT (i + 1 + 1) = orE (evs TT (i + 1)) (bif off (vlT TT (i + 1)) 1 4 then some (5, i + 1) else none) := by rw [evs_step hs1, evO_off (b := off (vlT TT (i + 1)) 1 4) rfl]
          rw [← e2] at c3
          obtain ⟨d1, d2, d3⟩ := rc103 hW h5 ((hC.fr f1).fr b1) c3 hs2 (fun e => ⟨(3, 0), if_pos e⟩) (fun e => if_neg e)
          have v2 := vl_rg hW hs2
          refine ⟨fun z => ?_, fun z => ?_⟩
          · rcases d3 with ⟨ew6, t1, t2, t3⟩ | ⟨e, -⟩
            · have hs3 := pr_next (q := (3, 0)) hs2 (if_pos t1) t2
              rw [show updD ((2, 0), D).1.1 (kdT TT (i + 1 + 1)) (i + 1 + 1) ((2, 0), D).2 = D from upd_id (m := 2) (by decide) (by omega) (fun e => absurd (show (2 : Nat) = 25 from e.1) (by decide))] at hs3
              have e3 : evs TT (i + 1 + 1 + 1) = orE (evs TT (i + 1 + 1)) (bif off (vlT TT (i + 1 + 1)) 1 16 || badP (vlT TT (i + 1)) (vlT TT (i + 1 + 1)) then some (5, i + 1 + 1) else none) := by rw [evs_step hs2, evO_off (b := off (vlT TT (i + 1 + 1)) 1 16 || badP (vlT TT (i + 1)) (vlT TT (i + 1 + 1))) rfl]
              have tail : ∀ (m2 : Nat) (σ6 : Sg), FRc σ σ6 → σ6.2 = σ.2 → PCo TT (i + 1 + 1 + 1) (evs TT (i + 1 + 1 + 1)) σ6 → Pl PRG m2 d 104 68 [(0, .ref 15), (1, .int w4), (2, .int w6)] [] σ6 (fun _ σ' => onQ TT i σ') := by
                intro m2 σ6 g1 g2 g3
                refine Pl.pos (fun m3 _ => p_104_68 σ6 w4 w6 (fun w7 σ7 h7 _ => ?_))
                have en : ∀ (m4 : Nat) (σ8 : Sg), onQ TT i σ8 → Pl PRG m4 d 104 99 [] [] σ8 (fun _ σ' => onQ TT i σ') := fun m4 σ8 hq => Pl.pos (fun m5 _ => p_104_99 σ8 hq)
                obtain ⟨l1, l2, l3⟩ := rc101 (k := 4) hW h7 (hC.fr g1) g3 hs3 (by decide) (fun e => ⟨(0, 0), if_pos e⟩) (fun e => if_neg e)
                refine ⟨fun z => en m3 σ7 ?_, fun z => ?_⟩
                · rcases l3 with ⟨e, -⟩ | ⟨-, g⟩
                  · rw [e] at z; exact absurd z (by decide)
                  · exact Or.inr g
                · rcases l3 with ⟨-, u1, u2, u3⟩ | ⟨e, -⟩
                  · have hs4 := pr_next (q := (0, 0)) hs3 (if_pos u1) u2
                    have eU : updD ((3, 0), D).1.1 (kdT TT (i + 1 + 1 + 1)) (i + 1 + 1 + 1) ((3, 0), D).2 = (D.1, D.2.1, D.2.2.1, some (i + 1), D.2.2.2.2) := by rw [u1]; rfl
                    rw [eU] at hs4
                    have e4 : evs TT (i + 1 + 1 + 1 + 1) = evs TT (i + 1 + 1 + 1) := by rw [evs_step hs3]; exact orE_none _
                    rw [← e4] at u3
                    have g4 := g1.trans l1
                    have c6 : σ7.1 15 6 = nI D.2.2.1.length := by rw [g4.2.2.2]; exact hc6
                    have nm : ∀ σ8 : Sg, σ8.2 = σ7.2 → NMc TT (D.1, D.2.1, D.2.2.1, some (i + 1), D.2.2.2.2) σ8 := fun σ8 e q x hx => by rw [e, l2, g2]; exact hN q x hx
                    refine ⟨fun hw => en m3 σ7 (Or.inl ⟨_, _, by omega, (hC.fr g4), u3, hs4, nm σ7 rfl, c6, hl6, Or.inl hw⟩), fun hw => en m3 _ (Or.inl ⟨i + 1 + 1 + 1 + 1, _, by omega, ?_, ?_, hs4, nm _ rfl, ?_, hl6, ?_⟩)⟩
                    · exact fun x t hx ht hg => by
                        obtain ⟨q1, q2, q3, q4⟩ := (hC.fr g4) x t hx ht hg
                        exact ⟨by rw [s1_off (by omega), s1_off (by omega)]; exact q1, by rw [s1_off (by omega), s1_off (by omega)]; exact q2, q3, q4⟩
                    · exact u3.same (fun j => by rw [s1_off (by omega), s1_off (by omega)])
                    · rw [s1_off (by omega), s1_off (by omega)]; exact c6
                    · rcases hR.fr g4 with hR | ⟨r1, r2, r3⟩
                      · exact absurd hR hw
                      · refine Or.inr ⟨⟨?_, ?_⟩, ?_, ?_⟩
                        · rw [s1_off (by omega), s1_on]; exact ew4
                        · rw [s1_on]; exact ew6
                        · unfold TRw at r2 ⊢
                          cases hp : D.2.2.2.2 with
                          | none => rw [hp] at r2; simp only; rw [s1_off (by omega), s1_off (by omega)]; exact r2
                          | some j => rw [hp] at r2; simp only; rw [s1_off (by omega), s1_off (by omega)]; exact r2
                        · exact ⟨by rw [s1_off (by omega), s1_off (by omega)]; exact r3.1, fun q x hx => by rw [s1_off (by omega), s1_off (by omega), s1_off (by omega), s1_off (by omega)]; exact r3.2 q x hx⟩
                  · exact absurd e z
              have F := (f1.trans b1).trans d1
              have F2 := d2.trans (b2.trans f2)
              have bad : badP w4 w6 = true → ∀ m2, Pl PRG m2 d 104 57 [(0, .ref 15), (1, .int w4), (2, .int w6)] [] σ5 (fun _ σ' => onQ TT i σ') := by
                intro hb m2
                refine Pl.pos (fun m3 _ => p_104_57 σ5 w4 w6 (fun σ6 h6 => ?_))
                rw [t3.1] at h6
                have ei : nI (i + 1 + 1 + 1) - (1 : Int32) = nI (i + 1 + 1) := by rw [← nI_1, Int32.add_sub_cancel]
                rw [ei] at h6
                obtain ⟨y1, y2, y3, y4⟩ := rc102 (f := 5) hW h6 (hC.fr F) t3.2.2.2.2.1 hs2 (by omega) (by decide)
                refine tail m3 σ6 (F.trans y1) (y2.trans F2) ?_
                rw [e3]
                have hb2 : badP (vlT TT (i + 1)) (vlT TT (i + 1 + 1)) = true := by rw [← ew4, ← ew6]; exact hb
                have := or_two (evs TT (i + 1 + 1)) (off (vlT TT (i + 1 + 1)) 1 16) (badP (vlT TT (i + 1)) (vlT TT (i + 1 + 1))) (5, i + 1 + 1)
                rw [← this, hb2]
                exact t3.ev y3 y4
              refine ⟨fun c => bad (by unfold badP; rw [decide_eq_true c]; rfl) m, fun c => ⟨fun c2 => tail m σ5 F F2 ?_, fun c2 => bad (by unfold badP; rw [decide_eq_false c2]; exact Bool.or_true _) m⟩⟩
              have hb2 : badP (vlT TT (i + 1)) (vlT TT (i + 1 + 1)) = false := by
                rw [← ew4, ← ew6]
                unfold badP
                rw [decide_eq_false c, decide_eq_true c2]
                rfl
              rw [e3, hb2, Bool.or_false]
              exact t3
            · rw [e] at z; exact absurd z (by decide)
          · rcases d3 with ⟨e, -⟩ | ⟨-, g⟩
            · rw [e] at z; exact absurd (nonneg v2.1).1 z
            · exact Or.inr g
        · exact absurd (neg1 e).2 z
    · exact absurd e z
theorem trump_c {TT : List Tk} (hW : WT TT) {n i : Nat} {D : DT} {σ σ1 : Sg} (hT : TIc TT i D σ) (hk : kdT TT i = 16) (h : RCx PRG n 105 [.ref 15] σ none σ1) : onQ TT i σ1 := by
  obtain ⟨hC, hP, hs, hN, hc6, hl6, hR⟩ := hT
  refine h.by (Q := fun _ σ' => onQ TT i σ') (fun m d => p_105_0 σ (fun w2 σ1 h1 _ => ?_))
  have g0 : ∀ len, gs 0 0 len (kdT TT i) = .inr (4, 0) := fun len => by rw [hk]; rfl
  obtain ⟨f1, f2, f3⟩ := rc101 (k := 16) hW h1 hC hP hs (by decide) (fun _ => ⟨(4, 0), g0 _⟩) (fun e => absurd hk e)
  refine ⟨fun z => ?_, fun z w4 σ3 h3 => ?_⟩
  · rcases f3 with ⟨e, -⟩ | ⟨-, g⟩
    · rw [e] at z; exact absurd z (by decide)
    · exact Or.inr g
  · rcases f3 with ⟨-, a1, a2, a3⟩ | ⟨e, -⟩
    · have hs1 := pr_next (q := (4, 0)) hs (g0 _) a2
      rw [show updD ((0, 0), D).1.1 (kdT TT i) i ((0, 0), D).2 = D by rw [hk]; rfl] at hs1
      have e1 : evs TT (i + 1) = evs TT i := by rw [evs_step hs]; exact orE_none _
      rw [← e1] at a3
      obtain ⟨b1, b2, b3⟩ := rc103 hW h3 (hC.fr f1) a3 hs1 (fun e => ⟨(5, 0), if_pos e⟩) (fun e => if_neg e)
      have v1 := vl_rg hW hs1
      refine ⟨fun z => ?_, fun z w6 σ5 h5 _ => ?_⟩
      · rcases b3 with ⟨e, -⟩ | ⟨-, g⟩
        · rw [e] at z; exact absurd z (nonneg v1.1).2
        · exact Or.inr g
      · rcases b3 with ⟨ew4, c1, c2, c3⟩ | ⟨e, -⟩
        · have hs2 := pr_next (q := (5, 0)) hs1 (if_pos c1) c2
          rw [show updD ((4, 0), D).1.1 (kdT TT (i + 1)) (i + 1) ((4, 0), D).2 = D from upd_id (m := 4) (by decide) (by omega) (fun e => absurd (show (4 : Nat) = 25 from e.1) (by decide))] at hs2
          have e2 : evs TT (i + 1 + 1) = orE (evs TT (i + 1)) (bif off (vlT TT (i + 1)) 0 3 then some (5, i + 1) else none) := by rw [evs_step hs1, evO_off (b := off (vlT TT (i + 1)) 0 3) rfl]
          rw [← e2] at c3
          obtain ⟨l1, l2, l3⟩ := rc101 (k := 4) hW h5 ((hC.fr f1).fr b1) c3 hs2 (by decide) (fun e => ⟨(0, 0), if_pos e⟩) (fun e => if_neg e)
          refine ⟨fun z => ?_, fun z => ?_⟩
          · rcases l3 with ⟨e, -⟩ | ⟨-, g⟩
            · rw [e] at z; exact absurd z (by decide)
            · exact Or.inr g
          · rcases l3 with ⟨-, u1, u2, u3⟩ | ⟨e, -⟩
            · have hs4 := pr_next (q := (0, 0)) hs2 (if_pos u1) u2
              have eU : updD ((5, 0), D).1.1 (kdT TT (i + 1 + 1)) (i + 1 + 1) ((5, 0), D).2 = (D.1, D.2.1, D.2.2.1, D.2.2.2.1, some (i + 1)) := by rw [u1]; rfl
              rw [eU] at hs4
              have e4 : evs TT (i + 1 + 1 + 1) = evs TT (i + 1 + 1) := by rw [evs_step hs2]; exact orE_none _
              rw [← e4] at u3
              have g4 := (f1.trans b1).trans l1
              have g2 := l2.trans (b2.trans f2)
              have c6 : σ5.1 15 6 = nI D.2.2.1.length := by rw [g4.2.2.2]; exact hc6
              have nm : ∀ σ8 : Sg, σ8.2 = σ5.2 → NMc TT (D.1, D.2.1, D.2.2.1, D.2.2.2.1, some (i + 1)) σ8 := fun σ8 e q x hx => by rw [e, g2]; exact hN q x hx
              refine ⟨fun hw => Or.inl ⟨_, _, by omega, (hC.fr g4), u3, hs4, nm σ5 rfl, c6, hl6, Or.inl hw⟩, fun hw => Or.inl ⟨i + 1 + 1 + 1, _, by omega, ?_, ?_, hs4, nm _ rfl, ?_, hl6, ?_⟩⟩
              · exact fun x t hx ht hg => by
                  obtain ⟨q1, q2, q3, q4⟩ := (hC.fr g4) x t hx ht hg
                  exact ⟨by rw [s1_off (by omega)]; exact q1, by rw [s1_off (by omega)]; exact q2, q3, q4⟩
              · exact u3.same (fun j => by rw [s1_off (by omega)])
              · rw [s1_off (by omega)]; exact c6
              · rcases hR.fr g4 with hR | ⟨r1, r2, r3⟩
                · exact absurd hR hw
                · refine Or.inr ⟨?_, ?_, ?_⟩
                  · unfold PKw at r1 ⊢
                    cases hp : D.2.2.2.1 with
                    | none => rw [hp] at r1; simp only; rw [s1_off (by omega), s1_off (by omega)]; exact r1
                    | some j => rw [hp] at r1; simp only; rw [s1_off (by omega), s1_off (by omega)]; exact r1
                  · show (s1 σ5 3 2 w4).1 3 2 = vlT TT (i + 1)
                    rw [s1_on]; exact ew4
                  · exact ⟨by rw [s1_off (by omega)]; exact r3.1, fun q x hx => by rw [s1_off (by omega), s1_off (by omega)]; exact r3.2 q x hx⟩
            · exact absurd e z
        · exact absurd (neg1 e).2 z
    · exact absurd e z
/-- a name -/
def twice (TT : List Tk) (i : Nat) (l : List (Nat × Nat × Nat)) (q : Nat) : Bool := (l.take q).any (fun e => decide (n32T TT e.1 = n32T TT i))
theorem twice_s {TT : List Tk} {i q : Nat} {l : List (Nat × Nat × Nat)} {e : Nat × Nat × Nat} (h : l[q]? = some e) : twice TT i l (q + 1) = (twice TT i l q || decide (n32T TT e.1 = n32T TT i)) := by
  unfold twice
  rw [List.take_add_one, h, List.any_append]
  simp
theorem evO_6 {TT : List Tk} {i dp : Nat} {D : DT} : evO TT ((6, dp), D) i = bif twice TT i D.2.2.1 D.2.2.1.length then some (3, i) else none := by
  unfold evO twice
  rw [List.take_length]
  have : evT TT ((6, dp), D) i = bif D.2.2.1.any (fun e => decide (n32T TT e.1 = n32T TT i)) then 3 else 0 := rfl
  rw [this]
  cases D.2.2.1.any (fun e => decide (n32T TT e.1 = n32T TT i)) <;> rfl
theorem name_c {TT : List Tk} (hW : WT TT) {n i : Nat} {D : DT} {σ σ1 : Sg} {w : Int32} (hC : CQ TT σ) (hP : PCo TT i (evs TT i) σ) (hs : pr TT i = .inr ((6, 0), D)) (hN : NMc TT D σ) (hc6 : σ.1 15 6 = nI D.2.2.1.length) (hl : D.2.2.1.length < 6) (h : RCx PRG n 107 [.ref 15] σ (some (.int w)) σ1) : FRc σ σ1 ∧ ((w = 1 ∧ pr TT (i + 1) = .inr ((7, 0), i, D.2) ∧ PCo TT (i + 1) (evs TT (i + 1)) σ1 ∧ NMc TT D σ1 ∧ σ1.2 16 D.2.2.1.length = n32T TT i) ∨ (w = 0 ∧ FAc TT σ1)) := by
  have p1 := hP.1
  have p3 := hP.2.2.1
  have hat := CQ_at hW hC hs p3
  have hq := h.by (Q := fun v σ' => FRc σ σ' ∧ ((v = some (.int 1) ∧ pr TT (i + 1) = .inr ((7, 0), i, D.2) ∧ PCo TT (i + 1) (evs TT (i + 1)) σ' ∧ NMc TT D σ' ∧ σ'.2 16 D.2.2.1.length = n32T TT i) ∨ (v = some (.int 0) ∧ FAc TT σ'))) (fun m d => p_107_0 σ (fun _ w2 σ2 h2 _ => by
    rw [p1, nI_clamp (by omega)]
    obtain ⟨f1, f2, f3⟩ := rc101 (k := 2) hW h2 hC hP hs (by decide) (fun e => ⟨(7, 0), if_pos e⟩) (fun e => if_neg e)
    refine ⟨fun z => ?_, fun z => ?_⟩
    · rcases f3 with ⟨e, -⟩ | ⟨-, g⟩
      · rw [e] at z; exact absurd z (by decide)
      · exact ⟨f1, Or.inr ⟨rfl, g⟩⟩
    · rcases f3 with ⟨-, a1, a2, a3⟩ | ⟨e, -⟩
      · have hs1 := pr_next (q := (7, 0)) hs (if_pos a1) a2
        rw [show updD ((6, 0), D).1.1 (kdT TT i) i ((6, 0), D).2 = (i, D.2) from rfl] at hs1
        have c6 : σ2.1 15 6 = nI D.2.2.1.length := by rw [f1.2.2.2]; exact hc6
        rw [c6, hat.2.2.2 a1]
        have hE : evs TT (i + 1) = orE (evs TT i) (bif twice TT i D.2.2.1 D.2.2.1.length then some (3, i) else none) := by rw [evs_step hs, evO_6]
        have loop : ∀ (m2 q : Nat) (σ3 : Sg), q ≤ D.2.2.1.length → FRc σ σ3 → σ3.2 = σ.2 → PCo TT (i + 1) (orE (evs TT i) (bif twice TT i D.2.2.1 q then some (3, i) else none)) σ3 → Pl PRG m2 d 107 34 [(0, .ref 15), (1, .long (n32T TT i)), (3, .int (nI q))] [] σ3 (fun v σ' => FRc σ σ' ∧ ((v = some (.int 1) ∧ pr TT (i + 1) = .inr ((7, 0), i, D.2) ∧ PCo TT (i + 1) (evs TT (i + 1)) σ' ∧ NMc TT D σ' ∧ σ'.2 16 D.2.2.1.length = n32T TT i) ∨ (v = some (.int 0) ∧ FAc TT σ'))) := by
          intro m2
          induction m2 with
          | zero => intro q σ3 _ _ _ _; exact Pl.zero
          | succ m2 ihm =>
            intro q σ3 hq g1 g2 g3
            have c6' : σ3.1 15 6 = nI D.2.2.1.length := by rw [g1.2.2.2]; exact hc6
            refine p_107_34 σ3 (nI q) (n32T TT i) ?_
            rw [c6']
            refine ⟨fun c _ => ?_, fun c _ => ?_⟩
            · have hq2 := (nI_leI (a := D.2.2.1.length) (b := q) (by omega) (by omega)).mp c
              have e : q = D.2.2.1.length := by omega
              rw [nI_clamp (by omega)]
              rw [e, ← hE] at g3
              refine ⟨⟨fun q x hq => ?_, g1.2.1, g1.2.2⟩, Or.inl ⟨rfl, hs1, g3.same (fun _ => rfl), fun q' x hx => ?_, ?_⟩⟩
              · show (if q = 16 ∧ x = D.2.2.1.length then n32T TT i else σ3.2 q x) = _
                rw [if_neg (fun e => hq e.1)]
                exact g1.1 q x hq
              · have hlt : q' < D.2.2.1.length := (List.getElem?_eq_some_iff.mp hx).1
                show (if (16 : Nat) = 16 ∧ q' = D.2.2.1.length then n32T TT i else σ3.2 16 q') = _
                rw [if_neg (fun e => by omega), g2]
                exact hN q' x hx
              · show (if (16 : Nat) = 16 ∧ D.2.2.1.length = D.2.2.1.length then n32T TT i else σ3.2 16 D.2.2.1.length) = _
                rw [if_pos ⟨rfl, rfl⟩]
            · have hq2 : q < D.2.2.1.length := nle_of (by omega) (by omega) c
              have hx : D.2.2.1[q]? = some D.2.2.1[q] := List.getElem?_eq_getElem hq2
              rw [nI_clamp (by omega), g2, hN q _ hx]
              have st := twice_s (TT := TT) (i := i) hx
              refine ⟨fun c2 σ4 h4 => ?_, fun c2 => ?_⟩
              · have ee := (lg_cmp_eq _ _).mp c2
                rw [g3.1] at h4
                have ei : nI (i + 1) - (1 : Int32) = nI i := by rw [← nI_1, Int32.add_sub_cancel]
                rw [ei] at h4
                obtain ⟨y1, y2, y3, y4⟩ := rc102 (f := 3) hW h4 (hC.fr g1) g3.2.2.2.2.1 hs p3 (by decide)
                rw [nI_1]
                refine ihm (q + 1) σ4 (by omega) (g1.trans y1) (y2.trans g2) ?_
                rw [st, decide_eq_true ee]
                have := or_two (evs TT i) (twice TT i D.2.2.1 q) true (3, i)
                rw [← this]
                exact g3.ev y3 y4
              · have ee : ¬ n32T TT D.2.2.1[q].1 = n32T TT i := fun e => c2 ((lg_cmp_eq _ _).mpr e)
                rw [nI_1]
                refine ihm (q + 1) σ3 (by omega) g1 g2 ?_
                rw [st, decide_eq_false ee, Bool.or_false]
                exact g3
        refine ⟨fun _ => loop m 0 σ2 (by omega) f1 f2 ?_, fun c => absurd (nI_lt (b := 6) hl (by decide)) c⟩
        show PCo TT (i + 1) (orE (evs TT i) none) σ2
        rw [orE_none]
        exact a3
      · exact absurd e z))
  obtain ⟨a, b⟩ := hq
  refine ⟨a, ?_⟩
  rcases b with ⟨e, b⟩ | ⟨e, b⟩
  · cases e; exact Or.inl ⟨rfl, b⟩
  · cases e; exact Or.inr ⟨rfl, b⟩
def clK (k : Int32) : Int32 := if (0 : Int32) < (if k - (18 : Int32) < (2 : Int32) then k - (18 : Int32) else (2 : Int32)) then (if k - (18 : Int32) < (2 : Int32) then k - (18 : Int32) else (2 : Int32)) else (0 : Int32)
theorem clK_k : ∀ k, k < 37 → (18 ≤ k ∧ k ≤ 20 ∧ clK (nI k) = nI (k - 18) ∧ (18 : Int32) + clK (nI k) = nI k) ∨ (¬ (18 ≤ k ∧ k ≤ 20) ∧ ∃ k', k' < 37 ∧ (18 : Int32) + clK (nI k) = nI k' ∧ ¬ k = k') := by decide +kernel
theorem rc73 {n l : Nat} {x1 x2 x3 x4 : Int32} {σ σ1 : Sg} (h : RCx PRG n 73 [.ref 3, .int x1, .int x2, .int x3, .int x4] σ none σ1) (hl : σ.1 3 3 = nI l) (hl6 : l < 6) : σ1.2 = σ.2 ∧ (∀ q x, ¬ q = 3 → ¬ q = 4 → ¬ q = 5 → ¬ q = 6 → ¬ q = 7 → σ1.1 q x = σ.1 q x) ∧ (∀ x, ¬ x = 3 → σ1.1 3 x = σ.1 3 x) ∧ σ1.1 3 3 = nI (l + 1) ∧ (∀ x, σ1.1 4 x = if x = l then x1 else σ.1 4 x) ∧ (∀ x, σ1.1 5 x = if x = l then x2 else σ.1 5 x) := by
  refine h.by (Q := fun _ σ' => σ'.2 = σ.2 ∧ (∀ q x, ¬ q = 3 → ¬ q = 4 → ¬ q = 5 → ¬ q = 6 → ¬ q = 7 → σ'.1 q x = σ.1 q x) ∧ (∀ x, ¬ x = 3 → σ'.1 3 x = σ.1 3 x) ∧ σ'.1 3 3 = nI (l + 1) ∧ (∀ x, σ'.1 4 x = if x = l then x1 else σ.1 4 x) ∧ (∀ x, σ'.1 5 x = if x = l then x2 else σ.1 5 x)) (fun m d => p_73_0 σ x1 x2 x3 x4 ⟨fun c => ?_, fun c _ _ _ _ _ _ => ?_⟩)
  · rw [hl] at c
    exact absurd ((nI_leI (a := 6) (b := l) (by decide) (by omega)).mp c) (by omega)
  · have e : (σ.1 3 3).toNatClampNeg = l := by rw [hl, nI_clamp (by omega)]
    rw [e, hl, nI_1]
    refine ⟨rfl, fun q x a b c d e => ?_, fun x hx => ?_, s1_on, fun x => ?_, fun x => ?_⟩
    · rw [s1_off (by omega), s1_off (by omega), s1_off (by omega), s1_off (by omega), s1_off (by omega), s1_off (by omega), s1_off (by omega)]
    · rw [s1_off (fun e => hx e.2), s1_off (by omega), s1_off (by omega), s1_off (by omega), s1_off (by omega), s1_off (by omega), s1_off (by omega)]
    · rw [s1_off (by omega), s1_off (by omega), s1_off (by omega), s1_off (by omega), s1_off (by omega), s1_off (by omega)]
      by_cases e : x = l
      · subst e; rw [s1_on, if_pos rfl]
      · rw [s1_off (fun h => e h.2), if_neg e]
    · rw [s1_off (by omega), s1_off (by omega), s1_off (by omega), s1_off (by omega), s1_off (by omega)]
      by_cases e : x = l
      · subst e; rw [s1_on, if_pos rfl]
      · rw [s1_off (fun h => e h.2), if_neg e, s1_off (by omega)]
theorem cust_c {TT : List Tk} (hW : WT TT) {n i : Nat} {D : DT} {σ σ1 : Sg} (hC : CQ TT σ) (hP : PCo TT i (evs TT i) σ) (hs : pr TT i = .inr ((6, 0), D)) (hN : NMc TT D σ) (hc6 : σ.1 15 6 = nI D.2.2.1.length) (hl : D.2.2.1.length < 6) (hR : WRc TT D σ) (h : RCx PRG n 113 [.ref 15] σ none σ1) : onQ TT i σ1 := by
  refine h.by (Q := fun _ σ' => onQ TT i σ') (fun m d => p_113_0 σ (fun w2 σ1 h1 _ => ?_))
  obtain ⟨f1, f3⟩ := name_c hW hC hP hs hN hc6 hl h1
  refine ⟨fun z => ?_, fun z w4 σ3 h3 => ?_⟩
  · rcases f3 with ⟨e, -⟩ | ⟨-, g⟩
    · rw [e] at z; exact absurd z (by decide)
    · exact Or.inr g
  · rcases f3 with ⟨-, hs1, a3, hN1, hn1⟩ | ⟨e, -⟩
    · have v1 := vl_rg hW hs1
      obtain ⟨b1, b2, b3⟩ := rc103 hW h3 (hC.fr f1) a3 hs1 (fun e => ⟨(8, 0), if_pos e⟩) (fun e => if_neg e)
      refine ⟨fun z => ?_, fun z => ?_⟩
      · intro w6 σ5 h5 _
        rcases b3 with ⟨ew4, c1, c2, c3⟩ | ⟨e, -⟩
        · have hs2 := pr_next (q := (8, 0)) hs1 (if_pos c1) c2
          rw [show updD ((7, 0), i, D.2).1.1 (kdT TT (i + 1)) (i + 1) ((7, 0), i, D.2).2 = (i, D.2) from upd_id (m := 7) (by decide) (by omega) (fun e => absurd (show (7 : Nat) = 25 from e.1) (by decide))] at hs2
          have e2 : evs TT (i + 1 + 1) = orE (evs TT (i + 1)) (bif off (vlT TT (i + 1)) 0 2 then some (5, i + 1) else none) := by rw [evs_step hs1, evO_off (b := off (vlT TT (i + 1)) 0 2) rfl]
          rw [← e2] at c3
          have hkd2 := (kd_le hW hs2).1
          rw [c3.2.1] at h5 ⊢
          have h5' : RCx PRG m 101 [.ref 15, .int ((18 : Int32) + clK (nI (kdT TT (i + 1 + 1))))] σ3 (some (.int w6)) σ5 := h5
          have res : FRc σ3 σ5 ∧ σ5.2 = σ3.2 ∧ ((w6 = 1 ∧ ((18 ≤ kdT TT (i + 1 + 1) ∧ kdT TT (i + 1 + 1) ≤ 20) ∧ clK (nI (kdT TT (i + 1 + 1))) = nI (kdT TT (i + 1 + 1) - 18)) ∧ i + 1 + 1 < 400 ∧ PCo TT (i + 1 + 1 + 1) (evs TT (i + 1 + 1)) σ5) ∨ (w6 = 0 ∧ FAc TT σ5)) := by
            rcases clK_k (kdT TT (i + 1 + 1)) (by omega) with ⟨r1, r2, r3, r4⟩ | ⟨r1, k', r2, r3, r4⟩
            · rw [r4] at h5'
              obtain ⟨l1, l2, l3⟩ := rc101 (k := kdT TT (i + 1 + 1)) hW h5' ((hC.fr f1).fr b1) c3 hs2 hkd2 (fun _ => ⟨(9, 0), if_pos ⟨r1, r2⟩⟩) (fun e => absurd rfl e)
              refine ⟨l1, l2, ?_⟩
              rcases l3 with ⟨e, q1, q2, q3⟩ | h
              · exact Or.inl ⟨e, ⟨⟨r1, r2⟩, r3⟩, q2, q3⟩
              · exact Or.inr h
            · rw [r3] at h5'
              obtain ⟨l1, l2, l3⟩ := rc101 (k := k') hW h5' ((hC.fr f1).fr b1) c3 hs2 (by omega) (fun e => absurd e r4) (fun _ => if_neg r1)
              refine ⟨l1, l2, ?_⟩
              rcases l3 with ⟨e, q1, -⟩ | h
              · exact absurd q1 r4
              · exact Or.inr h
          obtain ⟨l1, l2, l3⟩ := res
          refine ⟨fun z => ?_, fun z => ?_⟩
          · rcases l3 with ⟨e, -⟩ | ⟨-, g⟩
            · rw [e] at z; exact absurd z (by decide)
            · exact Or.inr g
          · rcases l3 with ⟨-, ⟨q0, q1⟩, q2, q3⟩ | ⟨e, -⟩
            · have hs3 := pr_next (q := (9, 0)) hs2 (if_pos q0) q2
              rw [show updD ((8, 0), i, D.2).1.1 (kdT TT (i + 1 + 1)) (i + 1 + 1) ((8, 0), i, D.2).2 = (i, D.2) from upd_id (m := 8) (by decide) (by omega) (fun e => absurd (show (8 : Nat) = 25 from e.1) (by decide))] at hs3
              have e3 : evs TT (i + 1 + 1 + 1) = evs TT (i + 1 + 1) := by rw [evs_step hs2]; exact orE_none _
              rw [← e3] at q3
              have F := (f1.trans b1).trans l1
              have F2 : σ5.2 = σ1.2 := l2.trans b2
              have hkd3 := (kd_le hW hs3).1
              have en84 : ∀ (m4 : Nat) (σ8 : Sg), onQ TT i σ8 → Pl PRG m4 d 113 84 [] [] σ8 (fun _ σ' => onQ TT i σ') := fun m4 σ8 hq => Pl.pos (fun m5 _ => p_113_84 σ8 hq)
              have en118 : ∀ (m4 : Nat) (σ8 : Sg), onQ TT i σ8 → Pl PRG m4 d 113 118 [] [] σ8 (fun _ σ' => onQ TT i σ') := fun m4 σ8 hq => Pl.pos (fun m5 _ => p_113_118 σ8 hq)
              -- says
              have says : ∀ (m2 j : Nat) (D1 : DT) (M : Nat) (x3 : Int32) (σ6 : Sg), i < j → D1 = (i, D.2) → pr TT j = .inr ((M, 0), D1) → (¬ M = 6 ∧ ¬ M = 25) → evT TT ((M, 0), D1) j = 0 → (∀ len, gs M 0 len (kdT TT j) = if kdT TT j = 22 then .inr (20, 0) else .inl 1) → FRc σ σ6 → σ6.2 = σ1.2 → PCo TT j (evs TT j) σ6 → Pl PRG m2 d 113 85 [(0, .ref 15), (1, .int w4), (2, .int (clK (nI (kdT TT (i + 1 + 1))))), (3, .int x3)] [] σ6 (fun _ σ' => onQ TT i σ') := by
                intro m2 j D1 M x3 σ6 hij hD1 hsj hM hev hg g1 g2 g3
                subst hD1
                refine Pl.pos (fun m3 _ => p_113_85 σ6 w4 (clK (nI (kdT TT (i + 1 + 1)))) x3 (fun w7 σ7 h7 _ => ?_))
                obtain ⟨k1, k2, k3⟩ := rc101 (k := 22) hW h7 (hC.fr g1) g3 hsj (by decide) (fun e => ⟨(20, 0), by show gs M 0 _ _ = _; rw [hg, if_pos e]⟩) (fun e => by show gs M 0 _ _ = _; rw [hg, if_neg e])
                refine ⟨fun z => en118 m3 σ7 ?_, fun z w8 σ8 h8 _ => ?_⟩
                · rcases k3 with ⟨e, -⟩ | ⟨-, g⟩
                  · rw [e] at z; exact absurd z (by decide)
                  · exact Or.inr g
                · rcases k3 with ⟨-, t1, t2, t3⟩ | ⟨e, -⟩
                  · have hsk := pr_next (q := (20, 0)) hsj (by show gs M 0 _ _ = _; rw [hg, if_pos t1]) t2
                    have eU : updD ((M, 0), ((i, D.2) : DT)).1.1 (kdT TT j) j ((M, 0), ((i, D.2) : DT)).2 = (i, j, D.2.2) := by
                      show updD M (kdT TT j) j (i, D.2) = _
                      unfold updD
                      rw [if_neg hM.1, if_pos t1]
                    rw [eU] at hsk
                    have ev : evs TT (j + 1) = evs TT j := by rw [evs_step hsj, evO_0 hev, orE_none]
                    rw [← ev] at t3
                    obtain ⟨y1, y2, y3⟩ := cond_c hW (Or.inr rfl) ((hC.fr g1).fr k1) t3 hsk h8
                    refine ⟨fun z => en118 m3 σ8 ?_, fun z w9 σ9 h9 _ => ?_⟩
                    · rcases y3 with ⟨e, -⟩ | ⟨-, g⟩
                      · rw [e] at z; exact absurd z (by decide)
                      · exact Or.inr g
                    · rcases y3 with ⟨-, j2, u1, u2, u3, u4, u5⟩ | ⟨e, -⟩
                      · have hg2 : ∀ len, gs 25 0 len (kdT TT j2) = if kdT TT j2 = 4 then .inr (0, 0) else .inl 1 := fun len => by
                          show ga 25 24 0 (kdT TT j2) _ = _
                          unfold ga
                          rw [if_neg u4, if_neg (fun e => absurd e.2 (by decide)), if_pos rfl, if_neg u5]
                        obtain ⟨x1, x2, x3'⟩ := rc101 (k := 4) hW h9 (((hC.fr g1).fr k1).fr y1) u3 u2 (by decide) (fun e => ⟨(0, 0), by show gs 25 0 _ _ = _; rw [hg2, if_pos e]⟩) (fun e => by show gs 25 0 _ _ = _; rw [hg2, if_neg e])
                        refine ⟨fun z => en118 m3 σ9 ?_, fun z => ?_⟩
                        · rcases x3' with ⟨e, -⟩ | ⟨-, g⟩
                          · rw [e] at z; exact absurd z (by decide)
                          · exact Or.inr g
                        · rcases x3' with ⟨-, v1', v2, v3⟩ | ⟨e, -⟩
                          · have hse := pr_next (q := (0, 0)) u2 (by show gs 25 0 _ _ = _; rw [hg2, if_pos v1']) v2
                            have eU2 : updD ((20 + 5, 0), ((i, j, D.2.2) : DT)).1.1 (kdT TT j2) j2 ((20 + 5, 0), ((i, j, D.2.2) : DT)).2 = (i, j, D.2.2.1 ++ [(i, j, j2)], D.2.2.2) := by rw [v1']; rfl
                            rw [eU2] at hse
                            have ev2 : evs TT (j2 + 1) = evs TT j2 := by rw [evs_step u2, evO_0 (show evT TT ((20 + 5, 0), i, j, D.2.2) j2 = 0 from rfl), orE_none]
                            rw [← ev2] at v3
                            have G := ((g1.trans k1).trans y1).trans x1
                            have G2 : σ9.2 = σ1.2 := x2.trans (y2.trans (k2.trans g2))
                            have c6 : σ9.1 15 6 = nI D.2.2.1.length := by rw [G.2.2.2]; exact hc6
                            have ln : (D.2.2.1 ++ [(i, j, j2)]).length = D.2.2.1.length + 1 := by simp
                            have nm : ∀ σa : Sg, σa.2 = σ9.2 → NMc TT (i, j, D.2.2.1 ++ [(i, j, j2)], D.2.2.2) σa := by
                              intro σa e q x hx
                              have hx' : (D.2.2.1 ++ [(i, j, j2)])[q]? = some x := hx
                              rw [e, G2]
                              rcases Nat.lt_or_ge q D.2.2.1.length with g | g
                              · rw [List.getElem?_append_left g] at hx'
                                exact hN1 q x hx'
                              · rw [List.getElem?_append_right g] at hx'
                                have hq0 : q - D.2.2.1.length = 0 := by
                                  rcases Nat.eq_zero_or_pos (q - D.2.2.1.length) with z | z
                                  · exact z
                                  · rw [List.getElem?_eq_none (by simp; omega)] at hx'; cases hx'
                                rw [hq0] at hx'
                                cases hx'
                                rw [show q = D.2.2.1.length by omega]
                                exact hn1
                            have en138 : ∀ (m4 : Nat) (σa : Sg), CQ TT σa → PCo TT (j2 + 1) (evs TT (j2 + 1)) σa → σa.2 = σ9.2 → σa.1 15 6 = nI D.2.2.1.length → WRc TT (i, j, D.2.2.1 ++ [(i, j, j2)], D.2.2.2) σa → Pl PRG m4 d 113 138 [(0, .ref 15)] [] σa (fun _ σ' => onQ TT i σ') := by
                              intro m4 σa z1 z2 z3 z4 z5
                              refine Pl.pos (fun m5 _ => p_113_138 σa (Or.inl ⟨j2 + 1, (i, j, D.2.2.1 ++ [(i, j, j2)], D.2.2.2), by omega, ?_, ?_, hse, nm _ z3, ?_, ?_, ?_⟩))
                              · exact z1.put15
                              · obtain ⟨o1, o2, o3, o4, o5, o6⟩ := z2
                                exact ⟨by rw [s1_off (by omega)]; exact o1, by rw [s1_off (by omega)]; exact o2, o3, by rw [s1_off (by omega)]; exact o4, o5.of (by rw [s1_off (by omega)]) (by rw [s1_off (by omega)]), by rw [s1_off (by omega)]; exact o6⟩
                              · rw [s1_on, z4, nI_1]
                                show _ = nI (D.2.2.1 ++ [(i, j, j2)]).length
                                rw [ln]
                              · show (D.2.2.1 ++ [(i, j, j2)]).length ≤ 6
                                rw [ln]; omega
                              · exact z5.of (by rw [s1_off (by omega)]) (fun x _ => by rw [s1_off (by omega)]) (fun x => by rw [s1_off (by omega)]) (fun x => by rw [s1_off (by omega)])
                            refine ⟨fun hw => en138 m3 σ9 (hC.fr G) v3 rfl c6 (Or.inl hw), fun hw σa ha => ?_⟩
                            rcases hR.fr G with hR | ⟨r1, r2, r3⟩
                            · exact absurd hR hw
                            · obtain ⟨o1, o2, o3, o4, o5, o6⟩ := rc73 ha r3.1 hl
                              refine en138 m3 σa (fun x t hx ht hg => ?_) (v3.same (fun x => o2 15 x (by decide) (by decide) (by decide) (by decide) (by decide))) o1 (by rw [o2 15 6 (by decide) (by decide) (by decide) (by decide) (by decide)]; exact c6) (Or.inr ⟨?_, ?_, ?_⟩)
                              · obtain ⟨p1, p2, p3, p4⟩ := (hC.fr G) x t hx ht hg
                                exact ⟨by rw [o2 18 x (by decide) (by decide) (by decide) (by decide) (by decide)]; exact p1, by rw [o2 19 x (by decide) (by decide) (by decide) (by decide) (by decide)]; exact p2, fun e => by rw [o1]; exact p3 e, fun e => by rw [o1]; exact p4 e⟩
                              · unfold PKw at r1 ⊢
                                rw [o3 0 (by decide), o3 1 (by decide)]
                                exact r1
                              · unfold TRw at r2 ⊢
                                rw [o3 2 (by decide)]
                                exact r2
                              · refine ⟨?_, fun q x hx => ?_⟩
                                · show σa.1 3 3 = nI (D.2.2.1 ++ [(i, j, j2)]).length
                                  rw [ln]; exact o4
                                · have hx' : (D.2.2.1 ++ [(i, j, j2)])[q]? = some x := hx
                                  rw [o5, o6]
                                  rcases Nat.lt_or_ge q D.2.2.1.length with g | g
                                  · rw [List.getElem?_append_left g] at hx'
                                    rw [if_neg (by omega), if_neg (by omega)]
                                    exact r3.2 q x hx'
                                  · rw [List.getElem?_append_right g] at hx'
                                    have hq0 : q - D.2.2.1.length = 0 := by
                                      rcases Nat.eq_zero_or_pos (q - D.2.2.1.length) with z | z
                                      · exact z
                                      · rw [List.getElem?_eq_none (by simp; omega)] at hx'; cases hx'
                                    rw [hq0] at hx'
                                    cases hx'
                                    rw [if_pos (by omega), if_pos (by omega)]
                                    exact ⟨ew4, q1⟩
                          · exact absurd e z
                      · exact absurd e z
                  · exact absurd e z
              have k21 : σ5.1 15 5 = (21 : Int32) ↔ kdT TT (i + 1 + 1 + 1) = 21 := by
                rw [q3.2.1]
                exact nI_eq (b := 21) (by omega) (by decide)
              refine ⟨fun c w8 σ7 h7 _ => ?_, fun c => says m (i + 1 + 1 + 1) _ 9 _ σ5 (by omega) rfl hs3 (by decide) rfl (fun len => ?_) F F2 q3⟩
              · have e21 := k21.mp c
                obtain ⟨k1, k2, k3⟩ := rc101 (k := 21) hW h7 (hC.fr F) q3 hs3 (by decide) (fun e => ⟨(10, 0), if_pos e⟩) (fun e => absurd e21 e)
                refine ⟨fun z => en84 m σ7 ?_, fun z w10 σ9 h9 _ => ?_⟩
                · rcases k3 with ⟨e, -⟩ | ⟨-, g⟩
                  · rw [e] at z; exact absurd z (by decide)
                  · exact Or.inr g
                · rcases k3 with ⟨-, t1, t2, t3⟩ | ⟨e, -⟩
                  · have hsk := pr_next (q := (10, 0)) hs3 (if_pos t1) t2
                    rw [show updD ((9, 0), i, D.2).1.1 (kdT TT (i + 1 + 1 + 1)) (i + 1 + 1 + 1) ((9, 0), i, D.2).2 = (i, D.2) from upd_id (m := 9) (by decide) (by omega) (fun e => absurd (show (9 : Nat) = 25 from e.1) (by decide))] at hsk
                    have ev : evs TT (i + 1 + 1 + 1 + 1) = evs TT (i + 1 + 1 + 1) := by rw [evs_step hs3]; exact orE_none _
                    rw [← ev] at t3
                    obtain ⟨y1, y2, y3⟩ := cond_c hW (Or.inl rfl) ((hC.fr F).fr k1) t3 hsk h9
                    refine ⟨fun z => en84 m σ9 ?_, fun z => ?_⟩
                    · rcases y3 with ⟨e, -⟩ | ⟨-, g⟩
                      · rw [e] at z; exact absurd z (by decide)
                      · exact Or.inr g
                    · rcases y3 with ⟨-, j2, u1, u2, u3, u4, u5⟩ | ⟨e, -⟩
                      · refine says m j2 _ 15 _ σ9 (by omega) rfl u2 (by decide) rfl (fun len => ?_) ((F.trans k1).trans y1) (y2.trans (k2.trans F2)) u3
                        show ga 15 14 0 (kdT TT j2) _ = _
                        unfold ga
                        rw [if_neg u4, if_neg (fun e => absurd e.2 (by decide)), if_pos rfl, if_neg u5]
                      · exact absurd e z
                  · exact absurd e z
              · show (if kdT TT (i + 1 + 1 + 1) = 21 then _ else _) = _
                rw [if_neg (fun e => c (k21.mpr e))]
            · exact absurd e z
        · rw [e] at z; exact absurd z (by decide)
      · rcases b3 with ⟨e, -⟩ | ⟨-, g⟩
        · rw [e] at z; exact absurd (nonneg v1.1).1 z
        · exact Or.inr g
    · exact absurd e z
/-! a pass over the text -/
def passQ (TT : List Tk) (v : Option Value) (σ : Sg) : Prop := ∃ i f, stopAt TT i f ∧ i ≤ 400 ∧ ((¬ f = 0 ∧ f ≤ 2 ∧ v = some (.int (nI f)) ∧ σ.1 15 8 = nI (plT TT i)) ∨ (f = 0 ∧ match evs TT i with
  | some x => v = some (.int (nI x.1)) ∧ σ.1 15 8 = nI (plT TT x.2) ∧ ¬ x.1 = 0 ∧ x.1 < 100
  | none => v = some (.int 0) ∧ σ.1 15 8 = -1 ∧ CQ TT σ ∧ ∃ D, pr TT i = .inr ((0, 0), D) ∧ WRc TT D σ ∧ D.2.2.1.length ≤ 6))
theorem pass_end {TT : List Tk} {σ : Sg} {d : Nat} : ∀ m, ((∃ i D, TIc TT i D σ ∧ kdT TT i = 0) ∨ FAc TT σ) → Pl PRG m d 114 143 [(0, .ref 15)] [] σ (passQ TT) := by
  intro m h
  refine Pl.pos (fun m1 _ => p_114_143 σ ?_)
  rcases h with ⟨i, D, ⟨hC, hP, hs, hN, hc6, hl6, hR⟩, hk⟩ | ⟨i, f, h1, h2, h3, h4, h5, h6⟩
  · obtain ⟨p1, p2, p3, p4, p5, p6⟩ := hP
    have st : stopAt TT i 0 := stop_f hs (by rw [hk]; rfl)
    refine ⟨fun _ => ⟨fun c => Pl.pos (fun m2 _ => p_114_173 σ ⟨i, 0, st, p3, Or.inr ⟨rfl, ?_⟩⟩), fun c => Pl.pos (fun m2 _ => p_114_173 _ ⟨i, 0, st, p3, Or.inr ⟨rfl, ?_⟩⟩)⟩, fun c => absurd p4 c⟩
    · cases he : evs TT i with
      | none => exact ⟨by rw [p4], p6, hC, D, hs, hR, hl6⟩
      | some x =>
        rw [he] at p5
        obtain ⟨q1, q2, q3, q4⟩ := p5
        rw [q1] at c
        exact absurd c (nI_ne0 (by omega) (by omega))
    · cases he : evs TT i with
      | none =>
        rw [he] at p5
        exact absurd p5 c
      | some x =>
        rw [he] at p5
        obtain ⟨q1, q2, q3, q4⟩ := p5
        exact ⟨by rw [s1_off (by omega), s1_on, q1], by rw [s1_on]; exact q2, q3, q4⟩
  · have hne : ¬ σ.1 15 7 = 0 := by rw [h5]; exact nI_ne0 (by omega) (by omega)
    exact ⟨fun c => absurd c hne, fun _ => Pl.pos (fun m2 _ => p_114_173 σ ⟨i, f, h1, h4, Or.inl ⟨h2, h3, by rw [h5], h6⟩⟩)⟩
theorem pass_loop {TT : List Tk} (hW : WT TT) {d : Nat} : ∀ (m kk : Nat) (σ : Sg), ((∃ i D, kk ≤ i ∧ TIc TT i D σ) ∨ FAc TT σ) → kk < 2000 → Pl PRG m d 114 45 [(0, .ref 15), (2, .int (nI kk))] [] σ (passQ TT) := by
  intro m
  induction m using Nat.strongRecOn with
  | _ m ih =>
    intro kk σ h hkk
    have next : ∀ (m2 : Nat), m2 < m → ∀ (σ2 : Sg) (i : Nat), kk ≤ i → i ≤ 400 → onQ TT i σ2 → Pl PRG m2 d 114 137 [(0, .ref 15), (2, .int (nI kk))] [] σ2 (passQ TT) := fun m2 hm2 σ2 i hi hi4 hq => Pl.pos (fun m3 hm3 => p_114_137 σ2 (nI kk) (by
      rw [nI_1]
      refine ih m3 (by omega) (kk + 1) σ2 ?_ (by omega)
      rcases hq with ⟨j, D, j1, j2⟩ | g
      · exact Or.inl ⟨j, D, by omega, j2⟩
      · exact Or.inr g))
    refine Pl.pos (fun m1 hm1 => p_114_45 σ (nI kk) ?_)
    rcases h with ⟨i, D, hki, hT⟩ | g
    · obtain ⟨hC, hP, hs, hN, hc6, hl6, hR⟩ := hT
      have hT : TIc TT i D σ := ⟨hC, hP, hs, hN, hc6, hl6, hR⟩
      have hi := hP.2.2.1
      have hkd := (kd_le hW hs).1
      have kI : ∀ k, k ≤ 36 → (nI (kdT TT i) = nI k ↔ kdT TT i = k) := fun k hk => nI_eq (by omega) (by omega)
      refine ⟨fun c => absurd c (nI_nlt (a := 400) (b := kk) (by omega) (by decide)), fun c => ⟨fun _ => ?_, fun c2 => absurd hP.2.2.2.1 c2⟩⟩
      rw [hP.2.1, hc6]
      refine ⟨fun c0 => pass_end m1 (Or.inl ⟨i, D, hT, (kI 0 (by decide)).mp c0⟩), fun c0 => ⟨fun c15 σ2 h2 => next m1 (by omega) σ2 i hki hi (pack_c hW hT ((kI 15 (by decide)).mp c15) h2), fun c15 => ⟨fun c16 σ2 h2 => next m1 (by omega) σ2 i hki hi (trump_c hW hT ((kI 16 (by decide)).mp c16) h2), fun c16 => ?_⟩⟩⟩
      have n0 : ¬ kdT TT i = 0 := fun e => c0 ((kI 0 (by decide)).mpr e)
      have n15 : ¬ kdT TT i = 15 := fun e => c15 ((kI 15 (by decide)).mpr e)
      have n16 : ¬ kdT TT i = 16 := fun e => c16 ((kI 16 (by decide)).mpr e)
      have at124 : ¬ (kdT TT i = 17 ∧ 6 ≤ D.2.2.1.length) → Pl PRG m1 d 114 124 [(0, .ref 15), (2, .int (nI kk))] [] σ (passQ TT) := by
        intro hn
        refine Pl.pos (fun m2 hm2 => p_114_124 σ (nI kk) (fun w2 σ2 h2 _ => ?_))
        have hg : gs 0 0 D.2.2.1.length (kdT TT i) = if kdT TT i = 17 then .inr (6, 0) else .inl 1 := by
          show (if kdT TT i = 0 then _ else if kdT TT i = 15 then _ else if kdT TT i = 16 then _ else if kdT TT i = 17 then _ else _) = _
          rw [if_neg n0, if_neg n15, if_neg n16]
          by_cases e : kdT TT i = 17
          · rw [if_pos e, if_pos e, if_neg (fun h => hn ⟨e, h⟩)]
          · rw [if_neg e, if_neg e]
        obtain ⟨f1, f2, f3⟩ := rc101 (k := 17) hW h2 hC hP hs (by decide) (fun e => ⟨(6, 0), by show gs 0 0 D.2.2.1.length _ = _; rw [hg, if_pos e]⟩) (fun e => by show gs 0 0 D.2.2.1.length _ = _; rw [hg, if_neg e])
        refine ⟨fun z => ?_, fun z σ3 h3 => ?_⟩
        · rcases f3 with ⟨e, -⟩ | ⟨-, g⟩
          · rw [e] at z; exact absurd z (by decide)
          · exact next m2 (by omega) σ2 i hki hi (Or.inr g)
        · rcases f3 with ⟨-, a1, a2, a3⟩ | ⟨e, -⟩
          · have hs1 := pr_next (q := (6, 0)) hs (by show gs 0 0 D.2.2.1.length _ = _; rw [hg, if_pos a1]) a2
            rw [show updD ((0, 0), D).1.1 (kdT TT i) i ((0, 0), D).2 = D by rw [a1]; rfl] at hs1
            have e1 : evs TT (i + 1) = evs TT i := by rw [evs_step hs]; exact orE_none _
            rw [← e1] at a3
            have hq := cust_c hW (hC.fr f1) a3 hs1 (fun q x hx => by rw [f2]; exact hN q x hx) (by rw [f1.2.2.2]; exact hc6) (by
              rcases Nat.lt_or_ge D.2.2.1.length 6 with g | g
              · exact g
              · exact absurd ⟨a1, g⟩ hn) (hR.fr f1) h3
            refine next m2 (by omega) σ3 i hki hi ?_
            rcases hq with ⟨j, D', j1, j2⟩ | g
            · exact Or.inl ⟨j, D', by omega, j2⟩
            · exact Or.inr g
          · exact absurd e z
      refine ⟨fun c17 => ⟨fun c6 => at124 (fun h => absurd c6 (nI_nlt (a := D.2.2.1.length) (b := 6) h.2 (by omega))), fun c6 w2 σ2 h2 _ => ?_⟩, fun c17 => at124 (fun h => c17 ((kI 17 (by decide)).mpr h.1))⟩
      have e17 := (kI 17 (by decide)).mp c17
      have h6 : 6 ≤ D.2.2.1.length := by
        rcases Nat.lt_or_ge D.2.2.1.length 6 with g | g
        · exact absurd (nI_lt g (by decide)) c6
        · exact g
      obtain ⟨-, -, -, g⟩ := rc106 hW h2 hC hP hs (by
        show gs 0 0 D.2.2.1.length _ = _
        show (if kdT TT i = 0 then _ else if kdT TT i = 15 then _ else if kdT TT i = 16 then _ else if kdT TT i = 17 then _ else _) = _
        rw [if_neg n0, if_neg n15, if_neg n16, if_pos e17, if_pos h6])
      exact next m1 (by omega) σ2 i hki hi (Or.inr g)
    · obtain ⟨i, f, h1, h2, h3, h4, h5, h6⟩ := g
      have hne : ¬ σ.1 15 7 = 0 := by rw [h5]; exact nI_ne0 (by omega) (by omega)
      have hF : FAc TT σ := ⟨i, f, h1, h2, h3, h4, h5, h6⟩
      exact ⟨fun _ => pass_end m1 (Or.inr hF), fun _ => ⟨fun c => absurd c hne, fun _ => pass_end m1 (Or.inr hF)⟩⟩
theorem pass_c {TT : List Tk} (hW : WT TT) {n : Nat} {x w : Int32} {σ σ1 : Sg} (hC : CQ TT σ) (hL : x = 0 ∨ (PKw TT (0, 0, [], none, none) σ ∧ TRw TT (0, 0, [], none, none) σ ∧ σ.1 3 3 = 0)) (h : RCx PRG n 114 [.ref 15, .int x] σ (some (.int w)) σ1) : passQ TT (some (.int w)) σ1 := by
  have h0 : TT[0]? = some (TT.getD 0 dfT) := getD_at (tok_in hW (i := 0) (s := ((0, 0), 0, 0, [], none, none)) rfl).1
  have hat := hC 0 _ (by omega) h0 (fun j t hj => absurd hj (Nat.not_lt_zero _))
  refine h.by (Q := fun v σ' => passQ TT v σ') (fun m d => p_114_0 σ x (fun hx => pass_loop hW m 0 _ (Or.inl ⟨0, (0, 0, [], none, none), Nat.le_refl 0, ?_, ?_, rfl, ?_, ?_, by show (0 : Nat) ≤ 6; decide, ?_⟩) (by decide)))
  · exact fun y t hy ht hg => by
      obtain ⟨q1, q2, q3, q4⟩ := hC y t hy ht hg
      exact ⟨by rw [s1_off (by omega), s1_off (by omega), s1_off (by omega), s1_off (by omega), s1_off (by omega), s1_off (by omega), s1_off (by omega)]; exact q1, by rw [s1_off (by omega), s1_off (by omega), s1_off (by omega), s1_off (by omega), s1_off (by omega), s1_off (by omega), s1_off (by omega)]; exact q2, q3, q4⟩
  · refine ⟨?_, ?_, by omega, ?_, ?_, ?_⟩
    · rw [s1_off (by omega), s1_off (by omega), s1_off (by omega), s1_off (by omega), s1_off (by omega), s1_on]; rfl
    · rw [s1_off (by omega), s1_off (by omega), s1_off (by omega), s1_off (by omega), s1_on]; exact hat.1
    · rw [s1_off (by omega), s1_off (by omega), s1_on]
    · show (s1 _ 15 9 (0 : Int32)).1 15 9 = 0
      exact s1_on
    · rw [s1_off (by omega), s1_on]
  · intro q e hq
    cases q <;> cases hq
  · rw [s1_off (by omega), s1_off (by omega), s1_off (by omega), s1_on]; rfl
  · rcases hL with rfl | ⟨a, b, c⟩
    · refine Or.inl ?_
      rw [s1_off (by omega), s1_off (by omega), s1_off (by omega), s1_off (by omega), s1_off (by omega), s1_off (by omega), s1_on]
    · refine Or.inr ⟨⟨?_, ?_⟩, ?_, ?_, fun q e hq => ?_⟩
      · rw [s1_off (by omega), s1_off (by omega), s1_off (by omega), s1_off (by omega), s1_off (by omega), s1_off (by omega), s1_off (by omega)]; exact a.1
      · rw [s1_off (by omega), s1_off (by omega), s1_off (by omega), s1_off (by omega), s1_off (by omega), s1_off (by omega), s1_off (by omega)]; exact a.2
      · show (s1 _ 15 9 (0 : Int32)).1 3 2 = -1
        rw [s1_off (by omega), s1_off (by omega), s1_off (by omega), s1_off (by omega), s1_off (by omega), s1_off (by omega), s1_off (by omega)]; exact b
      · rw [s1_off (by omega), s1_off (by omega), s1_off (by omega), s1_off (by omega), s1_off (by omega), s1_off (by omega), s1_off (by omega)]; exact c
      · cases q <;> cases hq
