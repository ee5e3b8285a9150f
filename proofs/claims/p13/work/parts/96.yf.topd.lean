/-! more calls of the game, the class: cards, tricks, revokes, slots, counts -/
theorem sh_rg {r : Nat} {C W : Nat → Int32} {T u : Int32} : ∀ f k, k + f ≤ 1000 → shS r C W T u f k = -2 ∨ ∃ j, k ≤ j ∧ j < k + f ∧ shS r C W T u f k = nI j := by
  intro f
  induction f with
  | zero => intro k _; exact Or.inl rfl
  | succ f ih =>
    intro k hk
    by_cases c : W k = T ∧ suF r (C k) = u
    · exact Or.inr ⟨k, Nat.le_refl _, by omega, if_pos c⟩
    · have e : shS r C W T u (f + 1) k = shS r C W T u f (k + 1) := if_neg c
      rw [e]
      rcases ih (k + 1) (by omega) with h | ⟨j, h1, h2, h3⟩
      · exact Or.inl h
      · exact Or.inr ⟨j, by omega, by omega, h3⟩
theorem shG_rg {l : LA} {g : GA} {i : Nat} (hm : g.2.2.2.2 ≤ 16) (hi : i < g.2.2.2.2) : shG l g i = -2 ∨ ∃ j, j < 16 ∧ shG l g i = nI j := by
  unfold shG shF
  split
  · exact Or.inl rfl
  · rcases sh_rg (r := l.2.1) (C := g.2.2.1) (W := g.2.2.2.1) (T := g.2.2.2.1 i) (u := ldG l.2.1 g.2.2.1 i) (g.2.2.2.2 - (i + 1)) (i + 1) (by omega) with h | ⟨j, h1, h2, h3⟩
    · exact Or.inl h
    · exact Or.inr ⟨j, by omega, h3⟩
theorem rvS_le {l : LA} {g : GA} : ∀ k, rvS l g k ≤ k := by
  intro k
  induction k with
  | zero => exact Nat.le_refl _
  | succ k ih =>
    by_cases c : shG l g k < 0
    · rw [show rvS l g (k + 1) = rvS l g k from if_pos c]; omega
    · rw [show rvS l g (k + 1) = rvS l g k + 1 from if_neg c]; omega
theorem i32_of {x : Int32} {k : Int} (h : x.toInt = k) (hk : 0 ≤ k) (hk2 : k < 100) : x = nI k.toNat := i_nI (by omega) (by omega)
section Tf
variable {l : LA} {o : Option GA} {n : Nat} {x y z w : Int32} {σ σ1 : Sg}
theorem cd_0 {g : GA} {i : Nat} {x : Int32} (h : x.toInt < 0 ∨ 5 < x.toInt) : cdG l g i x = -1 := by
  have ne : ∀ k : Int32, 0 ≤ k.toInt → k.toInt ≤ 5 → ¬ x = k := fun k h0 h5 e => by rw [e] at h; omega
  unfold cdG
  rw [if_neg (ne 0 (by decide) (by decide)), if_neg (ne 1 (by decide) (by decide)), if_neg (ne 2 (by decide) (by decide)), if_neg (ne 3 (by decide) (by decide)), if_neg (ne 4 (by decide) (by decide)), if_neg (ne 5 (by decide) (by decide))]
theorem t_card {i : Int32} (h : RCx PRG n 139 [.ref 0, .int i, .int x] σ (some (.int w)) σ1) (hl : lV l) (hC : lC l σ) (ho : cG22 l o σ) (hv : vG l o) : σ1 = σ ∧ w = fCard l i x o := by
  have hN := hl.1.2.2.2.2.1
  obtain ⟨e1, e2⟩ := h.by (Q := fun v s' => s' = σ ∧ v = some (.int (fCard l i x o))) (fun n d => p_139_0 σ i x (by
    cases o with
    | none =>
      rw [ho.2.2]
      exact ⟨fun _ => Pl.pos (fun n2 _ => p_139_15 σ ⟨rfl, rfl⟩), fun c => ⟨fun c2 => absurd c2 c, fun _ => Pl.pos (fun n2 _ => p_139_15 σ ⟨rfl, rfl⟩)⟩⟩
    | some g =>
      have hG : gC22 l.1 l.2.1 l.2.2.1 g.1 g.2.1 g.2.2.1 g.2.2.2.1 g.2.2.2.2 σ := ho
      have hV : gV l.1 l.2.1 l.2.2.1 g.1 g.2.1 g.2.2.1 g.2.2.2.1 g.2.2.2.2 := hv
      have hm := hV.2.1
      rw [hG.2.2.2.1]
      rw [fCard_s]
      refine ⟨fun c => Pl.pos (fun n2 _ => p_139_15 σ ⟨rfl, by rw [if_neg (fun h => le_lt.mp h.1 c)]⟩), fun c => ⟨fun c2 => ?_, fun c2 => Pl.pos (fun n2 _ => p_139_15 σ ⟨rfl, by rw [if_neg (fun h => c2 h.2)]⟩)⟩⟩
      obtain ⟨k, hk, rfl⟩ := nn_of (by omega) (le_lt.mpr c) c2
      obtain ⟨d1, d2, d3, d4, d5, d6⟩ := hG.2.2.2.2.2.2.1 k hk
      rw [if_pos ⟨le_lt.mpr c, c2⟩, nI_clamp (by omega)]
      refine ⟨fun q => ?_, fun q _ => ?_, fun q _ => ?_, fun q _ => ?_, fun q _ => ?_, fun q _ => ?_, fun q w2 σ2 h2 => ?_⟩
      · rw [cd_0 q]; exact ⟨rfl, rfl⟩
      · obtain rfl := i32_of q (by decide) (by decide)
        rw [d1]; exact ⟨rfl, rfl⟩
      · obtain rfl := i32_of q (by decide) (by decide)
        rw [d2]; exact ⟨rfl, rfl⟩
      · obtain rfl := i32_of q (by decide) (by decide)
        rw [d3]; exact ⟨rfl, rfl⟩
      · obtain rfl := i32_of q (by decide) (by decide)
        rw [d5]; exact ⟨rfl, rfl⟩
      · obtain rfl := i32_of q (by decide) (by decide)
        rw [d6]; exact ⟨rfl, rfl⟩
      · obtain rfl := i32_of q (by decide) (by decide)
        obtain ⟨rfl, rfl⟩ := g22_70 h2 hl.1 hC.1 hG hV hk
        exact ⟨rfl, rfl⟩))
  cases e2
  exact ⟨e1, rfl⟩
theorem t_tricks (h : RCx PRG n 140 [.ref 0, .int x] σ (some (.int w)) σ1) (hl : lV l) (ho : cG22 l o σ) (hv : vG l o) : σ1 = σ ∧ w = fTricks l x o := by
  have hN := hl.1.2.2.2.2.1
  obtain ⟨e1, e2⟩ := h.by (Q := fun v s' => s' = σ ∧ v = some (.int (fTricks l x o))) (fun n d => p_140_0 σ x (by
    unfold fTricks
    refine ⟨fun c => Pl.pos (fun n2 _ => p_140_9 σ ⟨rfl, by rw [if_neg (fun h => le_lt.mp h.1 c)]⟩), fun c => ⟨fun c2 w2 σ2 h2 => ?_, fun c2 => Pl.pos (fun n2 _ => p_140_9 σ ⟨rfl, by rw [if_neg (fun h => c2 h.2)]⟩)⟩⟩
    rw [if_pos ⟨le_lt.mpr c, c2⟩]
    cases o with
    | none =>
      obtain ⟨e1, e2⟩ := h2.by (Q := fun v s' => s' = σ ∧ v = some (.int 0)) (fun n d => p_64_0 σ x (Pl.pos (fun n2 _ => p_64_4 σ x 0 0 (by
        rw [ho.2.2]
        exact ⟨fun _ => ⟨rfl, rfl⟩, fun c => absurd (by decide) c⟩))))
      cases e2
      exact ⟨e1, rfl⟩
    | some g =>
      have hm := (show gV l.1 l.2.1 l.2.2.1 g.1 g.2.1 g.2.2.1 g.2.2.2.1 g.2.2.2.2 from hv).2.1
      obtain ⟨rfl, rfl⟩ := g22_64 h2 hl.1 ho (by omega)
      exact ⟨rfl, rfl⟩))
  cases e2
  exact ⟨e1, rfl⟩
theorem t_winner (h : RCx PRG n 141 [.ref 0, .int x] σ (some (.int w)) σ1) (hl : lV l) (ho : cG22 l o σ) (hv : vG l o) : σ1 = σ ∧ w = fWin l x o := by
  have hN := hl.1.2.2.2.2.1
  obtain ⟨e1, e2⟩ := h.by (Q := fun v s' => s' = σ ∧ v = some (.int (fWin l x o))) (fun n d => p_141_0 σ x (by
    cases o with
    | none =>
      rw [ho.2.2]
      exact ⟨fun _ => Pl.pos (fun n2 _ => p_141_17 σ ⟨rfl, rfl⟩), fun c => ⟨fun c2 => absurd c2 c, fun _ => Pl.pos (fun n2 _ => p_141_17 σ ⟨rfl, rfl⟩)⟩⟩
    | some g =>
      have hG : gC22 l.1 l.2.1 l.2.2.1 g.1 g.2.1 g.2.2.1 g.2.2.2.1 g.2.2.2.2 σ := ho
      have hV : gV l.1 l.2.1 l.2.2.1 g.1 g.2.1 g.2.2.1 g.2.2.2.1 g.2.2.2.2 := hv
      have hm := hV.2.1
      rw [hG.2.2.2.1, div_4 (by omega)]
      rw [fWin_s]
      refine ⟨fun c => Pl.pos (fun n2 _ => p_141_17 σ ⟨rfl, by rw [if_neg (fun h => le_lt.mp h.1 c)]⟩), fun c => ⟨fun c2 _ => ?_, fun c2 => Pl.pos (fun n2 _ => p_141_17 σ ⟨rfl, by rw [if_neg (fun h => c2 h.2)]⟩)⟩⟩
      obtain ⟨k, hk, rfl⟩ := nn_of (by omega) (le_lt.mpr c) c2
      rw [if_pos ⟨le_lt.mpr c, c2⟩, nI_clamp (by omega), hG.2.2.2.2.2.2.2 k hk]
      exact ⟨rfl, rfl⟩))
  cases e2
  exact ⟨e1, rfl⟩
theorem x_cases {x : Int32} (h0 : 0 ≤ x) (h2 : x ≤ 2) : x = 0 ∨ x = 1 ∨ x = 2 := by
  rw [Int32.le_iff_toInt_le] at h0 h2
  have e0 : (0 : Int32).toInt = 0 := rfl
  have e2 : (2 : Int32).toInt = 2 := rfl
  rcases (show x.toInt = 0 ∨ x.toInt = 1 ∨ x.toInt = 2 by omega) with h | h | h
  · exact Or.inl (Int32.toInt_inj.mp h)
  · exact Or.inr (Or.inl (Int32.toInt_inj.mp h))
  · exact Or.inr (Or.inr (Int32.toInt_inj.mp h))
theorem nI_0' : nI 0 = 0 := rfl
theorem t_revokes (h : RCx PRG n 142 [.ref 0, .int x] σ (some (.int w)) σ1) (hl : lV l) (hC : lC l σ) (ho : cG22 l o σ) (hv : vG l o) : σ1 = σ ∧ w = fRevs l x o := by
  have hN := hl.1.2.2.2.2.1
  obtain ⟨e1, e2⟩ := h.by (Q := fun v s' => s' = σ ∧ v = some (.int (fRevs l x o))) (fun n d => p_142_0 σ x (by
    unfold fRevs
    refine ⟨fun c => Pl.pos (fun n2 _ => p_142_9 σ ⟨rfl, by rw [if_neg (fun h => le_lt.mp h.1 c)]⟩), fun c => ⟨fun c2 => ?_, fun c2 => Pl.pos (fun n2 _ => p_142_9 σ ⟨rfl, by rw [if_neg (fun h => c2 h.2)]⟩)⟩⟩
    rw [if_pos ⟨le_lt.mpr c, c2⟩]
    have hx := x_cases (le_lt.mpr c) c2
    cases o with
    | none =>
      refine Pl.pos (fun n2 _ => p_142_22 σ x 0 0 16 0 ?_)
      rw [ho.2.2]
      refine ⟨fun _ => ⟨fun z => by rw [z]; exact ⟨rfl, rfl⟩, fun z => ⟨fun z1 => by rw [z1]; exact ⟨rfl, rfl⟩, fun z1 => ⟨fun _ => ⟨rfl, by rcases hx with e | e | e <;> first | exact absurd e z | exact absurd e z1 | (rw [e]; rfl)⟩, fun c => absurd rfl c⟩⟩⟩, fun c => absurd (by decide) c⟩
    | some g =>
      have hG : gC22 l.1 l.2.1 l.2.2.1 g.1 g.2.1 g.2.2.1 g.2.2.2.1 g.2.2.2.2 σ := ho
      have hV : gV l.1 l.2.1 l.2.2.1 g.1 g.2.1 g.2.2.1 g.2.2.2.1 g.2.2.2.2 := hv
      have hm := hV.2.1
      show Pl _ _ _ _ _ _ _ _ (fun v s' => s' = σ ∧ v = some (.int (if x = 0 then rvB l g g.2.2.2.2 else if x = 1 then nI (rvS l g g.2.2.2.2) else if rvS l g g.2.2.2.2 = 0 then -2 else rvF l g g.2.2.2.2)))
      have loop : ∀ d n k, k ≤ g.2.2.2.2 → Pl PRG n d 142 22 [(0, .ref 0), (1, .int x), (2, .int (rvB l g k)), (3, .int (nI (rvS l g k))), (4, .int (rvF l g k)), (5, .int (nI k))] [] σ (fun v s' => s' = σ ∧ v = some (.int (if x = 0 then rvB l g g.2.2.2.2 else if x = 1 then nI (rvS l g g.2.2.2.2) else if rvS l g g.2.2.2.2 = 0 then -2 else rvF l g g.2.2.2.2))) := by
        intro d n
        induction n using Nat.strongRecOn with
        | _ n ih =>
          intro k hk
          have hle := rvS_le (l := l) (g := g) k
          refine Pl.pos (fun n1 h1 => p_142_22 σ x _ _ _ (nI k) ?_)
          rw [hG.2.2.2.1]
          refine ⟨fun c => ?_, fun c _ w2 σ2 h2 => ?_⟩
          · have := (nI_leI (a := g.2.2.2.2) (b := k) (by omega) (by omega)).mp c
            have e : k = g.2.2.2.2 := by omega
            rw [e] at hle ⊢
            refine ⟨fun z => by rw [if_pos z]; exact ⟨rfl, rfl⟩, fun z => ⟨fun z1 => by rw [if_neg z, if_pos z1]; exact ⟨rfl, rfl⟩, fun z1 => ⟨fun z2 => ?_, fun z2 => ?_⟩⟩⟩
            · rw [if_neg z, if_neg z1, if_pos ((nI_eq (b := 0) (by omega) (by decide)).mp z2)]; exact ⟨rfl, rfl⟩
            · rw [if_neg z, if_neg z1, if_neg (fun e => z2 (by rw [e]; rfl))]; exact ⟨rfl, rfl⟩
          · have hlt := nle_of (a := g.2.2.2.2) (b := k) (by omega) (by omega) c
            obtain ⟨rfl, rfl⟩ := g22_70 h2 hl.1 hC.1 hG hV hlt
            rw [nI_clamp (by omega), (hG.2.2.2.2.2.2.1 k hlt).2.2.2.2.2]
            refine ⟨fun z => Pl.pos (fun n2 h2 => p_142_77 σ2 _ _ _ _ _ ?_), fun z => Pl.pos (fun n2 h2 => p_142_77 σ2 _ _ _ _ _ ?_)⟩
            · have := ih n2 (by omega) (k + 1) (by omega)
              rw [show rvS l g (k + 1) = rvS l g k from if_pos z, show rvF l g (k + 1) = rvF l g k from if_pos z] at this
              rw [nI_1]; exact this
            · have := ih n2 (by omega) (k + 1) (by omega)
              rw [show rvS l g (k + 1) = rvS l g k + 1 from if_neg z, show rvF l g (k + 1) = (if shG l g k / 4 < rvF l g k then shG l g k / 4 else rvF l g k) from if_neg z] at this
              rw [nI_1, nI_1]; exact this
      exact loop d n 0 (Nat.zero_le _)))
  cases e2
  exact ⟨e1, rfl⟩
end Tf
def fHold (A : AA) (x : Int32) : Int32 × AA := match A.2.1 with
  | none => (0, A)
  | some g => if x = 0 then (1, (A.1, A.2.1, some g, A.2.2.2)) else if x = 1 then (1, (A.1, A.2.1, A.2.2.1, some g, A.2.2.2.2)) else (0, A)
def fRest (A : AA) (x : Int32) : Int32 × AA := if x = 0 then (match A.2.2.1 with
  | none => (0, A)
  | some g => (1, upG A (some g))) else if x = 1 then (match A.2.2.2.1 with
  | none => (0, A)
  | some g => (1, upG A (some g))) else (0, A)
def one (o : Option GA) : Int32 := match o with
  | none => 0
  | some _ => 1
def fCount (A : AA) (tp x : Int32) : Int32 := if x = 0 then nI A.1.1 else if x = 1 then nI A.1.2.1 else if x = 2 then nI (A.1.1 * A.1.2.1 / 4) else if x = 3 then (if 0 ≤ A.1.2.2.1 then A.1.2.2.1 else -2) else if x = 4 then nI A.1.2.2.2.1 else if x = 5 then (match A.2.1 with
  | none => -2
  | some g => nI g.2.2.2.2) else if x = 6 then nI A.2.2.2.2 else if x = 7 then tp else if x = 8 then one A.2.2.1 + one A.2.2.2.1 else if 0 ≤ x - 10 ∧ x - 10 < nI A.1.2.2.2.1 ∧ 10 ≤ x then (10 : Int32) * A.1.2.2.2.2.1 (x - 10).toNatClampNeg + A.1.2.2.2.2.2 (x - 10).toNatClampNeg else -1
theorem v_hold {A : AA} {x : Int32} (h : V7 A) : V7 (fHold A x).2 := by
  obtain ⟨h1, h2, h3, h4, h5⟩ := h
  unfold fHold
  split
  · exact ⟨h1, h2, h3, h4, h5⟩
  · rename_i g hg
    split
    · exact ⟨h1, h2, by rw [hg] at h2; exact h2, h4, h5⟩
    · split
      · exact ⟨h1, h2, h3, by rw [hg] at h2; exact h2, h5⟩
      · exact ⟨h1, h2, h3, h4, h5⟩
theorem v_rest {A : AA} {x : Int32} (h : V7 A) : V7 (fRest A x).2 := by
  unfold fRest
  split
  · split
    · exact h
    · rename_i g hg
      exact h.up (by have := h.2.2.1; rw [hg] at this; exact this)
  · split
    · split
      · exact h
      · rename_i g hg
        exact h.up (by have := h.2.2.2.1; rw [hg] at this; exact this)
    · exact h
theorem lt2 {x : Int32} (h0 : ¬ x < 0) (h2 : ¬ (2 : Int32) ≤ x) : x = 0 ∨ x = 1 := by
  rw [Int32.lt_iff_toInt_lt] at h0
  rw [Int32.le_iff_toInt_le] at h2
  have e0 : (0 : Int32).toInt = 0 := rfl
  have e2 : (2 : Int32).toInt = 2 := rfl
  rcases (show x.toInt = 0 ∨ x.toInt = 1 by omega) with h | h
  · exact Or.inl (Int32.toInt_inj.mp h)
  · exact Or.inr (Int32.toInt_inj.mp h)
section Th
variable {A : AA} {n : Nat} {x w : Int32} {σ σ1 : Sg}
theorem t_hold (h : RCx PRG n 174 [.ref 0, .int x] σ (some (.int w)) σ1) (hv : V7 A) (hC : C7 A σ) : w = (fHold A x).1 ∧ C7 (fHold A x).2 σ1 ∧ mS σ σ1 := by
  obtain ⟨v, e, h1, h2⟩ := h.by (Q := fun v s' => ∃ w, v = some (.int w) ∧ w = (fHold A x).1 ∧ C7 (fHold A x).2 s' ∧ mS σ s') (fun n d => p_174_0 σ x (by
    obtain ⟨c1, c2, c3, c4, c5⟩ := hC
    have no : ∀ n2, (fHold A x = (0, A)) → Pl PRG n2 d 174 19 [] [] σ (fun v s' => ∃ w, v = some (.int w) ∧ w = (fHold A x).1 ∧ C7 (fHold A x).2 s' ∧ mS σ s') := fun n2 he => Pl.pos (fun n3 _ => p_174_19 σ ⟨0, rfl, by rw [he], by rw [he]; exact ⟨c1, c2, c3, c4, c5⟩, mS.refl σ⟩)
    have off : ¬ x = 0 → ¬ x = 1 → fHold A x = (0, A) := fun n0 n1 => by
      unfold fHold
      split
      · rfl
      · rw [if_neg n0, if_neg n1]
    refine ⟨fun c => no _ (off (fun e => by rw [e] at c; exact absurd c (by decide)) (fun e => by rw [e] at c; exact absurd c (by decide))), fun c => ⟨fun c' => no _ (off (fun e => by rw [e] at c'; exact absurd c' (by decide)) (fun e => by rw [e] at c'; exact absurd c' (by decide))), fun c' => ?_⟩⟩
    cases hg : A.2.1 with
    | none =>
      rw [hg] at c2
      refine ⟨fun _ => no _ (by unfold fHold; rw [hg]), fun z => absurd c2.1 z⟩
    | some g =>
      have hG : gC22 A.1.1 A.1.2.1 A.1.2.2.1 g.1 g.2.1 g.2.2.1 g.2.2.2.1 g.2.2.2.2 σ := by rw [hg] at c2; exact c2
      have hV : gV A.1.1 A.1.2.1 A.1.2.2.1 g.1 g.2.1 g.2.2.1 g.2.2.2.1 g.2.2.2.2 := by have := hv.2.1; rw [hg] at this; exact this
      refine ⟨fun z => by rw [hG.1] at z; exact absurd z (by decide), fun _ => ⟨fun z σ2 h2 => ?_, fun z σ2 h2 => ?_⟩⟩
      · subst z
        obtain ⟨k1, k2⟩ := g46_67_22 h2 hv.1.1 c1.1 hG hV
        have e : fHold A 0 = (1, (A.1, A.2.1, some g, A.2.2.2)) := by unfold fHold; rw [hg]; rfl
        rw [e]
        exact ⟨1, rfl, rfl, ⟨c1.fr k2 rfl rfl rfl rfl rfl, c2.fr k2 rfl rfl, k1, c4.fr k2 rfl rfl, (k2 93 (by decide) rfl 2).trans c5⟩, k2.mS rfl⟩
      · subst z
        obtain ⟨k1, k2⟩ := g58_67_22 h2 hv.1.1 c1.1 hG hV
        have e : fHold A 1 = (1, (A.1, A.2.1, A.2.2.1, some g, A.2.2.2.2)) := by unfold fHold; rw [hg]; rfl
        rw [e]
        exact ⟨1, rfl, rfl, ⟨c1.fr k2 rfl rfl rfl rfl rfl, c2.fr k2 rfl rfl, c3.fr k2 rfl rfl, k1, (k2 93 (by decide) rfl 2).trans c5⟩, k2.mS rfl⟩))
  cases e
  exact ⟨h1, h2⟩
theorem t_rest (h : RCx PRG n 175 [.ref 0, .int x] σ (some (.int w)) σ1) (hv : V7 A) (hC : C7 A σ) : w = (fRest A x).1 ∧ C7 (fRest A x).2 σ1 ∧ mS σ σ1 := by
  obtain ⟨v, e, h1, h2⟩ := h.by (Q := fun v s' => ∃ w, v = some (.int w) ∧ w = (fRest A x).1 ∧ C7 (fRest A x).2 s' ∧ mS σ s') (fun n d => p_175_0 σ x (by
    have hC0 := hC
    obtain ⟨c1, c2, c3, c4, c5⟩ := hC
    have no : ∀ n2, (fRest A x = (0, A)) → Pl PRG n2 d 175 21 [] [] σ (fun v s' => ∃ w, v = some (.int w) ∧ w = (fRest A x).1 ∧ C7 (fRest A x).2 s' ∧ mS σ s') := fun n2 he => Pl.pos (fun n3 _ => p_175_21 σ ⟨0, rfl, by rw [he], by rw [he]; exact hC0, mS.refl σ⟩)
    have off : ¬ x = 0 → ¬ x = 1 → fRest A x = (0, A) := fun n0 n1 => by
      unfold fRest
      rw [if_neg n0, if_neg n1]
    refine ⟨fun c => no _ (off (fun e => by rw [e] at c; exact absurd c (by decide)) (fun e => by rw [e] at c; exact absurd c (by decide))), fun c => ⟨fun c' => no _ (off (fun e => by rw [e] at c'; exact absurd c' (by decide)) (fun e => by rw [e] at c'; exact absurd c' (by decide))), fun c' => ⟨fun z => ?_, fun z => ?_⟩⟩⟩
    · subst z
      cases hg : A.2.2.1 with
      | none =>
        rw [hg] at c3
        exact ⟨fun _ => no _ (by unfold fRest; rw [if_pos rfl, hg]), fun z => absurd c3.1 z⟩
      | some g =>
        have hG : gC46 A.1.1 A.1.2.1 A.1.2.2.1 g.1 g.2.1 g.2.2.1 g.2.2.2.1 g.2.2.2.2 σ := by rw [hg] at c3; exact c3
        have hV : gV A.1.1 A.1.2.1 A.1.2.2.1 g.1 g.2.1 g.2.2.1 g.2.2.2.1 g.2.2.2.2 := by have := hv.2.2.1; rw [hg] at this; exact this
        refine ⟨fun z => by rw [hG.1] at z; exact absurd z (by decide), fun _ => ⟨fun _ σ2 h2 => ?_, fun z => absurd z (by decide)⟩⟩
        obtain ⟨k1, k2⟩ := g22_67_46 h2 hv.1.1 c1.1 hG hV
        have e : fRest A 0 = (1, upG A (some g)) := by unfold fRest; rw [if_pos rfl, hg]
        rw [e]
        exact ⟨1, rfl, rfl, hC0.up k2 k1, k2.mS rfl⟩
    · subst z
      cases hg : A.2.2.2.1 with
      | none =>
        rw [hg] at c4
        exact ⟨fun _ => no _ (by unfold fRest; rw [if_neg (by decide), if_pos rfl, hg]), fun z => absurd c4.1 z⟩
      | some g =>
        have hG : gC58 A.1.1 A.1.2.1 A.1.2.2.1 g.1 g.2.1 g.2.2.1 g.2.2.2.1 g.2.2.2.2 σ := by rw [hg] at c4; exact c4
        have hV : gV A.1.1 A.1.2.1 A.1.2.2.1 g.1 g.2.1 g.2.2.1 g.2.2.2.1 g.2.2.2.2 := by have := hv.2.2.2.1; rw [hg] at this; exact this
        refine ⟨fun z => by rw [hG.1] at z; exact absurd z (by decide), fun _ => ⟨fun z => absurd z (by decide), fun _ σ2 h2 => ?_⟩⟩
        obtain ⟨k1, k2⟩ := g22_67_58 h2 hv.1.1 c1.1 hG hV
        have e : fRest A 1 = (1, upG A (some g)) := by unfold fRest; rw [if_neg (by decide), if_pos rfl, hg]
        rw [e]
        exact ⟨1, rfl, rfl, hC0.up k2 k1, k2.mS rfl⟩))
  cases e
  exact ⟨h1, h2⟩
theorem rc169 {y : Int32} (h : RCx PRG n 169 [.ref 0, .int y] σ (some (.int w)) σ1) (hC : C7 A σ) : σ1 = σ ∧ ((w = 1 ∧ 0 ≤ y ∧ y < nI A.1.2.2.2.1) ∨ (w = 0 ∧ ¬ (0 ≤ y ∧ y < nI A.1.2.2.2.1))) := by
  obtain ⟨a, b⟩ := h.by (Q := fun v s' => s' = σ ∧ ((v = some (.int 1) ∧ 0 ≤ y ∧ y < nI A.1.2.2.2.1) ∨ (v = some (.int 0) ∧ ¬ (0 ≤ y ∧ y < nI A.1.2.2.2.1)))) (fun n d => p_169_0 σ y (by
    rw [hC.1.2.1]
    exact ⟨fun c => Pl.pos (fun n2 _ => p_169_19 σ ⟨rfl, Or.inr ⟨rfl, fun h => le_lt.mp h.1 c⟩⟩), fun c => ⟨fun c2 => Pl.pos (fun n2 _ => p_169_19 σ ⟨rfl, Or.inr ⟨rfl, fun h => le_lt.mp c2 h.2⟩⟩), fun c2 => ⟨rfl, Or.inl ⟨rfl, le_lt.mpr c, Decidable.not_not.mp (fun h => c2 (le_lt.mpr h))⟩⟩⟩⟩))
  refine ⟨a, ?_⟩
  rcases b with ⟨b, c⟩ | ⟨b, c⟩
  · cases b; exact Or.inl ⟨rfl, c⟩
  · cases b; exact Or.inr ⟨rfl, c⟩
theorem one46 (hC : C7 A σ) : σ.1 46 2 = one A.2.2.1 := by
  have := hC.2.2.1
  cases hg : A.2.2.1 with
  | none => rw [hg] at this; exact this.1
  | some g => rw [hg] at this; exact this.1
theorem one58 (hC : C7 A σ) : σ.1 58 2 = one A.2.2.2.1 := by
  have := hC.2.2.2.1
  cases hg : A.2.2.2.1 with
  | none => rw [hg] at this; exact this.1
  | some g => rw [hg] at this; exact this.1
theorem one_z (o : Option GA) : one o = 0 ∨ one o = 1 := by
  cases o
  · exact Or.inl rfl
  · exact Or.inr rfl
theorem rc176 (h : RCx PRG n 176 [.ref 0] σ (some (.int w)) σ1) (hC : C7 A σ) : σ1 = σ ∧ w = one A.2.2.1 + one A.2.2.2.1 := by
  have e46 := one46 hC
  have e58 := one58 hC
  obtain ⟨a, b⟩ := h.by (Q := fun v s' => s' = σ ∧ v = some (.int (one A.2.2.1 + one A.2.2.2.1))) (fun n d => p_176_0 σ (by
    have fin : ∀ n2 y, y = one A.2.2.1 + one A.2.2.2.1 → Pl PRG n2 d 176 4 [(0, .ref 0), (1, .int y), (2, .int 2)] [] σ (fun v s' => s' = σ ∧ v = some (.int (one A.2.2.1 + one A.2.2.2.1))) := fun n2 y hy => Pl.pos (fun n3 _ => p_176_4 σ y 2 ⟨fun _ => ⟨rfl, by rw [hy]⟩, fun c => absurd (by decide) c⟩)
    have nz : ∀ o, ¬ one o = 0 → one o = 1 := fun o z => by
      rcases one_z o with q | q
      · exact absurd q z
      · exact q
    have mid : ∀ n2 y, y = one A.2.2.1 → Pl PRG n2 d 176 4 [(0, .ref 0), (1, .int y), (2, .int 1)] [] σ (fun v s' => s' = σ ∧ v = some (.int (one A.2.2.1 + one A.2.2.2.1))) := fun n2 y hy => Pl.pos (fun n3 _ => p_176_4 σ y 1 ⟨fun c => absurd c (by decide), fun _ => ⟨fun c => absurd c (by decide), fun _ => ⟨fun z => fin _ _ (by rw [hy]; rw [e58] at z; rw [z]), fun z => fin _ _ (by rw [hy]; rw [e58] at z; rw [nz _ z])⟩⟩⟩)
    exact Pl.pos (fun n3 _ => p_176_4 σ 0 0 ⟨fun c => absurd c (by decide), fun _ => ⟨fun _ => ⟨fun z => mid _ _ (by rw [e46] at z; rw [z]; rfl), fun z => mid _ _ (by rw [e46] at z; rw [nz _ z]; rfl)⟩, fun c => absurd c (by decide)⟩⟩)))
  cases b
  exact ⟨a, rfl⟩
theorem ne_of {x k : Int32} (h : ¬ x.toInt = k.toInt) : ¬ x = k := fun e => h (by rw [e])
theorem t_count (h : RCx PRG n 177 [.ref 0, .int x] σ (some (.int w)) σ1) (hv : V7 A) (hC : C7 A σ) : σ1 = σ ∧ w = fCount A (σ.1 0 1) x := by
  obtain ⟨a, b⟩ := h.by (Q := fun v s' => s' = σ ∧ v = some (.int (fCount A (σ.1 0 1) x))) (fun n d => p_177_0 σ x (by
    obtain ⟨c1, c2, c3, c4, c5⟩ := hC
    have hC : C7 A σ := ⟨c1, c2, c3, c4, c5⟩
    have hnc := hv.1.2
    refine ⟨fun q => ?_, fun q => ?_, fun q => ?_, fun q => ?_, fun q => ?_, fun q => ?_, fun q => ?_, fun q => ?_, fun q => ?_, fun q w2 σ2 h2 => ?_⟩
    · have e : fCount A (σ.1 0 1) x = if 0 ≤ x - 10 ∧ x - 10 < nI A.1.2.2.2.1 ∧ 10 ≤ x then (10 : Int32) * A.1.2.2.2.2.1 (x - 10).toNatClampNeg + A.1.2.2.2.2.2 (x - 10).toNatClampNeg else -1 := by
        have ne : ∀ k : Int32, 0 ≤ k.toInt → k.toInt ≤ 8 → ¬ x = k := fun k h0 h5 e => by rw [e] at q; omega
        unfold fCount
        rw [if_neg (ne 0 (by decide) (by decide)), if_neg (ne 1 (by decide) (by decide)), if_neg (ne 2 (by decide) (by decide)), if_neg (ne 3 (by decide) (by decide)), if_neg (ne 4 (by decide) (by decide)), if_neg (ne 5 (by decide) (by decide)), if_neg (ne 6 (by decide) (by decide)), if_neg (ne 7 (by decide) (by decide)), if_neg (ne 8 (by decide) (by decide))]
      rw [e]
      refine ⟨fun c => Pl.pos (fun n2 _ => p_177_196 σ ⟨rfl, by rw [if_neg (fun h => le_lt.mp h.2.2 c)]⟩), fun c w2 σ2 h2 _ => ?_⟩
      obtain ⟨rfl, k⟩ := rc169 h2 hC
      refine ⟨fun z => Pl.pos (fun n2 _ => p_177_196 σ2 ⟨rfl, ?_⟩), fun z _ _ => ?_⟩
      · rcases k with ⟨e, -⟩ | ⟨-, k⟩
        · rw [e] at z; exact absurd z (by decide)
        · rw [if_neg (fun h => k ⟨h.1, h.2.1⟩)]
      · rcases k with ⟨-, k⟩ | ⟨e, -⟩
        · obtain ⟨j, hj, ej⟩ := nn_of (by omega) k.1 k.2
          rw [if_pos ⟨k.1, k.2, le_lt.mpr c⟩, ej, nI_clamp (by omega), (c1.2.2 j hj).1, (c1.2.2 j hj).2]
          exact ⟨rfl, rfl⟩
        · exact absurd e z
    · obtain rfl := i32_of q (by decide) (by decide)
      rw [c1.1.1]; exact ⟨rfl, rfl⟩
    · obtain rfl := i32_of q (by decide) (by decide)
      rw [c1.1.2.1]; exact ⟨rfl, rfl⟩
    · obtain rfl := i32_of q (by decide) (by decide)
      rw [c1.1.2.2.2.2.1]; exact ⟨rfl, rfl⟩
    · obtain rfl := i32_of q (by decide) (by decide)
      rw [c1.1.2.2.1]
      show (_ → _ ∧ some (Value.int _) = some (Value.int (if 0 ≤ A.1.2.2.1 then A.1.2.2.1 else -2))) ∧ (_ → _ ∧ some (Value.int _) = some (Value.int (if 0 ≤ A.1.2.2.1 then A.1.2.2.1 else -2)))
      exact ⟨fun c => by rw [if_pos c]; exact ⟨rfl, rfl⟩, fun c => by rw [if_neg c]; exact ⟨rfl, rfl⟩⟩
    · obtain rfl := i32_of q (by decide) (by decide)
      rw [c1.2.1]; exact ⟨rfl, rfl⟩
    · obtain rfl := i32_of q (by decide) (by decide)
      show (_ → _ ∧ some (Value.int _) = some (Value.int (match A.2.1 with
        | none => -2
        | some g => nI g.2.2.2.2))) ∧ (_ → _ ∧ some (Value.int _) = some (Value.int (match A.2.1 with
        | none => -2
        | some g => nI g.2.2.2.2)))
      cases hg : A.2.1 with
      | none =>
        rw [hg] at c2
        exact ⟨fun _ => ⟨rfl, rfl⟩, fun z => absurd c2.1 z⟩
      | some g =>
        rw [hg] at c2
        have hG : gC22 A.1.1 A.1.2.1 A.1.2.2.1 g.1 g.2.1 g.2.2.1 g.2.2.2.1 g.2.2.2.2 σ := c2
        rw [hG.1, hG.2.2.2.1]
        exact ⟨fun z => absurd z (by decide), fun _ => ⟨rfl, rfl⟩⟩
    · obtain rfl := i32_of q (by decide) (by decide)
      rw [c5]; exact ⟨rfl, rfl⟩
    · obtain rfl := i32_of q (by decide) (by decide)
      exact ⟨rfl, rfl⟩
    · obtain rfl := i32_of q (by decide) (by decide)
      obtain ⟨rfl, rfl⟩ := rc176 h2 hC
      exact ⟨rfl, rfl⟩))
  cases b
  exact ⟨a, rfl⟩
end Th
