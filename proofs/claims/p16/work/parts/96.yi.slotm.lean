/-! slots and counts, the reference -/
def hIn (q c j : Nat) : Prop := ((c = 152 ∨ c = 154 ∨ c = 155) ∧ j = q) ∨ (c = 153 ∧ j / 4 = q) ∨ ((c = 156 ∨ c = 157) ∧ j / 16 = q)
def hF (q : Nat) (σ σ' : Sg) : Prop := ∀ c j, ¬ hIn q c j → σ'.1 c j = σ.1 c j
theorem hF.refl {q : Nat} (σ : Sg) : hF q σ σ := fun _ _ _ => rfl
theorem hF.put {q c j : Nat} {y : Int32} {σ σ1 : Sg} (h : hF q σ σ1) (hc : hIn q c j) : hF q σ (s1 σ1 c j y) := fun c' j' hn => by
  rw [s1_off (fun e => hn (by rw [e.1, e.2]; exact hc))]
  exact h c' j' hn
theorem hF.off {q c : Nat} {σ σ1 : Sg} (h : hF q σ σ1) (hc : c < 152 ∨ 157 < c) (j : Nat) : σ1.1 c j = σ.1 c j := h c j (by unfold hIn; omega)
theorem hF.cS {q : Nat} {σ σ1 : Sg} (h : hF q σ σ1) : cS σ σ1 := fun c hc _ j => h.off (by omega) j
theorem lR.keep {l : LA} {σ σ' : Sg} (h : lR l σ) (e : ∀ q, q = 106 ∨ q = 107 ∨ q = 108 ∨ q = 109 ∨ q = 110 ∨ q = 111 → ∀ j, σ'.1 q j = σ.1 q j) (e18 : σ'.1 97 18 = σ.1 97 18) : lR l σ' := by
  obtain ⟨lv, ⟨h1, h2, h3, h4, h5⟩, hc, hk⟩ := h
  exact ⟨lv, ⟨h1, e18.trans h2, (e 106 (by omega) lv).trans h3, (e 107 (by omega) lv).trans h4, by rw [e 106 (by omega), e 108 (by omega)]; exact h5⟩, (e 109 (by omega) lv).trans hc, fun k hk' => ⟨(e 110 (by omega) _).trans (hk k hk').1, (e 111 (by omega) _).trans (hk k hk').2⟩⟩
theorem rGo.keep {o : Option GA} {σ σ' : Sg} (h : rGo o σ) (e : ∀ q, q = 125 ∨ q = 126 ∨ q = 127 → ∀ j, σ'.1 q j = σ.1 q j) (e45 : σ'.1 97 45 = σ.1 97 45) (e47 : σ'.1 97 47 = σ.1 97 47) (e48 : σ'.1 97 48 = σ.1 97 48) : rGo o σ' := by
  cases o with
  | none => exact ⟨e45.trans h.1, e48.trans h.2⟩
  | some g => exact ⟨e45.trans h.1, e47.trans h.2.1, e48.trans h.2.2.1, fun p hp => (e 125 (by omega) p).trans (h.2.2.2.1 p hp), fun i hi => ⟨(e 126 (by omega) i).trans (h.2.2.2.2 i hi).1, (e 127 (by omega) i).trans (h.2.2.2.2 i hi).2⟩⟩
theorem rH.keep {q : Nat} {o : Option GA} {σ σ' : Sg} (h : rH q o σ) (hm : ∀ g, o = some g → g.2.2.2.2 ≤ 16) (e : ∀ c j, hIn q c j → σ'.1 c j = σ.1 c j) : rH q o σ' := by
  have i1 : ∀ c, c = 152 ∨ c = 154 ∨ c = 155 → hIn q c q := fun c hc => Or.inl ⟨hc, rfl⟩
  cases o with
  | none => exact (e 152 q (i1 152 (by omega))).trans h
  | some g =>
    have hm := hm g rfl
    obtain ⟨a1, a2, a3, a4, a5⟩ := h
    exact ⟨(e 152 q (i1 152 (by omega))).trans a1, (e 154 q (i1 154 (by omega))).trans a2, (e 155 q (i1 155 (by omega))).trans a3, fun p hp => (e 153 _ (Or.inr (Or.inl ⟨rfl, by omega⟩))).trans (a4 p hp), fun i hi => ⟨(e 156 _ (Or.inr (Or.inr ⟨Or.inl rfl, by omega⟩))).trans (a5 i hi).1, (e 157 _ (Or.inr (Or.inr ⟨Or.inr rfl, by omega⟩))).trans (a5 i hi).2⟩⟩
section Ui
variable {A : AA} {n q : Nat} {x w : Int32} {σ σ1 : Sg}
theorem m4 {a b : Nat} (ha : a < 4) (hb : b < 100) : ((4 : Int32) * nI a) + nI b = nI (4 * a + b) := by rw [nI_4, nI_mulI (by omega) (by omega) (by omega), nI_add]
theorem m16 {a b : Nat} (ha : a < 4) (hb : b < 100) : ((16 : Int32) * nI a) + nI b = nI (16 * a + b) := by rw [show (16 : Int32) = nI 16 by decide, nI_mulI (by omega) (by omega) (by omega), nI_add]
theorem hold_l {d : Nat} {g : GA} {σ0 : Sg} (hq : q < 2) (hm : g.2.2.2.2 ≤ 16) (hG : rG g.1 g.2.1 g.2.2.1 g.2.2.2.1 g.2.2.2.2 σ0) : ∀ (n k : Nat) (σ : Sg), k ≤ g.2.2.2.2 → hF q σ0 σ → σ.1 152 q = 1 → σ.1 154 q = g.2.1 → σ.1 155 q = nI g.2.2.2.2 → (∀ p, p < 4 → σ.1 153 (4 * q + p) = g.1 p) → (∀ i, i < k → σ.1 156 (16 * q + i) = g.2.2.1 i ∧ σ.1 157 (16 * q + i) = g.2.2.2.1 i) → Pl PRG n d 321 76 [(0, .ref 97), (1, .int (nI q)), (2, .int (nI k))] [] σ (fun v s' => v = some (.int 1) ∧ rH q (some g) s' ∧ hF q σ0 s') := by
  intro n
  induction n using Nat.strongRecOn with
  | _ n ih =>
    intro k σ hk hf a1 a2 a3 a4 a5
    refine Pl.pos (fun n1 h1 => p_321_76 σ (nI q) (nI k) ?_)
    rw [hf.off (by omega), hG.2.2.1]
    refine ⟨fun c => ?_, fun c _ _ _ _ => ?_⟩
    · have := (nI_leI (a := g.2.2.2.2) (b := k) (by omega) (by omega)).mp c
      have e : k = g.2.2.2.2 := by omega
      subst e
      exact ⟨rfl, ⟨a1, a2, a3, a4, a5⟩, hf⟩
    · have hlt := nle_of (a := g.2.2.2.2) (b := k) (by omega) (by omega) c
      rw [m16 (by omega) (by omega), nI_clamp (by omega), nI_clamp (by omega), nI_1, hf.off (by omega), hf.off (by omega), (hG.2.2.2.2 k hlt).1, (hG.2.2.2.2 k hlt).2]
      refine ih n1 (by omega) (k + 1) _ (by omega) ((hf.put (Or.inr (Or.inr ⟨Or.inl rfl, by omega⟩))).put (Or.inr (Or.inr ⟨Or.inr rfl, by omega⟩))) ?_ ?_ ?_ (fun p hp => ?_) (fun i hi => ?_)
      · rw [s1_off (by omega), s1_off (by omega)]; exact a1
      · rw [s1_off (by omega), s1_off (by omega)]; exact a2
      · rw [s1_off (by omega), s1_off (by omega)]; exact a3
      · rw [s1_off (by omega), s1_off (by omega)]; exact a4 p hp
      · by_cases e : i = k
        · subst e
          exact ⟨by rw [s1_off (by omega), s1_on], by rw [s1_on]⟩
        · exact ⟨by rw [s1_off (by omega), s1_off (by omega)]; exact (a5 i (by omega)).1, by rw [s1_off (by omega), s1_off (by omega)]; exact (a5 i (by omega)).2⟩
theorem hold_d {d : Nat} {g : GA} {σ0 : Sg} (hq : q < 2) (hm : g.2.2.2.2 ≤ 16) (hG : rG g.1 g.2.1 g.2.2.1 g.2.2.2.1 g.2.2.2.2 σ0) : ∀ (n k : Nat) (σ : Sg), k ≤ 4 → hF q σ0 σ → σ.1 152 q = 1 → σ.1 154 q = g.2.1 → σ.1 155 q = nI g.2.2.2.2 → (∀ p, p < k → σ.1 153 (4 * q + p) = g.1 p) → Pl PRG n d 321 47 [(0, .ref 97), (1, .int (nI q)), (2, .int (nI k))] [] σ (fun v s' => v = some (.int 1) ∧ rH q (some g) s' ∧ hF q σ0 s') := by
  intro n
  induction n using Nat.strongRecOn with
  | _ n ih =>
    intro k σ hk hf a1 a2 a3 a4
    refine Pl.pos (fun n1 h1 => p_321_47 σ (nI q) (nI k) ?_)
    refine ⟨fun c => ?_, fun c _ _ => ?_⟩
    · have := (nI_leI (a := 4) (b := k) (by omega) (by omega)).mp c
      have e : k = 4 := by omega
      subst e
      exact hold_l hq hm hG n1 0 σ (Nat.zero_le _) hf a1 a2 a3 a4 (fun i hi => absurd hi (Nat.not_lt_zero _))
    · have hlt := nle_of (a := 4) (b := k) (by omega) (by omega) c
      rw [m4 (by omega) (by omega), nI_clamp (by omega), nI_clamp (by omega), nI_1, hf.off (by omega), hG.2.2.2.1 k hlt]
      refine ih n1 (by omega) (k + 1) _ (by omega) (hf.put (Or.inr (Or.inl ⟨rfl, by omega⟩))) ?_ ?_ ?_ (fun p hp => ?_)
      · rw [s1_off (by omega)]; exact a1
      · rw [s1_off (by omega)]; exact a2
      · rw [s1_off (by omega)]; exact a3
      · by_cases e : p = k
        · subst e; rw [s1_on]
        · rw [s1_off (by omega)]; exact a4 p (by omega)
theorem le16 {l : LA} {g : GA} (hl : lV l) (hv : vG l (some g)) : g.2.2.2.2 ≤ 16 := by
  have hN := hl.1.2.2.2.2.1
  have := (show gV l.1 l.2.1 l.2.2.1 g.1 g.2.1 g.2.2.1 g.2.2.2.1 g.2.2.2.2 from hv).2.1
  omega
theorem le16' {l : LA} {o : Option GA} (hl : lV l) (hv : vG l o) : ∀ g, o = some g → g.2.2.2.2 ≤ 16 := fun g e => le16 hl (by rw [← e]; exact hv)
theorem in_01 {x : Int32} (h : ¬ x < 0 ∧ ¬ (1 : Int32) < x) : x = 0 ∨ x = 1 := by
  have h := in_1.mpr h
  rw [Int32.le_iff_toInt_le, Int32.le_iff_toInt_le] at h
  have e0 : (0 : Int32).toInt = 0 := rfl
  have e1 : (1 : Int32).toInt = 1 := rfl
  rcases (show x.toInt = 0 ∨ x.toInt = 1 by omega) with h | h
  · exact Or.inl (Int32.toInt_inj.mp h)
  · exact Or.inr (Int32.toInt_inj.mp h)
theorem n01 {x : Int32} (h : x < 0 ∨ (1 : Int32) < x) : ¬ x = 0 ∧ ¬ x = 1 := by
  refine ⟨fun e => ?_, fun e => ?_⟩
  · rw [e] at h; exact absurd h (by decide)
  · rw [e] at h; exact absurd h (by decide)
theorem u_hold (h : RCx PRG n 321 [.ref 97, .int x] σ (some (.int w)) σ1) (hv : V7 A) (hR : R7 A σ) : w = (fHold A x).1 ∧ R7 (fHold A x).2 σ1 ∧ cS σ σ1 := by
  obtain ⟨v, e, h1, h2⟩ := h.by (Q := fun v s' => ∃ w, v = some (.int w) ∧ w = (fHold A x).1 ∧ R7 (fHold A x).2 s' ∧ cS σ s') (fun n d => p_321_0 σ x (fun w2 σ2 h2 _ => by
    obtain ⟨rfl, k⟩ := m195 h2
    have no : ∀ n2, (fHold A x = (0, A)) → Pl PRG n2 d 321 16 [] [] σ2 (fun v s' => ∃ w, v = some (.int w) ∧ w = (fHold A x).1 ∧ R7 (fHold A x).2 s' ∧ cS σ2 s') := fun n2 he => Pl.pos (fun n3 _ => p_321_16 σ2 ⟨0, rfl, by rw [he], by rw [he]; exact hR, cS.refl σ2⟩)
    refine ⟨fun z => no _ ?_, fun z => ?_⟩
    · rcases k with ⟨e, -⟩ | ⟨-, k⟩
      · rw [e] at z; exact absurd z (by decide)
      · obtain ⟨n0, n1⟩ := n01 k
        unfold fHold
        split
        · rfl
        · rw [if_neg n0, if_neg n1]
    · rcases k with ⟨-, k⟩ | ⟨e, -⟩
      · obtain ⟨r1, r2, r3, r4, r5⟩ := hR
        have hx := in_01 k
        cases hg : A.2.1 with
        | none =>
          rw [hg] at r2
          exact ⟨fun _ => no _ (by unfold fHold; rw [hg]), fun z => absurd r2.1 z⟩
        | some g =>
          rw [hg] at r2
          have hG : rG g.1 g.2.1 g.2.2.1 g.2.2.2.1 g.2.2.2.2 σ2 := r2
          have hm := le16' hv.1 hv.2.1 g hg
          refine ⟨fun z => by rw [hG.1] at z; exact absurd z (by decide), fun _ _ _ _ => ?_⟩
          rw [hG.2.1, hG.2.2.1]
          have go : ∀ q, q < 2 → x = nI q → (∀ s', rH q (some g) s' → hF q σ2 s' → ∃ w, some (Value.int 1) = some (.int w) ∧ w = (fHold A x).1 ∧ R7 (fHold A x).2 s' ∧ cS σ2 s') → Pl PRG n d 321 47 [(0, .ref 97), (1, .int x), (2, .int (0 : Int32))] [] (s1 (s1 (s1 σ2 152 x.toNatClampNeg (vp_nar .boolean (1 : Int32))) 154 x.toNatClampNeg g.2.1) 155 x.toNatClampNeg (nI g.2.2.2.2)) (fun v s' => ∃ w, v = some (.int w) ∧ w = (fHold A x).1 ∧ R7 (fHold A x).2 s' ∧ cS σ2 s') := fun q hq ex fin => by
            subst ex
            rw [nI_clamp (by omega)]
            refine Pl.mono (hold_d hq hm hG n 0 _ (by decide) ((((hF.refl σ2).put (Or.inl ⟨by omega, rfl⟩)).put (Or.inl ⟨by omega, rfl⟩)).put (Or.inl ⟨by omega, rfl⟩)) ?_ ?_ ?_ (fun p hp => absurd hp (Nat.not_lt_zero _))) (fun v s' hq' => ?_)
            · rw [s1_off (by omega), s1_off (by omega), s1_on]; rfl
            · rw [s1_off (by omega), s1_on]
            · rw [s1_on]
            · rw [hq'.1]; exact fin s' hq'.2.1 hq'.2.2
          have keep : ∀ q s', q < 2 → hF q σ2 s' → lR A.1 s' ∧ rGo (some g) s' ∧ s'.1 97 86 = nI A.2.2.2.2 := fun q s' hq hf => ⟨r1.keep (fun c hc j => hf.off (by omega) j) (hf.off (by omega) 18), r2.keep (fun c hc j => hf.off (by omega) j) (hf.off (by omega) 45) (hf.off (by omega) 47) (hf.off (by omega) 48), (hf.off (by omega) 86).trans r5⟩
          rcases hx with ex | ex
          · refine go 0 (by decide) ex (fun s' p1 p2 => ?_)
            have e : fHold A x = (1, (A.1, A.2.1, some g, A.2.2.2)) := by unfold fHold; rw [hg, ex]; rfl
            obtain ⟨k1, k2, k3⟩ := keep 0 s' (by decide) p2
            rw [e]
            exact ⟨1, rfl, rfl, ⟨k1, by show rGo A.2.1 s'; rw [hg]; exact k2, p1, r4.keep (le16' hv.1 hv.2.2.2.1) (fun c j hc => p2 c j (by unfold hIn at hc ⊢; omega)), k3⟩, p2.cS⟩
          · refine go 1 (by decide) ex (fun s' p1 p2 => ?_)
            have e : fHold A x = (1, (A.1, A.2.1, A.2.2.1, some g, A.2.2.2.2)) := by unfold fHold; rw [hg, ex]; rfl
            obtain ⟨k1, k2, k3⟩ := keep 1 s' (by decide) p2
            rw [e]
            exact ⟨1, rfl, rfl, ⟨k1, by show rGo A.2.1 s'; rw [hg]; exact k2, r3.keep (le16' hv.1 hv.2.2.1) (fun c j hc => p2 c j (by unfold hIn at hc ⊢; omega)), p1, k3⟩, p2.cS⟩
      · exact absurd e z))
  cases e
  exact ⟨h1, h2⟩
theorem rest_l {d : Nat} {g : GA} {σ0 : Sg} (hq : q < 2) (hm : g.2.2.2.2 ≤ 16) (hG : hG q g.1 g.2.1 g.2.2.1 g.2.2.2.1 g.2.2.2.2 σ0) : ∀ (n k : Nat) (σ : Sg), k ≤ g.2.2.2.2 → rF σ0 σ → σ.1 97 45 = 1 → σ.1 97 47 = g.2.1 → σ.1 97 48 = nI g.2.2.2.2 → (∀ p, p < 4 → σ.1 125 p = g.1 p) → (∀ i, i < k → σ.1 126 i = g.2.2.1 i ∧ σ.1 127 i = g.2.2.2.1 i) → Pl PRG n d 322 76 [(0, .ref 97), (1, .int (nI q)), (2, .int (nI k))] [] σ (fun v s' => v = some (.int 1) ∧ rGo (some g) s' ∧ rF σ0 s') := by
  intro n
  induction n using Nat.strongRecOn with
  | _ n ih =>
    intro k σ hk hf a1 a2 a3 a4 a5
    refine Pl.pos (fun n1 h1 => p_322_76 σ (nI q) (nI k) ?_)
    rw [a3]
    refine ⟨fun c => ?_, fun c _ _ _ _ => ?_⟩
    · have := (nI_leI (a := g.2.2.2.2) (b := k) (by omega) (by omega)).mp c
      have e : k = g.2.2.2.2 := by omega
      subst e
      exact ⟨rfl, ⟨a1, a2, a3, a4, a5⟩, hf⟩
    · have hlt := nle_of (a := g.2.2.2.2) (b := k) (by omega) (by omega) c
      rw [m16 (by omega) (by omega), nI_clamp (by omega), nI_clamp (by omega), nI_1, hf.1 156 (by decide) (by decide), hf.1 157 (by decide) (by decide), (hG.2.2.2.2 k hlt).1, (hG.2.2.2.2 k hlt).2]
      refine ih n1 (by omega) (k + 1) _ (by omega) ((hf.put rfl (by omega)).put rfl (by omega)) ?_ ?_ ?_ (fun p hp => ?_) (fun i hi => ?_)
      · rw [s1_off (by omega), s1_off (by omega)]; exact a1
      · rw [s1_off (by omega), s1_off (by omega)]; exact a2
      · rw [s1_off (by omega), s1_off (by omega)]; exact a3
      · rw [s1_off (by omega), s1_off (by omega)]; exact a4 p hp
      · by_cases e : i = k
        · subst e
          exact ⟨by rw [s1_off (by omega), s1_on], by rw [s1_on]⟩
        · exact ⟨by rw [s1_off (by omega), s1_off (by omega)]; exact (a5 i (by omega)).1, by rw [s1_off (by omega), s1_off (by omega)]; exact (a5 i (by omega)).2⟩
theorem rest_d {d : Nat} {g : GA} {σ0 : Sg} (hq : q < 2) (hm : g.2.2.2.2 ≤ 16) (hG : hG q g.1 g.2.1 g.2.2.1 g.2.2.2.1 g.2.2.2.2 σ0) : ∀ (n k : Nat) (σ : Sg), k ≤ 4 → rF σ0 σ → σ.1 97 45 = 1 → σ.1 97 47 = g.2.1 → σ.1 97 48 = nI g.2.2.2.2 → (∀ p, p < k → σ.1 125 p = g.1 p) → Pl PRG n d 322 47 [(0, .ref 97), (1, .int (nI q)), (2, .int (nI k))] [] σ (fun v s' => v = some (.int 1) ∧ rGo (some g) s' ∧ rF σ0 s') := by
  intro n
  induction n using Nat.strongRecOn with
  | _ n ih =>
    intro k σ hk hf a1 a2 a3 a4
    refine Pl.pos (fun n1 h1 => p_322_47 σ (nI q) (nI k) ?_)
    refine ⟨fun c => ?_, fun c _ _ => ?_⟩
    · have := (nI_leI (a := 4) (b := k) (by omega) (by omega)).mp c
      have e : k = 4 := by omega
      subst e
      exact rest_l hq hm hG n1 0 σ (Nat.zero_le _) hf a1 a2 a3 a4 (fun i hi => absurd hi (Nat.not_lt_zero _))
    · have hlt := nle_of (a := 4) (b := k) (by omega) (by omega) c
      rw [m4 (by omega) (by omega), nI_clamp (by omega), nI_clamp (by omega), nI_1, hf.1 153 (by decide) (by decide), hG.2.2.2.1 k hlt]
      refine ih n1 (by omega) (k + 1) _ (by omega) (hf.put rfl (by omega)) ?_ ?_ ?_ (fun p hp => ?_)
      · rw [s1_off (by omega)]; exact a1
      · rw [s1_off (by omega)]; exact a2
      · rw [s1_off (by omega)]; exact a3
      · by_cases e : p = k
        · subst e; rw [s1_on]
        · rw [s1_off (by omega)]; exact a4 p (by omega)
theorem u_rest (h : RCx PRG n 322 [.ref 97, .int x] σ (some (.int w)) σ1) (hv : V7 A) (hR : R7 A σ) : w = (fRest A x).1 ∧ R7 (fRest A x).2 σ1 ∧ cS σ σ1 := by
  obtain ⟨v, e, h1, h2⟩ := h.by (Q := fun v s' => ∃ w, v = some (.int w) ∧ w = (fRest A x).1 ∧ R7 (fRest A x).2 s' ∧ cS σ s') (fun n d => p_322_0 σ x (fun w2 σ2 h2 _ => by
    obtain ⟨rfl, k⟩ := m195 h2
    have no : ∀ n2, (fRest A x = (0, A)) → Pl PRG n2 d 322 18 [] [] σ2 (fun v s' => ∃ w, v = some (.int w) ∧ w = (fRest A x).1 ∧ R7 (fRest A x).2 s' ∧ cS σ2 s') := fun n2 he => Pl.pos (fun n3 _ => p_322_18 σ2 ⟨0, rfl, by rw [he], by rw [he]; exact hR, cS.refl σ2⟩)
    refine ⟨fun z => no _ ?_, fun z _ => ?_⟩
    · rcases k with ⟨e, -⟩ | ⟨-, k⟩
      · rw [e] at z; exact absurd z (by decide)
      · obtain ⟨n0, n1⟩ := n01 k
        unfold fRest
        rw [if_neg n0, if_neg n1]
    · rcases k with ⟨-, k⟩ | ⟨e, -⟩
      · have go : ∀ q (o : Option GA), q < 2 → x = nI q → rH q o σ2 → (∀ g, o = some g → g.2.2.2.2 ≤ 16) → (o = none → fRest A x = (0, A)) → (∀ g, o = some g → fRest A x = (1, upG A (some g))) → ((σ2.1 152 x.toNatClampNeg = 0 → Pl PRG n d 322 18 [] [] σ2 (fun v s' => ∃ w, v = some (.int w) ∧ w = (fRest A x).1 ∧ R7 (fRest A x).2 s' ∧ cS σ2 s')) ∧ (¬ σ2.1 152 x.toNatClampNeg = 0 → inR x 2 = true → inR x 2 = true → Pl PRG n d 322 47 [(0, .ref 97), (1, .int x), (2, .int (0 : Int32))] [] (s1 (s1 (s1 σ2 97 45 (1 : Int32)) 97 47 (σ2.1 154 x.toNatClampNeg)) 97 48 (σ2.1 155 x.toNatClampNeg)) (fun v s' => ∃ w, v = some (.int w) ∧ w = (fRest A x).1 ∧ R7 (fRest A x).2 s' ∧ cS σ2 s'))) := fun q o hq ex ho hm f0 f1 => by
          rw [ex, nI_clamp (by omega), ← ex]
          cases o with
          | none => exact ⟨fun _ => no _ (f0 rfl), fun z => absurd ho z⟩
          | some g =>
            have hH : hG q g.1 g.2.1 g.2.2.1 g.2.2.2.1 g.2.2.2.2 σ2 := ho
            refine ⟨fun z => by rw [hH.1] at z; exact absurd z (by decide), fun _ _ _ => ?_⟩
            have e := f1 g rfl
            rw [hH.2.1, hH.2.2.1, e, ex]
            refine Pl.mono (rest_d hq (hm g rfl) hH n 0 _ (by decide) ((((rF.refl σ2).put rfl (by omega)).put rfl (by omega)).put rfl (by omega)) ?_ ?_ ?_ (fun p hp => absurd hp (Nat.not_lt_zero _))) (fun v s' hq' => ?_)
            · rw [s1_off (by omega), s1_off (by omega), s1_on]
            · rw [s1_off (by omega), s1_on]
            · rw [s1_on]
            · rw [hq'.1]; exact ⟨1, rfl, rfl, hR.up hq'.2.2 hq'.2.1, hq'.2.2.cS⟩
        rcases in_01 k with ex | ex
        · exact go 0 A.2.2.1 (by decide) ex hR.2.2.1 (le16' hv.1 hv.2.2.1) (fun ho => by unfold fRest; rw [if_pos ex, ho]) (fun g ho => by unfold fRest; rw [if_pos ex, ho])
        · exact go 1 A.2.2.2.1 (by decide) ex hR.2.2.2.1 (le16' hv.1 hv.2.2.2.1) (fun ho => by unfold fRest; rw [if_neg (by rw [ex]; decide), if_pos ex, ho]) (fun g ho => by unfold fRest; rw [if_neg (by rw [ex]; decide), if_pos ex, ho])
      · exact absurd e z))
  cases e
  exact ⟨h1, h2⟩
theorem one152 {q : Nat} {o : Option GA} (h : rH q o σ) : σ.1 152 q = one o := by
  cases o with
  | none => exact h
  | some g => exact h.1
theorem sxk {a b : Nat} (ha : a < 2) (hb : b < 100) : (((6 : Int32) * nI a) + (nI b + 10)) - 10 = nI (6 * a + b) := by
  rw [show (6 : Int32) = nI 6 by decide, nI_mulI (by omega) (by omega) (by omega), show (10 : Int32) = nI 10 by decide, nI_add, nI_add, nI_subI (by omega)]
  congr 1
theorem u_count (h : RCx PRG n 323 [.ref 97, .int x] σ (some (.int w)) σ1) (hv : V7 A) (hR : R7 A σ) : σ1 = σ ∧ w = fCount A (σ.1 97 2) x := by
  obtain ⟨a, b⟩ := h.by (Q := fun v s' => s' = σ ∧ v = some (.int (fCount A (σ.1 97 2) x))) (fun n d => p_323_0 σ x (by
    obtain ⟨⟨lv, hl, hc, hk⟩, r2, r3, r4, r5⟩ := hR
    have hnc := hv.1.2
    have hlv := hl.1
    refine ⟨fun q w2 σ2 h2 _ => ?_, fun q _ => ?_, fun q _ => ?_, fun q w4 σ4 h4 => ?_, fun q w4 σ4 h4 => ?_, fun q _ => ?_, fun q => ?_, fun q => ?_, fun q => ?_, fun q => ?_⟩
    · have e : fCount A (σ.1 97 2) x = if 0 ≤ x - 10 ∧ x - 10 < nI A.1.2.2.2.1 ∧ 10 ≤ x then (10 : Int32) * A.1.2.2.2.2.1 (x - 10).toNatClampNeg + A.1.2.2.2.2.2 (x - 10).toNatClampNeg else -1 := by
        have ne : ∀ k : Int32, 0 ≤ k.toInt → k.toInt ≤ 8 → ¬ x = k := fun k h0 h5 e => by rw [e] at q; omega
        unfold fCount
        rw [if_neg (ne 0 (by decide) (by decide)), if_neg (ne 1 (by decide) (by decide)), if_neg (ne 2 (by decide) (by decide)), if_neg (ne 3 (by decide) (by decide)), if_neg (ne 4 (by decide) (by decide)), if_neg (ne 5 (by decide) (by decide)), if_neg (ne 6 (by decide) (by decide)), if_neg (ne 7 (by decide) (by decide)), if_neg (ne 8 (by decide) (by decide))]
      rw [e]
      have k : σ2 = σ ∧ ((w2 = 1 ∧ 0 ≤ x - 10 ∧ x - 10 < nI A.1.2.2.2.1) ∨ (w2 = 0 ∧ ¬ (0 ≤ x - 10 ∧ x - 10 < nI A.1.2.2.2.1))) := by
        obtain ⟨a, b⟩ := h2.by (Q := fun v s' => s' = σ ∧ ((v = some (.int 1) ∧ 0 ≤ x - 10 ∧ x - 10 < nI A.1.2.2.2.1) ∨ (v = some (.int 0) ∧ ¬ (0 ≤ x - 10 ∧ x - 10 < nI A.1.2.2.2.1)))) (fun n d => p_313_0 σ (x - 10) (fun _ w4 σ4 h4 _ _ => by
          rw [hl.2.1, nI_clamp (by omega), hc] at h4
          obtain ⟨rfl, k⟩ := m195 h4
          rcases k with ⟨rfl, k⟩ | ⟨rfl, k⟩
          · exact ⟨rfl, Or.inl ⟨rfl, (in_N (by omega)).mpr k⟩⟩
          · exact ⟨rfl, Or.inr ⟨rfl, fun h => by
              have := (in_N (by omega)).mp h
              rcases k with k | k
              · exact this.1 k
              · exact this.2 k⟩⟩))
        refine ⟨a, ?_⟩
        rcases b with ⟨b, c⟩ | ⟨b, c⟩
        · cases b; exact Or.inl ⟨rfl, c⟩
        · cases b; exact Or.inr ⟨rfl, c⟩
      obtain ⟨rfl, k⟩ := k
      refine ⟨fun z => ?_, fun z _ _ => ?_⟩
      · rcases k with ⟨e, -⟩ | ⟨-, k⟩
        · rw [e] at z; exact absurd z (by decide)
        · rw [if_neg (fun h => k ⟨h.1, h.2.1⟩)]; exact ⟨rfl, rfl⟩
      · rcases k with ⟨-, k⟩ | ⟨e, -⟩
        · obtain ⟨j, hj, ej⟩ := nn_of (by omega) k.1 k.2
          have ex : x = nI j + 10 := by rw [← ej]; exact (Int32.sub_add_cancel x 10).symm
          have h10 : (10 : Int32) ≤ x := by
            rw [ex, show (10 : Int32) = nI 10 by decide, nI_add]
            exact nI_le (by omega) (by omega)
          rw [if_pos ⟨k.1, k.2, h10⟩, ej, nI_clamp (by omega), hl.2.1]
          have e6 : (((6 : Int32) * nI lv) + x) - 10 = nI (6 * lv + j) := by rw [ex]; exact sxk hlv (by omega)
          rw [e6, nI_clamp (by omega), (hk j hj).1, (hk j hj).2]
          exact ⟨rfl, rfl⟩
        · exact absurd e z
    · obtain rfl := i32_of q (by decide) (by decide)
      rw [hl.2.1, nI_clamp (by omega), hl.2.2.1]; exact ⟨rfl, rfl⟩
    · obtain rfl := i32_of q (by decide) (by decide)
      rw [hl.2.1, nI_clamp (by omega), hl.2.2.2.1]; exact ⟨rfl, rfl⟩
    · obtain rfl := i32_of q (by decide) (by decide)
      obtain ⟨rfl, rfl⟩ := m211 h4 hv.1.1 hl
      exact ⟨rfl, rfl⟩
    · obtain rfl := i32_of q (by decide) (by decide)
      obtain ⟨rfl, rfl⟩ := m214 h4 hl
      show (A.1.2.2.1 = -1 → _ ∧ some (Value.int (-2)) = some (Value.int (if 0 ≤ A.1.2.2.1 then A.1.2.2.1 else -2))) ∧ (¬ A.1.2.2.1 = -1 → ∀ w8 σ7, _ → _ ∧ some (Value.int w8) = some (Value.int (if 0 ≤ A.1.2.2.1 then A.1.2.2.1 else -2)))
      refine ⟨fun c => by rw [c]; exact ⟨rfl, rfl⟩, fun c w8 σ8 h8 => ?_⟩
      obtain ⟨rfl, rfl⟩ := m214 h8 hl
      rcases hv.1.1.2.2.2.2.2.2 with e | ⟨u, hu, e⟩
      · exact absurd e c
      · have h4 := hv.1.1.2.1
        rw [e, if_pos (nI_pos' (by omega))]
        exact ⟨rfl, rfl⟩
    · obtain rfl := i32_of q (by decide) (by decide)
      rw [hl.2.1, nI_clamp (by omega), hc]; exact ⟨rfl, rfl⟩
    · obtain rfl := i32_of q (by decide) (by decide)
      show (_ → _ ∧ some (Value.int _) = some (Value.int (match A.2.1 with
        | none => -2
        | some g => nI g.2.2.2.2))) ∧ (_ → _ ∧ some (Value.int _) = some (Value.int (match A.2.1 with
        | none => -2
        | some g => nI g.2.2.2.2)))
      cases hg : A.2.1 with
      | none =>
        rw [hg] at r2
        exact ⟨fun _ => ⟨rfl, rfl⟩, fun z => absurd r2.1 z⟩
      | some g =>
        rw [hg] at r2
        have hG : rG g.1 g.2.1 g.2.2.1 g.2.2.2.1 g.2.2.2.2 σ := r2
        rw [hG.1, hG.2.2.1]
        exact ⟨fun z => absurd z (by decide), fun _ => ⟨rfl, rfl⟩⟩
    · obtain rfl := i32_of q (by decide) (by decide)
      rw [r5]; exact ⟨rfl, rfl⟩
    · obtain rfl := i32_of q (by decide) (by decide)
      exact ⟨rfl, rfl⟩
    · obtain rfl := i32_of q (by decide) (by decide)
      rw [one152 r3, one152 r4]
      show (_ → (_ → _ ∧ some (Value.int _) = some (Value.int (one A.2.2.1 + one A.2.2.2.1))) ∧ (_ → _ ∧ some (Value.int _) = some (Value.int (one A.2.2.1 + one A.2.2.2.1)))) ∧ (_ → (_ → _ ∧ some (Value.int _) = some (Value.int (one A.2.2.1 + one A.2.2.2.1))) ∧ (_ → _ ∧ some (Value.int _) = some (Value.int (one A.2.2.1 + one A.2.2.2.1))))
      rcases one_z A.2.2.1 with z1 | z1 <;> rcases one_z A.2.2.2.1 with z2 | z2 <;> rw [z1, z2]
      · exact ⟨fun _ => ⟨fun _ => ⟨rfl, rfl⟩, fun c => absurd rfl c⟩, fun c => absurd rfl c⟩
      · exact ⟨fun _ => ⟨fun c => absurd c (by decide), fun _ => ⟨rfl, rfl⟩⟩, fun c => absurd rfl c⟩
      · exact ⟨fun c => absurd c (by decide), fun _ => ⟨fun _ => ⟨rfl, rfl⟩, fun c => absurd rfl c⟩⟩
      · exact ⟨fun c => absurd c (by decide), fun _ => ⟨fun c => absurd c (by decide), fun _ => ⟨rfl, rfl⟩⟩⟩))
  cases b
  exact ⟨a, rfl⟩
end Ui
