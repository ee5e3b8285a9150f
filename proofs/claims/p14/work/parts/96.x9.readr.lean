/-! the reader of the reference, told by the grammar -/
def EVr (TT : List Tk) (o : Option (Nat × Nat)) (σ : Sg) : Prop := match o with
  | none => σ.1 97 15 = 0
  | some x => σ.1 97 15 = nI x.1 ∧ σ.1 97 16 = nI (plT TT x.2) ∧ ¬ x.1 = 0 ∧ x.1 < 100
def PRo (TT : List Tk) (i : Nat) (o : Option (Nat × Nat)) (dp : Nat) (σ : Sg) : Prop := σ.1 97 11 = nI i ∧ i ≤ 400 ∧ σ.1 97 13 = 0 ∧ EVr TT o σ ∧ σ.1 97 12 = nI dp
def FAr (TT : List Tk) (σ : Sg) : Prop := ∃ i f, stopAt TT i f ∧ ¬ f = 0 ∧ f ≤ 2 ∧ i ≤ 400 ∧ σ.1 97 13 = nI f ∧ σ.1 97 14 = nI (plT TT i)
/-- the fields that the reader changes -/
def mfR (x : Nat) : Prop := x = 11 ∨ x = 12 ∨ x = 13 ∨ x = 14 ∨ x = 15 ∨ x = 16 ∨ x = 30 ∨ x = 37 ∨ x = 41
def FRr (σ σ1 : Sg) : Prop := σ1.2 = σ.2 ∧ ∀ q x, ¬ (q = 97 ∧ mfR x) → ¬ (112 ≤ q ∧ q ≤ 122) → σ1.1 q x = σ.1 q x
theorem FRr.refl (σ : Sg) : FRr σ σ := ⟨rfl, fun _ _ _ _ => rfl⟩
theorem FRr.trans {σ σ1 σ2 : Sg} (h : FRr σ σ1) (h' : FRr σ1 σ2) : FRr σ σ2 := ⟨h'.1.trans h.1, fun q x a b => (h'.2 q x a b).trans (h.2 q x a b)⟩
theorem FRr.put {σ σ1 : Sg} {j : Nat} {x : Int32} (h : FRr σ σ1) (hj : mfR j) : FRr σ (s1 σ1 97 j x) := ⟨h.1, fun q y a b => by rw [s1_off (fun e => a ⟨e.1, (by rw [show y = j from e.2]; exact hj : mfR y)⟩)]; exact h.2 q y a b⟩
theorem FRr.arr {σ σ1 : Sg} {r j : Nat} {x : Int32} (h : FRr σ σ1) (hr : 112 ≤ r ∧ r ≤ 122) : FRr σ (s1 σ1 r j x) := ⟨h.1, fun q y a b => by rw [s1_off (fun e => b (by omega))]; exact h.2 q y a b⟩
theorem RQ.fr {TT : List Tk} {σ σ1 : Sg} (h : RQ TT σ) (hF : FRr σ σ1) : RQ TT σ1 := fun m t hm ht => by
  obtain ⟨h1, h2, h3, h4⟩ := h m t hm ht
  exact ⟨by rw [hF.2 100 m (by omega) (by omega)]; exact h1, by rw [hF.2 101 m (by omega) (by omega)]; exact h2, fun e => by rw [hF.2 102 m (by omega) (by omega)]; exact h3 e, fun e => by rw [hF.1]; exact h4 e⟩
/-- what the reader's state hangs on is as it was -/
def sameR (σ σ1 : Sg) : Prop := ∀ x, 11 ≤ x → x ≤ 16 → σ1.1 97 x = σ.1 97 x
theorem sameR.refl (σ : Sg) : sameR σ σ := fun _ _ _ => rfl
theorem sameR.trans {σ σ1 σ2 : Sg} (h : sameR σ σ1) (h' : sameR σ1 σ2) : sameR σ σ2 := fun x a b => (h' x a b).trans (h x a b)
theorem sameR.put {σ σ1 : Sg} {q j : Nat} {x : Int32} (h : sameR σ σ1) (hj : ¬ (q = 97 ∧ 11 ≤ j ∧ j ≤ 16)) : sameR σ (s1 σ1 q j x) := fun y a b => by
  rw [s1_off (fun e => hj ⟨e.1.symm, by omega, by omega⟩)]
  exact h y a b
theorem EVr.of {TT : List Tk} {o : Option (Nat × Nat)} {σ σ1 : Sg} (h : EVr TT o σ) (h9 : σ1.1 97 15 = σ.1 97 15) (h10 : σ1.1 97 16 = σ.1 97 16) : EVr TT o σ1 := by
  unfold EVr at h ⊢
  cases o with
  | none => rw [h9]; exact h
  | some x => rw [h9, h10]; exact h
theorem PRo.same {TT : List Tk} {i dp : Nat} {o : Option (Nat × Nat)} {σ σ1 : Sg} (h : PRo TT i o dp σ) (hS : sameR σ σ1) : PRo TT i o dp σ1 := by
  obtain ⟨h1, h2, h3, h4, h5⟩ := h
  exact ⟨by rw [hS 11 (by decide) (by decide)]; exact h1, h2, by rw [hS 13 (by decide) (by decide)]; exact h3, h4.of (hS 15 (by decide) (by decide)) (hS 16 (by decide) (by decide)), by rw [hS 12 (by decide) (by decide)]; exact h5⟩
theorem FAr.of {TT : List Tk} {σ σ1 : Sg} (h : FAr TT σ) (h13 : σ1.1 97 13 = σ.1 97 13) (h14 : σ1.1 97 14 = σ.1 97 14) : FAr TT σ1 := by
  obtain ⟨i, f, a1, a2, a3, a4, a5, a6⟩ := h
  exact ⟨i, f, a1, a2, a3, a4, by rw [h13]; exact a5, by rw [h14]; exact a6⟩
theorem FAr.same {TT : List Tk} {σ σ1 : Sg} (h : FAr TT σ) (hS : sameR σ σ1) : FAr TT σ1 := h.of (hS 13 (by decide) (by decide)) (hS 14 (by decide) (by decide))
theorem FAr.pos {TT : List Tk} {σ : Sg} (h : FAr TT σ) : ¬ σ.1 97 13 ≤ 0 ∧ 0 < σ.1 97 13 ∧ ¬ σ.1 97 13 = 0 := by
  obtain ⟨i, f, a1, a2, a3, a4, a5, a6⟩ := h
  rw [a5]
  exact ⟨nI_nle (by omega) (by omega), nI_lt (a := 0) (by omega) (by omega), nI_ne0 (by omega) (by omega)⟩
theorem rk_inj : ∀ a, a < 37 → ∀ b, b < 37 → (rk a = rk b ↔ a = b) := by decide +kernel
theorem rk_lt : ∀ a, a < 37 → rk a < 42 := by decide +kernel
section Rr
variable {TT : List Tk} {n i b dp : Nat} {o : Option (Nat × Nat)} {s : GSt} {σ σ1 : Sg} {w : Int32}
theorem rc189 (hW : WT TT) (h : RCx PRG n 189 [.ref 97, .int (nI (rk b))] σ (some (.int w)) σ1) (hR : RQ TT σ) (hP : PRo TT i o dp σ) (hs : pr TT i = .inr s) (hb : b < 37) : σ1 = σ ∧ ((w = 0 ∧ ¬ kdT TT i = b) ∨ (w = 1 ∧ kdT TT i = b)) := by
  obtain ⟨p1, p2, p3, p4, p5⟩ := hP
  have hat := RQ_at hW hR hs p2
  have hkd := (kd_le hW hs).1
  have kI : nI (rk (kdT TT i)) = nI (rk b) ↔ kdT TT i = b := by
    have l1 := rk_lt (kdT TT i) (by omega)
    have l2 := rk_lt b hb
    rw [nI_eq (by omega) (by omega)]
    exact rk_inj _ (by omega) _ hb
  obtain ⟨a, c⟩ := h.by (Q := fun v σ' => σ' = σ ∧ ((v = some (.int 0) ∧ ¬ kdT TT i = b) ∨ (v = some (.int 1) ∧ kdT TT i = b))) (fun m d => p_189_0 σ (nI (rk b)) ⟨fun _ _ => by
    rw [p1, nI_clamp (by omega), hat.1]
    exact ⟨fun c => ⟨rfl, Or.inr ⟨rfl, kI.mp c⟩⟩, fun c => ⟨rfl, Or.inl ⟨rfl, fun e => c (kI.mpr e)⟩⟩⟩, fun c => absurd p3 c⟩)
  refine ⟨a, ?_⟩
  rcases c with ⟨e, c⟩ | ⟨e, c⟩
  · cases e; exact Or.inl ⟨rfl, c⟩
  · cases e; exact Or.inr ⟨rfl, c⟩
theorem rd189 {x : Int32} (h : RCx PRG n 189 [.ref 97, .int x] σ (some (.int w)) σ1) (hF : FAr TT σ) : σ1 = σ ∧ w = 0 := by
  obtain ⟨a, c⟩ := h.by (Q := fun v σ' => σ' = σ ∧ v = some (.int 0)) (fun m d => p_189_0 σ x ⟨fun c => absurd c hF.pos.2.2, fun _ => ⟨rfl, rfl⟩⟩)
  cases c
  exact ⟨a, rfl⟩
theorem rd190 {x : Int32} (h : RCx PRG n 190 [.ref 97, .int x] σ none σ1) (hF : FAr TT σ) : σ1 = σ :=
  h.by (Q := fun _ σ' => σ' = σ) (fun m d => p_190_0 σ x ⟨fun c => absurd c hF.pos.1, fun _ => rfl⟩)
theorem rc190 {f : Nat} (hW : WT TT) (h : RCx PRG n 190 [.ref 97, .int (nI f)] σ none σ1) (hR : RQ TT σ) (hP : PRo TT i o dp σ) (hst : stopAt TT i f) (hf : ¬ f = 0 ∧ f ≤ 2) : FRr σ σ1 ∧ FAr TT σ1 := by
  obtain ⟨p1, p2, p3, p4, p5⟩ := hP
  obtain ⟨s, hs, hs2⟩ := hst
  have hat := RQ_at hW hR hs p2
  refine h.by (Q := fun _ σ' => FRr σ σ' ∧ FAr TT σ') (fun m d => p_190_0 σ (nI f) ⟨fun _ _ => ?_, fun c => ?_⟩)
  · rw [p1, nI_clamp (by omega), hat.2.1]
    exact ⟨((FRr.refl σ).put (by unfold mfR; omega)).put (by unfold mfR; omega), i, f, ⟨s, hs, hs2⟩, hf.1, hf.2, p2, by rw [s1_off (by omega), s1_on], s1_on⟩
  · rw [p3] at c; exact absurd (by decide) c
theorem rd192 (h : RCx PRG n 192 [.ref 97] σ none σ1) (hF : FAr TT σ) : FRr σ σ1 ∧ FAr TT σ1 :=
  h.by (Q := fun _ σ' => FRr σ σ' ∧ FAr TT σ') (fun m d => p_192_0 σ ⟨fun _ σ2 h2 => by rw [rd190 h2 hF]; exact ⟨FRr.refl σ, hF⟩, fun _ => ⟨(FRr.refl σ).put (by unfold mfR; omega), hF.of (by rw [s1_off (by omega)]) (by rw [s1_off (by omega)])⟩⟩)
theorem rc192 {q : Nat × Nat} (hW : WT TT) (h : RCx PRG n 192 [.ref 97] σ none σ1) (hR : RQ TT σ) (hP : PRo TT i o dp σ) (hs : pr TT i = .inr s) (hq : gs s.1.1 s.1.2 s.2.2.2.1.length (kdT TT i) = .inr q) : FRr σ σ1 ∧ ((i < 400 ∧ PRo TT (i + 1) o dp σ1) ∨ FAr TT σ1) := by
  obtain ⟨p1, p2, p3, p4, p5⟩ := hP
  refine h.by (Q := fun _ σ' => FRr σ σ' ∧ ((i < 400 ∧ PRo TT (i + 1) o dp σ') ∨ FAr TT σ')) (fun m d => p_192_0 σ ⟨fun c σ2 h2 => ?_, fun c => ?_⟩)
  · rw [p1] at c
    have e : i = 400 := (nI_eq (b := 400) (by omega) (by decide)).mp c
    subst e
    obtain ⟨a, b⟩ := rc190 (f := 2) hW h2 hR ⟨p1, p2, p3, p4, p5⟩ (stop_2 hs hq) (by decide)
    exact ⟨a, Or.inr b⟩
  · rw [p1] at c
    have e : ¬ i = 400 := fun e => c ((nI_eq (b := 400) (by omega) (by decide)).mpr e)
    refine ⟨(FRr.refl σ).put (by unfold mfR; omega), Or.inl ⟨by omega, by rw [s1_on, p1, nI_1], by omega, by rw [s1_off (by omega)]; exact p3, p4.of (by rw [s1_off (by omega)]) (by rw [s1_off (by omega)]), by rw [s1_off (by omega)]; exact p5⟩⟩
theorem rd191 {x y : Int32} (h : RCx PRG n 191 [.ref 97, .int x, .int y] σ none σ1) (hF : FAr TT σ) : σ1 = σ :=
  h.by (Q := fun _ σ' => σ' = σ) (fun m d => p_191_0 σ x y (fun _ => ⟨fun _ => Pl.pos (fun m2 _ => p_191_45 σ rfl), fun c => absurd hF.pos.2.1 c⟩))
theorem rc191 {f t : Nat} (hW : WT TT) (h : RCx PRG n 191 [.ref 97, .int (nI f), .int (nI t)] σ none σ1) (hR : RQ TT σ) (hE : EVr TT o σ) (h13 : σ.1 97 13 = 0) (hs : pr TT t = .inr s) (ht : t ≤ 400) (hf : ¬ f = 0 ∧ f < 100) (hlt : ∀ x, o = some x → x.2 < t ∨ (x.2 = t ∧ x.1 ≤ f)) : FRr σ σ1 ∧ EVr TT (orE o (some (f, t))) σ1 ∧ (∀ x, ¬ x = 15 → ¬ x = 16 → σ1.1 97 x = σ.1 97 x) := by
  have hat := RQ_at hW hR hs ht
  have hkt := (kd_le hW hs).2
  have htl := (tok_in hW hs).1
  have new : o = none → ∀ m d, Pl PRG m d 191 46 [(0, .ref 97), (1, .int (nI f)), (3, .int (nI (plT TT t)))] [] σ (fun _ σ' => FRr σ σ' ∧ EVr TT (orE o (some (f, t))) σ' ∧ (∀ x, ¬ x = 15 → ¬ x = 16 → σ'.1 97 x = σ.1 97 x)) := fun e m d => Pl.pos (fun m2 _ => p_191_46 σ (nI f) (nI (plT TT t)) (by
    subst e
    exact ⟨((FRr.refl σ).put (by unfold mfR; omega)).put (by unfold mfR; omega), ⟨by rw [s1_off (by omega), s1_on], s1_on, hf.1, hf.2⟩, fun x a b => by rw [s1_off (fun e => b e.2), s1_off (fun e => a e.2)]⟩))
  have old : ∀ x, o = some x → ∀ m d, Pl PRG m d 191 45 [] [] σ (fun _ σ' => FRr σ σ' ∧ EVr TT (orE o (some (f, t))) σ' ∧ (∀ x, ¬ x = 15 → ¬ x = 16 → σ'.1 97 x = σ.1 97 x)) := fun x e m d => Pl.pos (fun m2 _ => p_191_45 σ (by
    subst e
    exact ⟨FRr.refl σ, hE, fun _ _ _ => rfl⟩))
  refine h.by (Q := fun _ σ' => FRr σ σ' ∧ EVr TT (orE o (some (f, t))) σ' ∧ (∀ x, ¬ x = 15 → ¬ x = 16 → σ'.1 97 x = σ.1 97 x)) (fun m d => p_191_0 σ (nI f) (nI t) (fun _ => ?_))
  rw [nI_clamp (by omega), hat.2.1]
  refine ⟨fun c => by rw [h13] at c; exact absurd c (by decide), fun _ => ⟨fun c => ?_, fun c => ?_⟩⟩
  · refine new ?_ m d
    cases o with
    | none => rfl
    | some x =>
      obtain ⟨e1, e2, e3, e4⟩ := hE
      rw [e1] at c
      exact absurd c (nI_ne0 (by omega) (by omega))
  · cases o with
    | none => exact absurd hE c
    | some x =>
      obtain ⟨e1, e2, e3, e4⟩ := hE
      have hx := hlt x rfl
      have hp : plT TT x.2 ≤ plT TT t := by
        rcases hx with g | ⟨g, -⟩
        · exact Nat.le_of_lt (hW.2.2.1 x.2 t g htl)
        · rw [g]; exact Nat.le_refl _
      refine ⟨fun _ => old x rfl m d, fun c2 => ?_⟩
      rw [e1, e2] at *
      refine ⟨fun c3 => ⟨fun c4 => ?_, fun _ => old x rfl m d⟩, fun c3 => ?_⟩
      · rcases hx with g | ⟨g, g2⟩
        · have := hW.2.2.1 x.2 t g htl
          exact absurd (nI_lt this (by omega)) c2
        · exact absurd c4 (nI_nlt g2 (by omega))
      · rcases hx with g | ⟨g, g2⟩
        · have := hW.2.2.1 x.2 t g htl
          exact absurd (nI_lt this (by omega)) c2
        · rw [g] at c3; exact absurd rfl c3
theorem rd193 {x : Int32} (h : RCx PRG n 193 [.ref 97, .int x] σ none σ1) (hF : FAr TT σ) : FRr σ σ1 ∧ FAr TT σ1 :=
  h.by (Q := fun _ σ' => FRr σ σ' ∧ FAr TT σ') (fun m d => p_193_0 σ x (fun w2 σ2 h2 _ => by
    obtain ⟨rfl, rfl⟩ := rd189 h2 hF
    exact ⟨fun _ σ3 h3 => by rw [rd190 h3 hF]; exact ⟨FRr.refl _, hF⟩, fun c => absurd rfl c⟩))
theorem rc193 {q : Nat × Nat} (hW : WT TT) (h : RCx PRG n 193 [.ref 97, .int (nI (rk b))] σ none σ1) (hR : RQ TT σ) (hP : PRo TT i o dp σ) (hs : pr TT i = .inr s) (hb : b < 37) (h1 : kdT TT i = b → gs s.1.1 s.1.2 s.2.2.2.1.length (kdT TT i) = .inr q) (h2 : ¬ kdT TT i = b → gs s.1.1 s.1.2 s.2.2.2.1.length (kdT TT i) = .inl 1) : FRr σ σ1 ∧ ((kdT TT i = b ∧ i < 400 ∧ PRo TT (i + 1) o dp σ1) ∨ FAr TT σ1) := by
  refine h.by (Q := fun _ σ' => FRr σ σ' ∧ ((kdT TT i = b ∧ i < 400 ∧ PRo TT (i + 1) o dp σ') ∨ FAr TT σ')) (fun m d => p_193_0 σ (nI (rk b)) (fun w2 σ2 h2' _ => ?_))
  obtain ⟨rfl, hw⟩ := rc189 hW h2' hR hP hs hb
  refine ⟨fun z σ3 h3 => ?_, fun z σ3 h3 => ?_⟩
  · rcases hw with ⟨-, hn⟩ | ⟨e, -⟩
    · obtain ⟨a, c⟩ := rc190 (f := 1) hW h3 hR hP (stop_f hs (h2 hn)) (by decide)
      exact ⟨a, Or.inr c⟩
    · rw [e] at z; exact absurd z (by decide)
  · rcases hw with ⟨e, -⟩ | ⟨-, he⟩
    · exact absurd e z
    · obtain ⟨a, c⟩ := rc192 hW h3 hR hP hs (h1 he)
      refine ⟨a, ?_⟩
      rcases c with c | c
      · exact Or.inl ⟨he, c⟩
      · exact Or.inr c
theorem rd194 {x y : Int32} (h : RCx PRG n 194 [.ref 97, .int x, .int y] σ (some (.int w)) σ1) (hF : FAr TT σ) : σ1 = σ :=
  h.by (Q := fun _ σ' => σ' = σ) (fun m d => p_194_0 σ x y ⟨fun _ => Pl.pos (fun m2 _ => p_194_15 σ x (fun σ2 h2 => rd190 h2 hF)), fun c => absurd hF.pos.2.1 c⟩)
theorem rc194 {lo hi : Int32} {q : Nat × Nat} (hW : WT TT) (h : RCx PRG n 194 [.ref 97, .int lo, .int hi] σ (some (.int w)) σ1) (hR : RQ TT σ) (hP : PRo TT i o dp σ) (hs : pr TT i = .inr s) (h1 : kdT TT i = 3 → gs s.1.1 s.1.2 s.2.2.2.1.length (kdT TT i) = .inr q) (h2 : ¬ kdT TT i = 3 → gs s.1.1 s.1.2 s.2.2.2.1.length (kdT TT i) = .inl 1) (hlt : ∀ x, o = some x → x.2 < i) : FRr σ σ1 ∧ ((w = vlT TT i ∧ kdT TT i = 3 ∧ i < 400 ∧ PRo TT (i + 1) (orE o (bif off (vlT TT i) lo hi then some (5, i) else none)) dp σ1) ∨ FAr TT σ1) := by
  have p1 := hP.1
  have p2 := hP.2.1
  have p3 := hP.2.2.1
  have hat := RQ_at hW hR hs p2
  obtain ⟨a, c⟩ := h.by (Q := fun v σ' => FRr σ σ' ∧ ((v = some (.int (vlT TT i)) ∧ kdT TT i = 3 ∧ i < 400 ∧ PRo TT (i + 1) (orE o (bif off (vlT TT i) lo hi then some (5, i) else none)) dp σ') ∨ FAr TT σ')) (fun m d => by
    have no : ¬ kdT TT i = 3 → Pl PRG m d 194 15 [(0, .ref 97), (1, .int lo)] [] σ (fun v σ' => FRr σ σ' ∧ ((v = some (.int (vlT TT i)) ∧ kdT TT i = 3 ∧ i < 400 ∧ PRo TT (i + 1) (orE o (bif off (vlT TT i) lo hi then some (5, i) else none)) dp σ') ∨ FAr TT σ')) := fun hn => Pl.pos (fun m2 _ => p_194_15 σ lo (fun σ2 h3 => by
      obtain ⟨a, c⟩ := rc190 (f := 1) hW h3 hR hP (stop_f hs (h2 hn)) (by decide)
      exact ⟨a, Or.inr c⟩))
    refine p_194_0 σ lo hi ⟨fun c => by rw [p3] at c; exact absurd c (by decide), fun _ w2 σ2 h3 _ => ?_⟩
    obtain ⟨rfl, hw⟩ := rc189 (b := 3) hW h3 hR hP hs (by decide)
    refine ⟨fun z => ?_, fun z _ => ?_⟩
    · rcases hw with ⟨-, hn⟩ | ⟨e, -⟩
      · exact no hn
      · rw [e] at z; exact absurd z (by decide)
    · rcases hw with ⟨e, -⟩ | ⟨-, he⟩
      · exact absurd e z
      · rw [p1, nI_clamp (by omega), hat.2.2.1 he]
        have end_ : ∀ (m2 : Nat) (σ3 : Sg), FRr σ2 σ3 → PRo TT i (orE o (bif off (vlT TT i) lo hi then some (5, i) else none)) dp σ3 → Pl PRG m2 d 194 51 [(0, .ref 97), (3, .int (vlT TT i))] [] σ3 (fun v σ' => FRr σ2 σ' ∧ ((v = some (.int (vlT TT i)) ∧ kdT TT i = 3 ∧ i < 400 ∧ PRo TT (i + 1) (orE o (bif off (vlT TT i) lo hi then some (5, i) else none)) dp σ') ∨ FAr TT σ')) := fun m2 σ3 g1 g2 => Pl.pos (fun m3 _ => p_194_51 σ3 (vlT TT i) (fun σ4 h4 => by
          obtain ⟨a, c⟩ := rc192 hW h4 (hR.fr g1) g2 hs (h1 he)
          refine ⟨g1.trans a, ?_⟩
          rcases c with ⟨c1, c2⟩ | c
          · exact Or.inl ⟨rfl, he, c1, c2⟩
          · exact Or.inr c))
        have bad : off (vlT TT i) lo hi = true → Pl PRG m d 194 42 [(0, .ref 97), (3, .int (vlT TT i))] [] σ2 (fun v σ' => FRr σ2 σ' ∧ ((v = some (.int (vlT TT i)) ∧ kdT TT i = 3 ∧ i < 400 ∧ PRo TT (i + 1) (orE o (bif off (vlT TT i) lo hi then some (5, i) else none)) dp σ') ∨ FAr TT σ')) := fun hb => Pl.pos (fun m2 _ => p_194_42 σ2 (vlT TT i) (fun σ3 h4 => by
          rw [p1] at h4
          obtain ⟨k1, k2, k3⟩ := rc191 (f := 5) hW h4 hR hP.2.2.2.1 p3 hs p2 (by decide) (fun x hx => Or.inl (hlt x hx))
          refine end_ m2 σ3 k1 ?_
          rw [hb]
          exact ⟨by rw [k3 11 (by decide) (by decide)]; exact p1, p2, by rw [k3 13 (by decide) (by decide)]; exact p3, k2, by rw [k3 12 (by decide) (by decide)]; exact hP.2.2.2.2⟩))
        refine ⟨fun c => bad ?_, fun c => ⟨fun c2 => ?_, fun c2 => bad ?_⟩⟩
        · unfold off; rw [decide_eq_true c]; rfl
        · have hof : off (vlT TT i) lo hi = false := by
            unfold off
            rw [decide_eq_false c, decide_eq_false (fun e => by
              rw [Int32.lt_iff_toInt_lt] at e
              rw [Int32.le_iff_toInt_le] at c2
              omega)]
            rfl
          refine end_ m σ2 (FRr.refl σ2) ?_
          rw [hof]
          show PRo TT i (orE o none) dp σ2
          rw [orE_none]
          exact hP
        · unfold off
          rw [decide_eq_true (p := hi < vlT TT i) (by
            rw [Int32.lt_iff_toInt_lt]
            rw [Int32.le_iff_toInt_le] at c2
            omega), Bool.or_true])
  refine ⟨a, ?_⟩
  rcases c with ⟨e, c⟩ | c
  · cases e; exact Or.inl ⟨rfl, c⟩
  · exact Or.inr c
theorem rc196 {x y : Int32} (h : RCx PRG n 196 [.ref 97, .int x, .int y] σ none σ1) : FRr σ σ1 ∧ sameR σ σ1 :=
  h.by (Q := fun _ σ' => FRr σ σ' ∧ sameR σ σ') (fun m d => p_196_0 σ x y (fun _ _ => ⟨(((FRr.refl σ).arr (by omega)).arr (by omega)).put (by unfold mfR; omega), (((sameR.refl σ).put (by omega)).put (by omega)).put (by omega)⟩))
theorem rc198 {x : Int32} (h : RCx PRG n 198 [.ref 97, .int x] σ none σ1) : FRr σ σ1 ∧ sameR σ σ1 := by
  refine h.by (Q := fun _ σ' => FRr σ σ' ∧ sameR σ σ') (fun m d => ?_)
  have loop : ∀ (m : Nat) (σ2 : Sg), FRr σ σ2 → sameR σ σ2 → Pl PRG m d 198 0 [(0, .ref 97), (1, .int x)] [] σ2 (fun _ σ' => FRr σ σ' ∧ sameR σ σ') := by
    intro m
    induction m using Nat.strongRecOn with
    | _ m ih =>
      intro σ2 g1 g2
      have out : ∀ m2, Pl PRG m2 d 198 41 [] [] σ2 (fun _ σ' => FRr σ σ' ∧ sameR σ σ') := fun m2 => Pl.pos (fun m3 _ => p_198_41 σ2 ⟨g1, g2⟩)
      have on : ∀ (m2 : Nat), m2 < m → ∀ y, Pl PRG m2 d 198 42 [(0, .ref 97), (1, .int x), (2, .int y)] [] σ2 (fun _ σ' => FRr σ σ' ∧ sameR σ σ') := fun m2 hm2 y => Pl.pos (fun m3 hm3 => p_198_42 σ2 x y (by
        have go : ∀ (k v : Int32) (σ4 : Sg), RCx PRG m3 196 [.ref 97, .int k, .int v] (s1 σ2 97 41 ((σ2.1 97 41) - (1 : Int32))) none σ4 → Pl PRG m3 d 198 0 [(0, .ref 97), (1, .int x)] [] σ4 (fun _ σ' => FRr σ σ' ∧ sameR σ σ') := fun k v σ4 h4 => by
          obtain ⟨a, c⟩ := rc196 h4
          exact ih m3 (by omega) σ4 ((g1.put (by unfold mfR; omega)).trans a) ((g2.put (by omega)).trans c)
        exact ⟨fun _ σ4 h4 => go _ _ σ4 h4, fun _ => ⟨fun _ σ4 h4 => go _ _ σ4 h4, fun _ => ⟨fun _ σ4 h4 => go _ _ σ4 h4, fun _ σ4 h4 => go _ _ σ4 h4⟩⟩⟩))
      exact Pl.pos (fun m1 hm1 => p_198_0 σ2 x ⟨fun _ => ⟨g1, g2⟩, fun _ _ => ⟨fun _ => out m1, fun _ => ⟨fun _ => on m1 (by omega) _, fun _ => ⟨fun _ => out m1, fun _ => ⟨fun _ => out m1, fun _ => on m1 (by omega) _⟩⟩⟩⟩⟩)
  exact Pl.weak (loop (m + 1 + 1) σ (FRr.refl σ) (sameR.refl σ))
end Rr
/-! expressions -/
def exR (TT : List Tk) (i a dp : Nat) (D : DT) (X : Nat → Prop) (σ σ1 : Sg) : Prop := FRr σ σ1 ∧ ((∃ j, i < j ∧ pr TT j = .inr ((a, dp), D) ∧ PRo TT j (evs TT j) dp σ1 ∧ X j) ∨ FAr TT σ1)
/-- a unit is wanted -/
def wantR (TT : List Tk) (i a u c dp : Nat) (s : GSt) : Prop := MO a u c ∧ dp ≤ 6 ∧ pr TT i = .inr s ∧ gs s.1.1 s.1.2 s.2.2.2.1.length (kdT TT i) = gu a u c dp (kdT TT i) ∧ (¬ s.1.1 = 6 ∧ ¬ s.1.1 = 3 ∧ ¬ s.1.1 = 5) ∧ ¬ s.1.1 = 25 ∧ evT TT s i = 0
theorem rd197 {TT : List Tk} {n : Nat} {σ σ1 : Sg} (h : RCx PRG n 197 [.ref 97] σ none σ1) (hF : FAr TT σ) : σ1 = σ := by
  refine h.by (Q := fun _ σ' => σ' = σ) (fun m d => p_197_0 σ (fun w2 σ2 h2 _ => ?_))
  obtain ⟨rfl, rfl⟩ := rd189 h2 hF
  refine ⟨fun _ => ⟨fun c => absurd c hF.pos.2.2, fun _ => Pl.pos (fun m2 _ => p_197_88 _ (fun w3 σ3 h3 _ => ?_))⟩, fun c => absurd rfl c⟩
  obtain ⟨rfl, rfl⟩ := rd189 h3 hF
  exact ⟨fun _ σ4 h4 => Pl.pos (fun m3 _ => p_197_134 _ (rd190 h4 hF)), fun c => absurd rfl c⟩
theorem unit_r {TT : List Tk} (hW : WT TT) {n i a u c dp : Nat} {s : GSt} {σ σ1 : Sg} (hw : wantR TT i a u c dp s) (hR : RQ TT σ) (hP : PRo TT i (evs TT i) dp σ) (n13 : ¬ kdT TT i = 13) (h : RCx PRG n 197 [.ref 97] σ none σ1) : exR TT i a dp s.2 (fun _ => True) σ σ1 := by
  obtain ⟨hM, hdp, hs, hU, hm, h25, hev⟩ := hw
  have p1 := hP.1
  have p2 := hP.2.1
  have p3 := hP.2.2.1
  have hat := RQ_at hW hR hs p2
  have hkd := (kd_le hW hs).1
  have evn : evs TT (i + 1) = evs TT i := by rw [evs_step hs, evO_0 hev, orE_none]
  have hup : ∀ (q : Nat × Nat), i < 400 → ¬ kdT TT i = 22 → gu a u c dp (kdT TT i) = .inr q → pr TT (i + 1) = .inr (q, s.2) := fun q hi hk hq => by
    have := pr_next hs (by rw [hU]; exact hq) hi
    rw [upd_id hm hk (fun e => h25 e.1)] at this
    exact this
  -- a unit of one token
  have one : ∀ (m : Nat) (σ2 σ3 : Sg), ¬ kdT TT i = 22 → gu a u c dp (kdT TT i) = .inr (a, dp) → FRr σ σ2 → sameR σ σ2 → RCx PRG m 192 [.ref 97] σ2 none σ3 → exR TT i a dp s.2 (fun _ => True) σ σ3 := by
    intro m σ2 σ3 h22 hg g1 g2 h3
    obtain ⟨k1, k2⟩ := rc192 hW h3 (hR.fr g1) (hP.same g2) hs (by rw [hU]; exact hg)
    refine ⟨g1.trans k1, ?_⟩
    rcases k2 with ⟨c1, c2⟩ | c
    · refine Or.inl ⟨i + 1, Nat.lt_succ_self i, hup _ c1 h22 hg, ?_, trivial⟩
      rw [evn]; exact c2
    · exact Or.inr c
  refine h.by (Q := fun _ σ' => exR TT i a dp s.2 (fun _ => True) σ σ') (fun m d => ?_)
  have at88 : ∀ m2, ¬ kdT TT i = 3 → ¬ (27 ≤ kdT TT i ∧ kdT TT i ≤ 36) → Pl PRG m2 d 197 88 [(0, .ref 97)] [] σ (fun _ σ' => exR TT i a dp s.2 (fun _ => True) σ σ') := by
    intro m2 n3 nv
    refine Pl.pos (fun m3 _ => p_197_88 σ (fun w2 σ2 h2 _ => ?_))
    obtain ⟨rfl, hw2⟩ := rc189 (b := 26) hW h2 hR hP hs (by decide)
    have en : ∀ (m4 : Nat) (σ5 : Sg), exR TT i a dp s.2 (fun _ => True) σ2 σ5 → Pl PRG m4 d 197 134 [] [] σ5 (fun _ σ' => exR TT i a dp s.2 (fun _ => True) σ2 σ') := fun m4 σ5 hq => Pl.pos (fun m5 _ => p_197_134 σ5 hq)
    refine ⟨fun z σ3 h3 => en m3 σ3 ?_, fun z σ4 h4 w6 σ5 h5 => ?_⟩
    · rcases hw2 with ⟨-, n26⟩ | ⟨e, -⟩
      · have hg : gu a u c dp (kdT TT i) = .inl 1 := by
          unfold gu
          rw [if_neg n13, if_neg nv, if_neg n26, if_neg n3]
        obtain ⟨k1, k2⟩ := rc190 (f := 1) hW h3 hR hP (stop_f hs (by rw [hU]; exact hg)) (by decide)
        exact ⟨k1, Or.inr k2⟩
      · rw [e] at z; exact absurd z (by decide)
    · rcases hw2 with ⟨e, -⟩ | ⟨-, e26⟩
      · exact absurd e z
      · have hg : gu a u c dp (kdT TT i) = .inr (c, dp) := by
          unfold gu
          rw [if_neg n13, if_neg nv, if_pos e26]
        obtain ⟨k1, k2⟩ := rc192 hW h4 hR hP hs (by rw [hU]; exact hg)
        have res : FRr σ2 σ5 ∧ ((∃ j, i < j ∧ pr TT j = .inr ((a, dp), s.2) ∧ PRo TT j (evs TT j) dp σ5) ∨ FAr TT σ5) := by
          rcases k2 with ⟨c1, c2⟩ | g
          · have hs2 := hup (c, dp) c1 (by omega) hg
            rw [← evn] at c2
            obtain ⟨l1, l2⟩ := rc194 hW h5 (hR.fr k1) c2 hs2 (fun e => by show gs c dp _ _ = _; rw [hM.gsc, if_pos e]) (fun e => by show gs c dp _ _ = _; rw [hM.gsc, if_neg e]) (fun x hx => (evs_lt hx).1)
            refine ⟨k1.trans l1, ?_⟩
            rcases l2 with ⟨-, e3, e4, e5⟩ | g
            · have hs3 := pr_next (q := (a, dp)) hs2 (by show gs c dp _ _ = _; rw [hM.gsc, if_pos e3]) e4
              rw [show updD ((c, dp), s.2).1.1 (kdT TT (i + 1)) (i + 1) ((c, dp), s.2).2 = s.2 from upd_id hM.ne.2.2.1 (by omega) (fun e => hM.ne.2.2.2.2 e.1)] at hs3
              refine Or.inl ⟨i + 1 + 1, by omega, hs3, ?_⟩
              rw [evs_step hs2, evO_off hM.evc]
              exact e5
            · exact Or.inr g
          · have e := rd194 h5 g
            subst e
            exact ⟨k1, Or.inr g⟩
        obtain ⟨r1, r2⟩ := res
        have fin : ∀ (x y : Int32) (σ7 : Sg), RCx PRG m3 196 [.ref 97, .int x, .int y] σ5 none σ7 → exR TT i a dp s.2 (fun _ => True) σ2 σ7 := by
          intro x y σ7 h7
          obtain ⟨t1, t2⟩ := rc196 h7
          refine ⟨r1.trans t1, ?_⟩
          rcases r2 with ⟨j, j1, j2, j3⟩ | g
          · exact Or.inl ⟨j, j1, j2, j3.same t2, trivial⟩
          · exact Or.inr (g.same t2)
        exact ⟨fun _ σ7 h7 => en m3 σ7 (fin _ _ σ7 h7), fun _ σ7 h7 => en m3 σ7 (fin _ _ σ7 h7)⟩
  refine p_197_0 σ (fun w2 σ2 h2 _ => ?_)
  obtain ⟨rfl, hw2⟩ := rc189 (b := 3) hW h2 hR hP hs (by decide)
  have en : ∀ (m4 : Nat) (σ5 : Sg), exR TT i a dp s.2 (fun _ => True) σ2 σ5 → Pl PRG m4 d 197 134 [] [] σ5 (fun _ σ' => exR TT i a dp s.2 (fun _ => True) σ2 σ') := fun m4 σ5 hq => Pl.pos (fun m5 _ => p_197_134 σ5 hq)
  have hrl := rk_lt (kdT TT i) (by omega)
  refine ⟨fun z => ⟨fun _ _ => ?_, fun c => absurd p3 c⟩, fun z _ σ5 h5 σ6 h6 => en m σ6 ?_⟩
  · rcases hw2 with ⟨-, n3⟩ | ⟨e, -⟩
    · rw [p1, nI_clamp (by omega), hat.1]
      have hv : (31 ≤ rk (kdT TT i) ∧ rk (kdT TT i) ≤ 40) ↔ (27 ≤ kdT TT i ∧ kdT TT i ≤ 36) := (by decide +kernel : ∀ k, k < 37 → ((31 ≤ rk k ∧ rk k ≤ 40) ↔ (27 ≤ k ∧ k ≤ 36))) _ (by omega)
      refine ⟨fun c31 => at88 m n3 (fun e => ?_), fun c31 _ => ⟨fun c40 => at88 m n3 (fun e => ?_), fun c40 _ σ3 h3 σ4 h4 => en m σ4 ?_⟩⟩
      · exact absurd c31 (nI_nlt (a := rk (kdT TT i)) (b := 31) (hv.mpr e).1 (by omega))
      · exact absurd c40 (nI_nlt (a := 40) (b := rk (kdT TT i)) (hv.mpr e).2 (by decide))
      · have hv2 : 27 ≤ kdT TT i ∧ kdT TT i ≤ 36 := hv.mp ⟨by
          rcases Nat.lt_or_ge (rk (kdT TT i)) 31 with g | g
          · exact absurd (nI_lt g (by decide)) c31
          · exact g, by
          rcases Nat.lt_or_ge 40 (rk (kdT TT i)) with g | g
          · exact absurd (nI_lt g (by omega)) c40
          · exact g⟩
        obtain ⟨t1, t2⟩ := rc196 h3
        refine one m σ3 σ4 (by omega) ?_ t1 t2 h4
        unfold gu
        rw [if_neg n13, if_pos hv2]
    · rw [e] at z; exact absurd z (by decide)
  · rcases hw2 with ⟨e, -⟩ | ⟨-, e3⟩
    · exact absurd e z
    · obtain ⟨t1, t2⟩ := rc196 h5
      refine one m σ5 σ6 (by omega) ?_ t1 t2 h6
      unfold gu
      rw [if_neg n13, if_neg (by omega), if_neg (by omega), if_pos e3]
/-! an expression, over the stack of what waits -/
theorem rd199 {TT : List Tk} {n : Nat} {σ σ1 : Sg} (h : RCx PRG n 199 [.ref 97] σ none σ1) (hF : FAr TT σ) : FRr σ σ1 ∧ FAr TT σ1 := by
  refine h.by (Q := fun _ σ' => FRr σ σ' ∧ FAr TT σ') (fun m d => p_199_0 σ (Pl.pos (fun m2 _ => p_199_12 _ _ _ ?_)))
  have hF' : FAr TT (s1 σ 97 41 (0 : Int32)) := hF.of (by rw [s1_off (by omega)]) (by rw [s1_off (by omega)])
  have out : ∀ m3, Pl PRG m3 d 199 272 [] [] (s1 σ 97 41 (0 : Int32)) (fun _ σ' => FRr σ σ' ∧ FAr TT σ') := fun m3 => Pl.pos (fun m4 _ => p_199_272 _ ⟨(FRr.refl σ).put (by unfold mfR; omega), hF'⟩)
  exact ⟨fun _ => out m2, fun _ => ⟨fun c => absurd c hF'.pos.2.2, fun _ => out m2⟩⟩
theorem expr_r {TT : List Tk} (hW : WT TT) {n i a u c : Nat} {s : GSt} {σ σ1 : Sg} (hw : wantR TT i a u c 0 s) (hR : RQ TT σ) (hP : PRo TT i (evs TT i) 0 σ) (h : RCx PRG n 199 [.ref 97] σ none σ1) : exR TT i a 0 s.2 (fun j => ¬ (5 ≤ kdT TT j ∧ kdT TT j ≤ 8)) σ σ1 := by
  have hM := hw.1
  refine h.by (Q := fun _ σ' => exR TT i a 0 s.2 (fun j => ¬ (5 ≤ kdT TT j ∧ kdT TT j ≤ 8)) σ σ') (fun m d => ?_)
  -- after a fault
  have d272 : ∀ (m2 : Nat) (σ2 : Sg), FRr σ σ2 → FAr TT σ2 → Pl PRG m2 d 199 272 [] [] σ2 (fun _ σ' => exR TT i a 0 s.2 (fun j => ¬ (5 ≤ kdT TT j ∧ kdT TT j ≤ 8)) σ σ') := fun m2 σ2 g1 g2 => Pl.pos (fun m3 _ => p_199_272 σ2 ⟨g1, Or.inr g2⟩)
  have d12 : ∀ (m2 : Nat) (x : Int32) (σ2 : Sg), FRr σ σ2 → FAr TT σ2 → Pl PRG m2 d 199 12 [(0, .ref 97), (1, .int (nI 0)), (2, .int x)] [] σ2 (fun _ σ' => exR TT i a 0 s.2 (fun j => ¬ (5 ≤ kdT TT j ∧ kdT TT j ≤ 8)) σ σ') := fun m2 x σ2 g1 g2 => Pl.pos (fun m3 _ => p_199_12 σ2 (nI 0) x ⟨fun _ => d272 m3 σ2 g1 g2, fun _ => ⟨fun c => absurd c g2.pos.2.2, fun _ => d272 m3 σ2 g1 g2⟩⟩)
  have d204 : ∀ (m2 : Nat) (σ2 : Sg), FRr σ σ2 → FAr TT σ2 → Pl PRG m2 d 199 204 [(0, .ref 97)] [] σ2 (fun _ σ' => exR TT i a 0 s.2 (fun j => ¬ (5 ≤ kdT TT j ∧ kdT TT j ≤ 8)) σ σ') := fun m2 σ2 g1 g2 => Pl.pos (fun m3 _ => p_199_204 σ2 (fun σ3 h3 => by
    obtain ⟨t1, t2⟩ := rc198 h3
    exact ⟨g1.trans t1, Or.inr (g2.same t2)⟩))
  have d145 : ∀ (m2 : Nat) (σ2 : Sg), FRr σ σ2 → FAr TT σ2 → Pl PRG m2 d 199 145 [(0, .ref 97), (1, .int (nI 0))] [] σ2 (fun _ σ' => exR TT i a 0 s.2 (fun j => ¬ (5 ≤ kdT TT j ∧ kdT TT j ≤ 8)) σ σ') := fun m2 σ2 g1 g2 => Pl.pos (fun m3 _ => p_199_145 σ2 (nI 0) (fun w2 σ3 h3 _ => by
    obtain ⟨rfl, rfl⟩ := rd189 h3 g2
    refine ⟨fun _ w4 σ4 h4 _ => ?_, fun c => absurd rfl c⟩
    obtain ⟨rfl, rfl⟩ := rd189 h4 g2
    refine ⟨fun _ w6 σ5 h5 _ => ?_, fun c => absurd rfl c⟩
    obtain ⟨rfl, rfl⟩ := rd189 h5 g2
    refine ⟨fun _ w8 σ6 h6 _ => ?_, fun c => absurd rfl c⟩
    obtain ⟨rfl, rfl⟩ := rd189 h6 g2
    refine ⟨fun _ => ⟨fun _ => d204 m3 _ g1 g2, fun _ σ7 h7 => ?_⟩, fun c => absurd rfl c⟩
    have e := rd190 h7 g2
    subst e
    exact d204 m3 _ g1 g2))
  have d96 : ∀ (m2 : Nat) (σ2 : Sg), FRr σ σ2 → FAr TT σ2 → Pl PRG m2 d 199 96 [(0, .ref 97), (1, .int (nI 0))] [] σ2 (fun _ σ' => exR TT i a 0 s.2 (fun j => ¬ (5 ≤ kdT TT j ∧ kdT TT j ≤ 8)) σ σ') := fun m2 σ2 g1 g2 => Pl.pos (fun m3 _ => p_199_96 σ2 (nI 0) (fun w2 σ3 h3 _ => by
    obtain ⟨rfl, rfl⟩ := rd189 h3 g2
    exact ⟨fun _ => d145 m3 _ g1 g2, fun c => absurd rfl c⟩))
  have d23 : ∀ (m2 : Nat) (σ2 : Sg), FRr σ σ2 → FAr TT σ2 → Pl PRG m2 d 199 23 [(0, .ref 97), (1, .int (nI 0))] [] σ2 (fun _ σ' => exR TT i a 0 s.2 (fun j => ¬ (5 ≤ kdT TT j ∧ kdT TT j ≤ 8)) σ σ') := fun m2 σ2 g1 g2 => Pl.pos (fun m3 _ => p_199_23 σ2 (nI 0) (fun w2 σ3 h3 _ => by
    obtain ⟨rfl, rfl⟩ := rd189 h3 g2
    refine ⟨fun _ σ4 h4 => ?_, fun c => absurd rfl c⟩
    have e := rd197 h4 g2
    subst e
    exact ⟨fun c => absurd c g2.pos.1, fun _ => ⟨g1, Or.inr g2⟩⟩))
  have d46 : ∀ (m2 : Nat) (σ2 : Sg), FRr σ σ2 → FAr TT σ2 → Pl PRG m2 d 199 46 [(0, .ref 97), (1, .int (nI 0))] [] σ2 (fun _ σ' => exR TT i a 0 s.2 (fun j => ¬ (5 ≤ kdT TT j ∧ kdT TT j ≤ 8)) σ σ') := fun m2 σ2 g1 g2 => Pl.pos (fun m3 _ => p_199_46 σ2 (nI 0) (fun σ3 h3 _ => by
    have g2' : FAr TT (s1 σ2 97 12 ((σ2.1 97 12) + (1 : Int32))) := g2.of (by rw [s1_off (by omega)]) (by rw [s1_off (by omega)])
    obtain ⟨t1, t2⟩ := rd192 h3 g2'
    refine d23 m3 _ ((((g1.put (by unfold mfR; omega)).trans t1).arr (by omega)).put (by unfold mfR; omega)) (t2.of (by rw [s1_off (by omega), s1_off (by omega)]) (by rw [s1_off (by omega), s1_off (by omega)]))))
  -- with no fault
  have main : ∀ (m2 : Nat), (∀ (σ2 : Sg) (j dp : Nat) (s' : GSt), i ≤ j → FRr σ σ2 → wantR TT j a u c dp s' → s'.2 = s.2 → PRo TT j (evs TT j) dp σ2 → Pl PRG m2 d 199 23 [(0, .ref 97), (1, .int (nI 0))] [] σ2 (fun _ σ' => exR TT i a 0 s.2 (fun j => ¬ (5 ≤ kdT TT j ∧ kdT TT j ≤ 8)) σ σ')) ∧ (∀ (σ2 : Sg) (j dp : Nat), i < j → FRr σ σ2 → dp ≤ 6 → pr TT j = .inr ((a, dp), s.2) → PRo TT j (evs TT j) dp σ2 → Pl PRG m2 d 199 96 [(0, .ref 97), (1, .int (nI 0))] [] σ2 (fun _ σ' => exR TT i a 0 s.2 (fun j => ¬ (5 ≤ kdT TT j ∧ kdT TT j ≤ 8)) σ σ')) := by
    intro m2
    induction m2 using Nat.strongRecOn with
    | _ m2 ih =>
      refine ⟨fun σ2 j dp s' hij g1 hw' hD g3 => ?_, fun σ2 j dp hij g1 hdp hsj g3 => ?_⟩
      · refine Pl.pos (fun m3 hm3 => p_199_23 σ2 (nI 0) (fun w2 σ3 h3 _ => ?_))
        obtain ⟨rfl, hw2⟩ := rc189 (b := 13) hW h3 (hR.fr g1) g3 hw'.2.2.1 (by decide)
        refine ⟨fun z σ4 h4 => ?_, fun z => ?_⟩
        · rcases hw2 with ⟨-, n13⟩ | ⟨e, -⟩
          · obtain ⟨k1, k2⟩ := unit_r hW hw' (hR.fr g1) g3 n13 h4
            rcases k2 with ⟨j', j1, j2, j3, -⟩ | g
            · rw [hD] at j2
              exact ⟨fun _ => (ih m3 (by omega)).2 σ4 j' dp (by omega) (g1.trans k1) hw'.2.1 j2 j3, fun c => absurd (by rw [j3.2.2.1]; decide) c⟩
            · exact ⟨fun c => absurd c g.pos.1, fun _ => ⟨g1.trans k1, Or.inr g⟩⟩
          · rw [e] at z; exact absurd z (by decide)
        · rcases hw2 with ⟨e, -⟩ | ⟨-, e13⟩
          · exact absurd e z
          · have hs' := hw'.2.2.1
            have hdp' := hw'.2.1
            rw [g3.2.2.2.2]
            refine ⟨fun c6 σ4 h4 => ?_, fun c6 => ?_⟩
            · have e6 : dp = 6 := (nI_eq (b := 6) (by omega) (by decide)).mp c6
              have hg : gu a u c dp (kdT TT j) = .inl 2 := by
                unfold gu
                rw [if_pos e13, if_pos (by omega)]
              obtain ⟨k1, k2⟩ := rc190 (f := 2) hW h4 (hR.fr g1) g3 (stop_f hs' (by rw [hw'.2.2.2.1]; exact hg)) (by decide)
              exact d46 m3 σ4 (g1.trans k1) k2
            · have n6 : ¬ dp = 6 := fun e => c6 (by rw [e]; rfl)
              have hg : gu a u c dp (kdT TT j) = .inr (u, dp + 1) := by
                unfold gu
                rw [if_pos e13, if_neg (by omega)]
              refine Pl.pos (fun m4 hm4 => p_199_46 σ3 (nI 0) (fun σ4 h4 _ => ?_))
              have g4 : PRo TT j (evs TT j) (dp + 1) (s1 σ3 97 12 ((σ3.1 97 12) + (1 : Int32))) := by
                obtain ⟨q1, q2, q3, q4, q5⟩ := g3
                exact ⟨by rw [s1_off (by omega)]; exact q1, q2, by rw [s1_off (by omega)]; exact q3, q4.of (by rw [s1_off (by omega)]) (by rw [s1_off (by omega)]), by rw [s1_on, q5, nI_1]⟩
              have F := g1.put (j := 12) (x := (σ3.1 97 12) + (1 : Int32)) (by unfold mfR; omega)
              obtain ⟨k1, k2⟩ := rc192 hW h4 (hR.fr F) g4 hs' (by rw [hw'.2.2.2.1]; exact hg)
              have F2 : ∀ (y z : Int32) (l : Nat), FRr σ (s1 (s1 σ4 122 l y) 97 41 z) := fun y z l => (((F.trans k1).arr (by omega)).put (by unfold mfR; omega))
              rcases k2 with ⟨c1, c2⟩ | g
              · have hs2 := pr_next (q := (u, dp + 1)) hs' (by rw [hw'.2.2.2.1]; exact hg) c1
                rw [upd_id hw'.2.2.2.2.1 (by omega) (fun e => hw'.2.2.2.2.2.1 e.1)] at hs2
                have ev2 : evs TT (j + 1) = evs TT j := by rw [evs_step hs', evO_0 hw'.2.2.2.2.2.2, orE_none]
                rw [← ev2] at c2
                refine (ih m4 (by omega)).1 _ (j + 1) (dp + 1) _ (by omega) (F2 _ _ _) ⟨hM, by omega, hs2, hM.gsu _ _ _, hM.ne.2.1, hM.ne.2.2.2.1, hM.evu⟩ hD (c2.same (((sameR.refl σ4).put (by omega)).put (by omega)))
              · exact d23 m4 _ (F2 _ _ _) (g.same (((sameR.refl σ4).put (by omega)).put (by omega)))
      · have hkd := (kd_le hW hsj).1
        have hRj := hR.fr g1
        have hatj := RQ_at hW hRj hsj g3.2.1
        -- behind a unit
        have at145 : ∀ (m3 : Nat), m3 < m2 → (kdT TT j = 14 → dp = 0) → Pl PRG m3 d 199 145 [(0, .ref 97), (1, .int (nI 0))] [] σ2 (fun _ σ' => exR TT i a 0 s.2 (fun j => ¬ (5 ≤ kdT TT j ∧ kdT TT j ≤ 8)) σ σ') := by
          intro m3 hm3 h14
          have at181 : ∀ (m4 : Nat), m4 < m2 → (5 ≤ kdT TT j ∧ kdT TT j ≤ 8) → Pl PRG m4 d 199 181 [(0, .ref 97), (1, .int (nI 0))] [] σ2 (fun _ σ' => exR TT i a 0 s.2 (fun j => ¬ (5 ≤ kdT TT j ∧ kdT TT j ≤ 8)) σ σ') := by
            intro m4 hm4 hop
            refine Pl.pos (fun m5 hm5 => p_199_181 σ2 (nI 0) ?_)
            have go : ∀ (σ6 σ7 : Sg) (y z : Int32) (l : Nat), FRr σ2 σ6 → sameR σ2 σ6 → RCx PRG m5 192 [.ref 97] (s1 (s1 σ6 122 l y) 97 41 z) none σ7 → Pl PRG m5 d 199 12 [(0, .ref 97), (1, .int (nI 0)), (2, .int (1 : Int32))] [] σ7 (fun _ σ' => exR TT i a 0 s.2 (fun j => ¬ (5 ≤ kdT TT j ∧ kdT TT j ≤ 8)) σ σ') := by
              intro σ6 σ7 y z l t1 t2 h7
              have F : FRr σ (s1 (s1 σ6 122 l y) 97 41 z) := ((g1.trans t1).arr (by omega)).put (by unfold mfR; omega)
              have S : sameR σ2 (s1 (s1 σ6 122 l y) 97 41 z) := (t2.put (by omega)).put (by omega)
              obtain ⟨r, hr⟩ := hM.gsa (kdT TT j)
              have hga : ∀ len, gs a dp len (kdT TT j) = .inr (u, dp) := fun len => by
                rw [hr]; unfold ga; rw [if_pos hop]
              obtain ⟨k1, k2⟩ := rc192 hW h7 (hR.fr F) (g3.same S) hsj (hga _)
              rcases k2 with ⟨c1, c2⟩ | g
              · have hs2 := pr_next (q := (u, dp)) hsj (hga _) c1
                rw [show updD ((a, dp), s.2).1.1 (kdT TT j) j ((a, dp), s.2).2 = s.2 from upd_id hM.ne.1 (by omega) (fun e => by omega)] at hs2
                have ev2 : evs TT (j + 1) = evs TT j := by rw [evs_step hsj, evO_0 hM.eva, orE_none]
                rw [← ev2] at c2
                refine Pl.pos (fun m6 hm6 => p_199_12 σ7 (nI 0) 1 ⟨fun c => absurd c (by decide), fun _ => ⟨fun _ => (ih m6 (by omega)).1 σ7 (j + 1) dp _ (by omega) (F.trans k1) ⟨hM, hdp, hs2, hM.gsu _ _ _, hM.ne.2.1, hM.ne.2.2.2.1, hM.evu⟩ rfl c2, fun c => absurd c2.2.2.1 c⟩⟩)
              · exact d12 m5 1 σ7 (F.trans k1) g
            have fin : ∀ (x : Int32) (σ6 : Sg), RCx PRG m5 198 [.ref 97, .int x] σ2 none σ6 → (inR (σ6.1 97 11) 403 = true → (inR (σ6.1 97 41) 64 = true → (∀ σ8, RCx PRG m5 192 [.ref 97] (s1 (s1 σ6 122 (σ6.1 97 41).toNatClampNeg (σ6.1 100 (σ6.1 97 11).toNatClampNeg)) 97 41 ((σ6.1 97 41) + (1 : Int32))) none σ8 → Pl PRG m5 d 199 12 [(0, .ref 97), (1, .int (nI 0)), (2, .int (1 : Int32))] [] σ8 (fun _ σ' => exR TT i a 0 s.2 (fun j => ¬ (5 ≤ kdT TT j ∧ kdT TT j ≤ 8)) σ σ')))) := fun x σ6 h6 _ _ σ8 h8 => by
              obtain ⟨t1, t2⟩ := rc198 h6
              exact go σ6 σ8 _ _ _ t1 t2 h8
            intro w2 σ3 h3 _
            obtain ⟨rfl, -⟩ := rc189 (b := 7) hW h3 hRj g3 hsj (by decide)
            refine ⟨fun _ w6 σ5 h5 _ => ?_, fun _ σ6 h6 => fin _ σ6 h6⟩
            obtain ⟨rfl, -⟩ := rc189 (b := 8) hW h5 hRj g3 hsj (by decide)
            exact ⟨fun _ σ6 h6 => fin _ σ6 h6, fun _ σ6 h6 => fin _ σ6 h6⟩
          refine Pl.pos (fun m4 hm4 => p_199_145 σ2 (nI 0) (fun w2 σ3 h3 _ => ?_))
          obtain ⟨rfl, e2⟩ := rc189 (b := 5) hW h3 hRj g3 hsj (by decide)
          refine ⟨fun z2 w4 σ4 h4 _ => ?_, fun z2 => at181 m4 (by omega) (by rcases e2 with ⟨e, -⟩ | ⟨-, e⟩; exact absurd e z2; omega)⟩
          obtain ⟨rfl, e4⟩ := rc189 (b := 6) hW h4 hRj g3 hsj (by decide)
          refine ⟨fun z4 w6 σ5 h5 _ => ?_, fun z4 => at181 m4 (by omega) (by rcases e4 with ⟨e, -⟩ | ⟨-, e⟩; exact absurd e z4; omega)⟩
          obtain ⟨rfl, e6⟩ := rc189 (b := 7) hW h5 hRj g3 hsj (by decide)
          refine ⟨fun z6 w8 σ6 h6 _ => ?_, fun z6 => at181 m4 (by omega) (by rcases e6 with ⟨e, -⟩ | ⟨-, e⟩; exact absurd e z6; omega)⟩
          obtain ⟨rfl, e8⟩ := rc189 (b := 8) hW h6 hRj g3 hsj (by decide)
          refine ⟨fun z8 => ?_, fun z8 => at181 m4 (by omega) (by rcases e8 with ⟨e, -⟩ | ⟨-, e⟩; exact absurd e z8; omega)⟩
          have nop : ¬ (5 ≤ kdT TT j ∧ kdT TT j ≤ 8) := by
            have q2 : ¬ kdT TT j = 5 := by rcases e2 with ⟨-, e⟩ | ⟨e, -⟩; exact e; rw [e] at z2; exact absurd z2 (by decide)
            have q4 : ¬ kdT TT j = 6 := by rcases e4 with ⟨-, e⟩ | ⟨e, -⟩; exact e; rw [e] at z4; exact absurd z4 (by decide)
            have q6 : ¬ kdT TT j = 7 := by rcases e6 with ⟨-, e⟩ | ⟨e, -⟩; exact e; rw [e] at z6; exact absurd z6 (by decide)
            have q8 : ¬ kdT TT j = 8 := by rcases e8 with ⟨-, e⟩ | ⟨e, -⟩; exact e; rw [e] at z8; exact absurd z8 (by decide)
            omega
          rw [g3.2.2.2.2]
          refine ⟨fun c0 => ?_, fun c0 σ9 h9 => ?_⟩
          · have d0 : dp = 0 := by
              have := (nI_leI (a := dp) (b := 0) (by omega) (by decide)).mp c0
              omega
            subst d0
            refine Pl.pos (fun m5 _ => p_199_204 _ (fun σ7 h7 => ?_))
            obtain ⟨t1, t2⟩ := rc198 h7
            exact ⟨g1.trans t1, Or.inl ⟨j, hij, hsj, g3.same t2, nop⟩⟩
          · have dpos : ¬ dp = 0 := fun e => c0 (by rw [e]; decide)
            obtain ⟨r, hr⟩ := hM.gsa (kdT TT j)
            have hga : ∀ len, gs a dp len (kdT TT j) = .inl 1 := fun len => by
              rw [hr]; unfold ga
              rw [if_neg nop, if_neg (fun e => dpos (h14 e.1)), if_neg dpos]
            obtain ⟨k1, k2⟩ := rc190 (f := 1) hW h9 hRj g3 (stop_f hsj (hga _)) (by decide)
            exact d204 m4 σ9 (g1.trans k1) k2
        refine Pl.pos (fun m3 hm3 => p_199_96 σ2 (nI 0) (fun w2 σ3 h3 _ => ?_))
        obtain ⟨rfl, hw2⟩ := rc189 (b := 14) hW h3 hRj g3 hsj (by decide)
        refine ⟨fun z => at145 m3 (by omega) (fun e => ?_), fun z => ?_⟩
        · rcases hw2 with ⟨-, hn⟩ | ⟨e', -⟩
          · exact absurd e hn
          · rw [e'] at z; exact absurd z (by decide)
        · rcases hw2 with ⟨e, -⟩ | ⟨-, e14⟩
          · exact absurd e z
          · rw [g3.2.2.2.2]
            refine ⟨fun c0 => at145 m3 (by omega) (fun _ => ?_), fun c0 σ4 h4 σ5 h5 => ?_⟩
            · have := (nI_leI (a := dp) (b := 0) (by omega) (by decide)).mp c0
              omega
            · have dpos : 0 < dp := nle_of (by omega) (by decide) c0
              obtain ⟨t1, t2⟩ := rc198 h4
              obtain ⟨dp', rfl⟩ : ∃ dp', dp = dp' + 1 := ⟨dp - 1, by omega⟩
              have e12 : (σ4.1 97 12) - (1 : Int32) = nI dp' := by
                rw [t2 12 (by decide) (by decide), g3.2.2.2.2, nI_pred]
              have g4 : PRo TT j (evs TT j) dp' (s1 (s1 σ4 97 41 ((σ4.1 97 41) - (1 : Int32))) 97 12 ((σ4.1 97 12) - (1 : Int32))) := by
                obtain ⟨q1, q2, q3, q4, q5⟩ := g3.same t2
                exact ⟨by rw [s1_off (by omega), s1_off (by omega)]; exact q1, q2, by rw [s1_off (by omega), s1_off (by omega)]; exact q3, q4.of (by rw [s1_off (by omega), s1_off (by omega)]) (by rw [s1_off (by omega), s1_off (by omega)]), by rw [s1_on]; exact e12⟩
              have F : FRr σ (s1 (s1 σ4 97 41 ((σ4.1 97 41) - (1 : Int32))) 97 12 ((σ4.1 97 12) - (1 : Int32))) := ((g1.trans t1).put (by unfold mfR; omega)).put (by unfold mfR; omega)
              obtain ⟨r, hr⟩ := hM.gsa (kdT TT j)
              have hga : ∀ len, gs a (dp' + 1) len (kdT TT j) = .inr (a, dp') := fun len => by
                rw [hr]; unfold ga
                rw [if_neg (by omega), if_pos ⟨e14, by omega⟩]
                rfl
              obtain ⟨k1, k2⟩ := rc192 hW h5 (hR.fr F) g4 hsj (hga _)
              rcases k2 with ⟨c1, c2⟩ | g
              · have hs2 := pr_next (q := (a, dp')) hsj (hga _) c1
                rw [show updD ((a, dp' + 1), s.2).1.1 (kdT TT j) j ((a, dp' + 1), s.2).2 = s.2 from upd_id hM.ne.1 (by omega) (fun e => by omega)] at hs2
                have ev2 : evs TT (j + 1) = evs TT j := by rw [evs_step hsj, evO_0 hM.eva, orE_none]
                rw [← ev2] at c2
                exact (ih m3 (by omega)).2 σ5 (j + 1) dp' (by omega) (F.trans k1) (by omega) hs2 c2
              · exact d96 m3 σ5 (F.trans k1) g
  refine p_199_0 σ (Pl.pos (fun m2 _ => p_199_12 _ _ _ ?_))
  have F := (FRr.refl σ).put (j := 41) (x := (0 : Int32)) (by unfold mfR; omega)
  have S := (sameR.refl σ).put (q := 97) (j := 41) (x := (0 : Int32)) (by omega)
  refine ⟨fun c => absurd c (by decide), fun _ => ⟨fun _ => ?_, fun c => absurd (by rw [s1_off (by omega)]; exact hP.2.2.1) c⟩⟩
  rw [hP.2.2.2.2]
  exact (main m2).1 _ i 0 s (Nat.le_refl i) F hw rfl (hP.same S)
/-! literals, conditions -/
def liR (TT : List Tk) (i b : Nat) (D : DT) (X : Nat → Prop) (σ σ1 : Sg) : Prop := exR TT i (b + 5) 0 D (fun j => ¬ (5 ≤ kdT TT j ∧ kdT TT j ≤ 8) ∧ X j) σ σ1
theorem lit_r {TT : List Tk} (hW : WT TT) {n i b : Nat} {D : DT} {x : Int32} {σ σ1 : Sg} (hb : BO b) (hR : RQ TT σ) (hP : PRo TT i (evs TT i) 0 σ) (hs : pr TT i = .inr ((b, 0), D)) (h : RCx PRG n 200 [.ref 97, .int x] σ none σ1) : liR TT i b D (fun _ => True) σ σ1 := by
  refine h.by (Q := fun _ σ' => liR TT i b D (fun _ => True) σ σ') (fun m d => ?_)
  have d85 : ∀ (m2 : Nat) (x2 x3 x4 : Int32) (σ2 : Sg), FRr σ σ2 → FAr TT σ2 → Pl PRG m2 d 200 85 [(0, .ref 97), (1, .int x), (2, .int x2), (3, .int x3), (4, .int x4)] [] σ2 (fun _ σ' => liR TT i b D (fun _ => True) σ σ') := fun m2 x2 x3 x4 σ2 g1 g2 => Pl.pos (fun m3 _ => p_200_85 σ2 x x2 x3 x4 (fun σ3 h3 σ4 h4 => by
    obtain ⟨k1, k2⟩ := rd192 h3 g2
    obtain ⟨l1, l2⟩ := rd199 h4 k2
    exact ⟨fun c => absurd c l2.pos.1, fun _ => ⟨(g1.trans k1).trans l1, Or.inr l2⟩⟩))
  have d80 : ∀ (m2 : Nat) (x2 x3 x4 : Int32) (σ2 : Sg), FRr σ σ2 → FAr TT σ2 → Pl PRG m2 d 200 80 [(0, .ref 97), (1, .int x), (2, .int x2), (3, .int x3), (4, .int x4)] [] σ2 (fun _ σ' => liR TT i b D (fun _ => True) σ σ') := fun m2 x2 x3 x4 σ2 g1 g2 => Pl.pos (fun m3 _ => p_200_80 σ2 x x2 x3 x4 (fun σ3 h3 => by
    have e := rd190 h3 g2
    subst e
    exact d85 m3 x2 x3 x4 _ g1 g2))
  have loop : ∀ (m2 : Nat) (j : Nat) (x2 : Int32) (σ2 : Sg), i ≤ j → FRr σ σ2 → PRo TT j (evs TT j) 0 σ2 → pr TT j = .inr ((b, 0), D) → Pl PRG m2 d 200 2 [(0, .ref 97), (1, .int x), (2, .int x2)] [] σ2 (fun _ σ' => liR TT i b D (fun _ => True) σ σ') := by
    intro m2
    induction m2 using Nat.strongRecOn with
    | _ m2 ih =>
      intro j x2 σ2 hij g1 g3 hsj
      refine Pl.pos (fun m3 hm3 => p_200_2 σ2 x x2 (fun w2 σ3 h3 _ => ?_))
      obtain ⟨rfl, hw2⟩ := rc189 (b := 25) hW h3 (hR.fr g1) g3 hsj (by decide)
      refine ⟨fun z σ4 h4 => ?_, fun z => ?_⟩
      · rcases hw2 with ⟨-, n25⟩ | ⟨e, -⟩
        · obtain ⟨k1, k2⟩ := expr_r hW (a := b + 2) (u := b + 1) (c := b + 3) ⟨hb.l, by omega, hsj, by show gs b 0 _ _ = _; rw [hb.gs0, if_neg n25], hb.ne.1, hb.ne.2, hb.ev⟩ (hR.fr g1) g3 h4
          have F := g1.trans k1
          rcases k2 with ⟨j', t1, t2, t3, t4⟩ | g
          · have hkd := (kd_le hW t2).1
            have hat := RQ_at hW (hR.fr F) t2 t3.2.1
            refine ⟨fun _ _ => ?_, fun c => absurd (by rw [t3.2.2.1]; decide) c⟩
            rw [t3.1, nI_clamp (by have := t3.2.1; omega), hat.1]
            have hga : ∀ len, gs (b + 2) 0 len (kdT TT j') = if 9 ≤ kdT TT j' ∧ kdT TT j' ≤ 12 then .inr (b + 4, 0) else .inl 1 := fun len => by
              rw [hb.gs2]
              unfold ga
              rw [if_neg t4, if_neg (fun e => absurd e.2 (by decide)), if_pos rfl]
            have hrk : ∀ k, k < 37 → ((9 ≤ k ∧ k ≤ 12 ∧ ¬ nI (rk k) - (11 : Int32) < 0 ∧ nI (rk k) - (11 : Int32) ≤ (3 : Int32)) ∨ (¬ (9 ≤ k ∧ k ≤ 12) ∧ ¬ (¬ nI (rk k) - (11 : Int32) < 0 ∧ nI (rk k) - (11 : Int32) ≤ (3 : Int32)))) := by decide +kernel
            have hk := hrk (kdT TT j') (by omega)
            have no : ¬ (9 ≤ kdT TT j' ∧ kdT TT j' ≤ 12) → ∀ x3 x4, Pl PRG m3 d 200 80 [(0, .ref 97), (1, .int x), (2, .int x2), (3, .int x3), (4, .int x4)] [] σ4 (fun _ σ' => liR TT i b D (fun _ => True) σ σ') := fun hn x3 x4 => Pl.pos (fun m4 _ => p_200_80 σ4 x x2 x3 x4 (fun σ5 h5 => by
              obtain ⟨l1, l2⟩ := rc190 (f := 1) hW h5 (hR.fr F) t3 (stop_f t2 (by show gs (b + 2) 0 _ _ = _; rw [hga, if_neg hn])) (by decide)
              exact d85 m4 x2 x3 x4 σ5 (F.trans l1) l2))
            have yes : (9 ≤ kdT TT j' ∧ kdT TT j' ≤ 12) → ∀ x3 x4, Pl PRG m3 d 200 85 [(0, .ref 97), (1, .int x), (2, .int x2), (3, .int x3), (4, .int x4)] [] σ4 (fun _ σ' => liR TT i b D (fun _ => True) σ σ') := fun hy x3 x4 => Pl.pos (fun m4 _ => p_200_85 σ4 x x2 x3 x4 (fun σ5 h5 σ6 h6 => by
              obtain ⟨l1, l2⟩ := rc192 hW h5 (hR.fr F) t3 t2 (by show gs (b + 2) 0 _ _ = _; rw [hga, if_pos hy])
              rcases l2 with ⟨c1, c2⟩ | g
              · have hs2 := pr_next (q := (b + 4, 0)) t2 (by show gs (b + 2) 0 _ _ = _; rw [hga, if_pos hy]) c1
                rw [show updD ((b + 2, 0), D).1.1 (kdT TT j') j' ((b + 2, 0), D).2 = D from upd_id hb.l.ne.1 (by omega) (fun e => by omega)] at hs2
                have ev2 : evs TT (j' + 1) = evs TT j' := by rw [evs_step t2, evO_0 hb.l.eva, orE_none]
                rw [← ev2] at c2
                obtain ⟨y1, y2⟩ := expr_r hW (a := b + 5) (u := b + 4) (c := b + 6) ⟨hb.r, by omega, hs2, hb.r.gsu _ _ _, hb.r.ne.2.1, hb.r.ne.2.2.2.1, hb.r.evu⟩ (hR.fr (F.trans l1)) c2 h6
                have F2 := (F.trans l1).trans y1
                rcases y2 with ⟨j2, u1, u2, u3, u4⟩ | g
                · refine ⟨fun _ _ _ _ _ _ _ => ⟨((((((F2.arr (by omega)).arr (by omega)).arr (by omega)).arr (by omega)).arr (by omega)).arr (by omega)).put (by unfold mfR; omega), Or.inl ⟨j2, by omega, u2, u3.same ?_, u4, trivial⟩⟩, fun c => absurd (by rw [u3.2.2.1]; decide) c⟩
                  exact (((((((sameR.refl _).put (by omega)).put (by omega)).put (by omega)).put (by omega)).put (by omega)).put (by omega)).put (by omega)
                · exact ⟨fun c => absurd c g.pos.1, fun _ => ⟨F2, Or.inr g⟩⟩
              · obtain ⟨y1, y2⟩ := rd199 h6 g
                exact ⟨fun c => absurd c y2.pos.1, fun _ => ⟨(F.trans l1).trans y1, Or.inr y2⟩⟩))
            refine ⟨fun _ => ⟨fun c1 => ?_, fun c1 => ⟨fun c2 => ?_, fun c2 => ?_⟩⟩, fun c => absurd t3.2.2.1 c⟩
            · rcases hk with ⟨-, -, q1, -⟩ | ⟨q1, -⟩
              · exact absurd c1 q1
              · exact no q1 _ _
            · rcases hk with ⟨q0, q0', q1, q2⟩ | ⟨-, q1⟩
              · exact yes ⟨q0, q0'⟩ _ _
              · exact absurd ⟨c1, c2⟩ q1
            · rcases hk with ⟨-, -, q1, q2⟩ | ⟨q1, -⟩
              · exact absurd q2 c2
              · exact no q1 _ _
          · exact ⟨fun c => absurd c g.pos.1, fun _ => ⟨fun c => absurd c g.pos.2.2, fun _ => d85 m3 _ _ _ σ4 F g⟩⟩
        · rw [e] at z; exact absurd z (by decide)
      · rcases hw2 with ⟨e, -⟩ | ⟨-, e25⟩
        · exact absurd e z
        · have hga : ∀ len, gs b 0 len (kdT TT j) = .inr (b, 0) := fun len => by rw [hb.gs0, if_pos e25]
          have go : ∀ (σ5 : Sg) (x' : Int32), RCx PRG m3 192 [.ref 97] σ3 none σ5 → Pl PRG m3 d 200 2 [(0, .ref 97), (1, .int x), (2, .int x')] [] σ5 (fun _ σ' => liR TT i b D (fun _ => True) σ σ') := by
            intro σ5 x' h5
            obtain ⟨k1, k2⟩ := rc192 hW h5 (hR.fr g1) g3 hsj (hga _)
            rcases k2 with ⟨c1, c2⟩ | g
            · have hs2 := pr_next (q := (b, 0)) hsj (hga _) c1
              rw [show updD ((b, 0), D).1.1 (kdT TT j) j ((b, 0), D).2 = D from upd_id hb.ne.1 (by omega) (fun e => by omega)] at hs2
              have ev2 : evs TT (j + 1) = evs TT j := by rw [evs_step hsj, evO_0 hb.ev, orE_none]
              rw [← ev2] at c2
              exact ih m3 (by omega) (j + 1) x' σ5 (by omega) (g1.trans k1) c2 hs2
            · have F := g1.trans k1
              refine Pl.pos (fun m4 _ => p_200_2 σ5 x x' (fun w6 σ6 h6 _ => ?_))
              obtain ⟨rfl, rfl⟩ := rd189 h6 g
              refine ⟨fun _ σ7 h7 => ?_, fun c => absurd rfl c⟩
              obtain ⟨y1, y2⟩ := rd199 h7 g
              exact ⟨fun c => absurd c y2.pos.1, fun _ => ⟨fun c => absurd c y2.pos.2.2, fun _ => d85 m4 _ _ _ σ7 (F.trans y1) y2⟩⟩
          exact ⟨fun _ σ5 h5 => go σ5 1 h5, fun _ σ5 h5 => go σ5 0 h5⟩
  exact p_200_0 σ x (loop m i 0 σ (Nat.le_refl i) (FRr.refl σ) hP hs)
theorem cond_r {TT : List Tk} (hW : WT TT) {n i b : Nat} {D : DT} {s : GSt} {σ σ1 : Sg} (hb : BO b) (hR : RQ TT σ) (hP : PRo TT i (evs TT i) 0 σ) (hs : pr TT i = .inr s) (hq : gs s.1.1 s.1.2 s.2.2.2.1.length (kdT TT i) = .inr (b, 0)) (hD : updD s.1.1 (kdT TT i) i s.2 = D) (hev : evT TT s i = 0) (h : RCx PRG n 201 [.ref 97] σ none σ1) : liR TT i b D (fun j => ¬ (kdT TT j = 23 ∨ kdT TT j = 24)) σ σ1 := by
  refine h.by (Q := fun _ σ' => liR TT i b D (fun j => ¬ (kdT TT j = 23 ∨ kdT TT j = 24)) σ σ') (fun m d => ?_)
  have d61 : ∀ (m2 : Nat) (σ2 : Sg), liR TT i b D (fun j => ¬ (kdT TT j = 23 ∨ kdT TT j = 24)) σ σ2 → Pl PRG m2 d 201 61 [] [] σ2 (fun _ σ' => liR TT i b D (fun j => ¬ (kdT TT j = 23 ∨ kdT TT j = 24)) σ σ') := fun m2 σ2 hI => Pl.pos (fun m3 _ => p_201_61 σ2 hI)
  have d8 : ∀ (m2 : Nat) (x1 x2 : Int32) (σ2 : Sg), FRr σ σ2 → FAr TT σ2 → Pl PRG m2 d 201 8 [(0, .ref 97), (1, .int x1), (2, .int x2)] [] σ2 (fun _ σ' => liR TT i b D (fun j => ¬ (kdT TT j = 23 ∨ kdT TT j = 24)) σ σ') := fun m2 x1 x2 σ2 g1 g2 => Pl.pos (fun m3 _ => p_201_8 σ2 x1 x2 ⟨fun _ => d61 m3 σ2 ⟨g1, Or.inr g2⟩, fun _ => ⟨fun c => absurd c g2.pos.2.2, fun _ => d61 m3 σ2 ⟨g1, Or.inr g2⟩⟩⟩)
  have loop : ∀ (m2 : Nat) (j : Nat) (x1 : Int32) (σ2 : Sg), i < j → FRr σ σ2 → PRo TT j (evs TT j) 0 σ2 → pr TT j = .inr ((b, 0), D) → Pl PRG m2 d 201 8 [(0, .ref 97), (1, .int x1), (2, .int (1 : Int32))] [] σ2 (fun _ σ' => liR TT i b D (fun j => ¬ (kdT TT j = 23 ∨ kdT TT j = 24)) σ σ') := by
    intro m2
    induction m2 using Nat.strongRecOn with
    | _ m2 ih =>
      intro j x1 σ2 hij g1 g3 hsj
      refine Pl.pos (fun m3 hm3 => p_201_8 σ2 x1 1 ⟨fun c => absurd c (by decide), fun _ => ⟨fun _ σ3 h3 w3 σ4 h4 _ => ?_, fun c => absurd g3.2.2.1 c⟩⟩)
      obtain ⟨k1, k2⟩ := lit_r hW hb (hR.fr g1) g3 hsj h3
      have F := g1.trans k1
      rcases k2 with ⟨j', t1, t2, t3, t4, -⟩ | g
      · have hga : ∀ len, (kdT TT j' = 23 ∨ kdT TT j' = 24) → gs (b + 5) 0 len (kdT TT j') = .inr (b, 0) := fun len hk => by
          rw [hb.gs5]
          unfold ga
          rw [if_neg t4, if_neg (fun e => absurd e.2 (by decide)), if_pos rfl, if_pos hk]
        have at44 : ∀ (m4 : Nat), m4 < m2 → ∀ x, (kdT TT j' = 23 ∨ kdT TT j' = 24) → Pl PRG m4 d 201 44 [(0, .ref 97), (1, .int x)] [] σ3 (fun _ σ' => liR TT i b D (fun j => ¬ (kdT TT j = 23 ∨ kdT TT j = 24)) σ σ') := fun m4 hm4 x hk => Pl.pos (fun m5 hm5 => p_201_44 σ3 x (fun σ5 h5 => by
          obtain ⟨l1, l2⟩ := rc192 hW h5 (hR.fr F) t3 t2 (by show gs (b + 5) 0 _ _ = _; exact hga _ hk)
          rcases l2 with ⟨c1, c2⟩ | g
          · have hs2 := pr_next (q := (b, 0)) t2 (by show gs (b + 5) 0 _ _ = _; exact hga _ hk) c1
            rw [show updD ((b + 5, 0), D).1.1 (kdT TT j') j' ((b + 5, 0), D).2 = D from upd_id hb.r.ne.1 (by omega) (fun e => by omega)] at hs2
            have ev2 : evs TT (j' + 1) = evs TT j' := by rw [evs_step t2, evO_0 hb.r.eva, orE_none]
            rw [← ev2] at c2
            exact ih m5 (by omega) (j' + 1) x σ5 (by omega) (F.trans l1) c2 hs2
          · exact d8 m5 x 1 σ5 (F.trans l1) g))
        obtain ⟨rfl, e3⟩ := rc189 (b := 23) hW h4 (hR.fr F) t3 t2 (by decide)
        refine ⟨fun z w5 σ5 h5 _ => ?_, fun z => at44 m3 (by omega) _ (by rcases e3 with ⟨e, -⟩ | ⟨-, e⟩; exact absurd e z; exact Or.inl e)⟩
        obtain ⟨rfl, e5⟩ := rc189 (b := 24) hW h5 (hR.fr F) t3 t2 (by decide)
        refine ⟨fun z5 => ?_, fun z5 => at44 m3 (by omega) _ (by rcases e5 with ⟨e, -⟩ | ⟨-, e⟩; exact absurd e z5; exact Or.inr e)⟩
        have n23 : ¬ kdT TT j' = 23 := by rcases e3 with ⟨-, e⟩ | ⟨e, -⟩; exact e; rw [e] at z; exact absurd z (by decide)
        have n24 : ¬ kdT TT j' = 24 := by rcases e5 with ⟨-, e⟩ | ⟨e, -⟩; exact e; rw [e] at z5; exact absurd z5 (by decide)
        refine Pl.pos (fun m4 _ => p_201_8 _ _ 0 ⟨fun _ => d61 m4 _ ⟨F, Or.inl ⟨j', by omega, t2, t3, t4, ?_⟩⟩, fun c => absurd rfl c⟩)
        rintro (e | e)
        · exact n23 e
        · exact n24 e
      · obtain ⟨rfl, rfl⟩ := rd189 h4 g
        refine ⟨fun _ w5 σ5 h5 _ => ?_, fun c => absurd rfl c⟩
        obtain ⟨rfl, rfl⟩ := rd189 h5 g
        exact ⟨fun _ => d8 m3 _ 0 _ F g, fun c => absurd rfl c⟩
  refine p_201_0 σ (fun σ2 h2 => ?_)
  obtain ⟨k1, k2⟩ := rc192 hW h2 hR hP hs hq
  rcases k2 with ⟨c1, c2⟩ | g
  · have hs2 := pr_next hs hq c1
    rw [hD] at hs2
    have ev2 : evs TT (i + 1) = evs TT i := by rw [evs_step hs, evO_0 hev, orE_none]
    rw [← ev2] at c2
    exact loop m (i + 1) 1 σ2 (by omega) k1 c2 hs2
  · exact d8 m 1 1 σ2 k1 g
/-! what is told -/
def NMr (TT : List Tk) (D : DT) (σ : Sg) : Prop := ∀ (q : Nat) (e : Nat × Nat × Nat), D.2.2.1[q]? = some e → σ.2 105 q = n27T TT e.1
def PKr (TT : List Tk) (D : DT) (sd : Nat) (σ : Sg) : Prop := match D.2.2.2.1 with
  | none => σ.1 106 sd = 4 ∧ σ.1 107 sd = 4
  | some j => σ.1 106 sd = vlT TT j ∧ σ.1 107 sd = vlT TT (j + 1)
def TRr (TT : List Tk) (D : DT) (sd : Nat) (σ : Sg) : Prop := match D.2.2.2.2 with
  | none => σ.1 108 sd = -1
  | some j => σ.1 108 sd = vlT TT j
def CUr (TT : List Tk) (D : DT) (sd : Nat) (σ : Sg) : Prop := σ.1 109 sd = nI D.2.2.1.length ∧ ∀ (q : Nat) (e : Nat × Nat × Nat), D.2.2.1[q]? = some e → σ.1 110 (6 * sd + q) = vlT TT (e.1 + 1) ∧ σ.1 111 (6 * sd + q) = nI (kdT TT (e.1 + 2) - 18)
/-- names of customs are known: each completed custom's name is a NAME -/
def nmK (TT : List Tk) (D : DT) : Prop := ∀ e ∈ D.2.2.1, kdT TT e.1 = 2 ∧ e.1 < TT.length
def TIr (TT : List Tk) (i : Nat) (D : DT) (sd : Nat) (σ : Sg) : Prop := RQ TT σ ∧ PRo TT i (evs TT i) 0 σ ∧ pr TT i = .inr ((0, 0), D) ∧ NMr TT D σ ∧ σ.1 97 20 = nI D.2.2.1.length ∧ D.2.2.1.length ≤ 6 ∧ sd < 2 ∧ σ.1 97 19 = nI sd ∧ PKr TT D sd σ ∧ TRr TT D sd σ ∧ CUr TT D sd σ ∧ nmK TT D
def onR (TT : List Tk) (i sd : Nat) (σ1 : Sg) : Prop := (∃ j D, i < j ∧ TIr TT j D sd σ1) ∨ FAr TT σ1
