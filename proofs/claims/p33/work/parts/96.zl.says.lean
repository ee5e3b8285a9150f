/-! says and lies, as they are asked -/
def cuB (l : LA) (y : Int32) : Bool := decide (0 ≤ y ∧ y < (1 : Int32) <<< (nI l.2.2.2.1 &&& 31))
def apG (l : LA) (PP : PPt) (g : GA) (i : Nat) : Int32 := apI l.2.1 l.2.2.2.1 l.2.2.2.2.2 l.2.2.2.2.1 PP g.2.2.1 g.2.2.2.1 i
def lyG (l : LA) (PP : PPt) (g : GA) (i : Nat) : Int32 := lyI l.1 l.2.1 l.2.2.1 l.2.2.2.1 l.2.2.2.2.2 l.2.2.2.2.1 PP g.1 g.2.2.1 g.2.2.2.1 i
def adG (l : LA) (PP : PPt) : Option GA → Sg → Prop
  | none, _ => True
  | some g, σ => ∀ i, i < g.2.2.2.2 → σ.1 31 i = apG l PP g i ∧ σ.1 32 i = lyG l PP g i
def lyN (l : LA) (PP : PPt) (g : GA) (x : Int32) : Int32 := lyF PP (vsX l.1 l.2.1 l.2.2.1 x (ldG l.2.1 g.2.2.1 g.2.2.2.2) (nI (g.2.2.2.2 / 4)) (bfF l.2.1 g.2.2.1 g.2.2.2.1 (tnG l g) (suF l.2.1 x) g.2.2.2.2) (hnF g.1 g.2.2.1 g.2.2.2.1 (tnG l g).toNatClampNeg g.2.2.2.2)) (apF l.2.2.2.2.2 l.2.2.2.2.1 PP (vaX l.2.1 x (ldG l.2.1 g.2.2.1 g.2.2.2.2) (nI (g.2.2.2.2 / 4)) (bfF l.2.1 g.2.2.1 g.2.2.2.1 (tnG l g) (suF l.2.1 x) g.2.2.2.2)) (kdG l.2.1 x (ldG l.2.1 g.2.2.1 g.2.2.2.2)) (tnG l g &&& 1) l.2.2.2.1) l.2.2.2.1
def fSays (l : LA) (PP : PPt) (i y z : Int32) : Option GA → Int32
  | none => -1
  | some g => if (0 ≤ i ∧ i < nI g.2.2.2.2) ∧ cuB l y = true ∧ 0 ≤ z ∧ z ≤ 1 then y &&& (if z = 0 then apG l PP g i.toNatClampNeg else lyG l PP g i.toNatClampNeg) else -1
def fLies (l : LA) (PP : PPt) (x : Int32) : Option GA → Int32
  | none => -1
  | some g => if 0 ≤ tnG l g ∧ (0 ≤ x ∧ x < nI (l.1 * l.2.1)) ∧ ¬ (myG l g >>> (x &&& 31)) &&& 1 = 0 then lyN l PP g x else -1
def jCl (l : LA) (PP : PPt) (σ : Sg) : Prop := cpC l.2.2.2.1 PP σ
def jMl (l : LA) (lv : Nat) (PP : PPt) (σ : Sg) : Prop := jM l.1 l.2.1 l.2.2.1 lv l.2.2.2.1 l.2.2.2.2.2 l.2.2.2.2.1 PP σ
theorem pred_lt {m : Nat} (hm : m ≤ 100) {i : Int32} : (nI m - 1 < i) ↔ ¬ i < nI m := by
  have e : (nI m - 1 : Int32).toInt = (m : Int) - 1 := by
    rcases Nat.eq_zero_or_pos m with e | e
    · subst e; decide
    · rw [show (nI m - 1 : Int32) = nI (m - 1) from nI_subI (a := m) (b := 1) (by omega), nI_toInt (by omega)]
      omega
  rw [Int32.lt_iff_toInt_lt, Int32.lt_iff_toInt_lt, nI_toInt (by omega), e]
  omega
theorem sh_nI : ∀ k, k < 7 → ((1 : Int32) <<< (nI k &&& 31)) = nI (2 ^ k) ∧ 2 ^ k ≤ 64 := by decide
section Sy
variable {l : LA} {o : Option GA} {PP : PPt} {n lv : Nat} {x w i y z : Int32} {σ σ1 : Sg}
theorem rc143 (h : RCx PRG n 143 [.ref 0, .int x] σ (some (.int w)) σ1) (hC : lC l σ) : σ1 = σ ∧ ((w = 1 ∧ cuB l x = true) ∨ (w = 0 ∧ cuB l x = false)) := by
  obtain ⟨a, b⟩ := h.by (Q := fun v s' => s' = σ ∧ ((v = some (.int 1) ∧ cuB l x = true) ∨ (v = some (.int 0) ∧ cuB l x = false))) (fun m d => p_143_0 σ x (by
    rw [hC.2.1]
    refine ⟨fun c => Pl.pos (fun m2 _ => p_143_21 σ ⟨rfl, Or.inr ⟨rfl, decide_eq_false (fun q => le_lt.mp q.1 c)⟩⟩), fun c => ⟨fun c2 => Pl.pos (fun m2 _ => p_143_21 σ ⟨rfl, Or.inr ⟨rfl, decide_eq_false (fun q => le_lt.mp c2 q.2)⟩⟩), fun c2 => ⟨rfl, Or.inl ⟨rfl, decide_eq_true ⟨le_lt.mpr c, Decidable.of_not_not (fun q => c2 (le_lt.mpr q))⟩⟩⟩⟩⟩))
  refine ⟨a, ?_⟩
  rcases b with ⟨b, c⟩ | ⟨b, c⟩
  · cases b; exact Or.inl ⟨rfl, c⟩
  · cases b; exact Or.inr ⟨rfl, c⟩
theorem m218 (h : RCx PRG n 218 [.ref 97, .int x] σ (some (.int w)) σ1) (hl : lV l) (hM : jMl l lv PP σ) : σ1 = σ ∧ ((w = 1 ∧ cuB l x = true) ∨ (w = 0 ∧ cuB l x = false)) := by
  obtain ⟨-, -, h2, h18, h109, -⟩ := hM
  obtain ⟨a, b⟩ := h.by (Q := fun v s' => s' = σ ∧ ((v = some (.int 1) ∧ cuB l x = true) ∨ (v = some (.int 0) ∧ cuB l x = false))) (fun m d => p_218_0 σ x (fun _ w2 σ2 h2' _ _ => by
    rw [h18, nI_clamp (by omega), h109] at h2'
    obtain ⟨e, k⟩ := m195 h2'
    obtain ⟨e1, e2⟩ := sh_nI l.2.2.2.1 (by have := hl.2; omega)
    refine ⟨e, ?_⟩
    rcases k with ⟨rfl, k1, k2⟩ | ⟨rfl, k⟩
    · refine Or.inl ⟨rfl, decide_eq_true ⟨le_lt.mpr k1, ?_⟩⟩
      rw [e1] at k2 ⊢
      exact Decidable.of_not_not (fun q => k2 ((pred_lt (by omega)).mpr q))
    · refine Or.inr ⟨rfl, decide_eq_false (fun q => ?_)⟩
      rcases k with k | k
      · exact le_lt.mp q.1 k
      · rw [e1] at k q
        exact (pred_lt (by omega)).mp k q.2))
  refine ⟨a, ?_⟩
  rcases b with ⟨b, c⟩ | ⟨b, c⟩
  · cases b; exact Or.inl ⟨rfl, c⟩
  · cases b; exact Or.inr ⟨rfl, c⟩
theorem t_says (h : RCx PRG n 144 [.ref 0, .int i, .int y, .int z] σ (some (.int w)) σ1) (hl : lV l) (hC : lC l σ) (ho : cG22 l o σ) (hv : vG l o) (ha : adG l PP o σ) : σ1 = σ ∧ w = fSays l PP i y z o := by
  obtain ⟨a, b⟩ := h.by (Q := fun v s' => s' = σ ∧ v = some (.int (fSays l PP i y z o))) (fun m d => p_144_0 σ i y z (by
    have bad : ∀ (σ2 : Sg), σ2 = σ → fSays l PP i y z o = -1 → Pl PRG m d 144 32 [] [] σ2 (fun v s' => s' = σ ∧ v = some (.int (fSays l PP i y z o))) := fun σ2 e e2 => Pl.pos (fun m3 _ => p_144_32 σ2 ⟨e, by rw [e2]⟩)
    cases o with
    | none =>
      have e7 : σ.1 22 7 = 0 := ho.2.2
      rw [e7]
      exact ⟨fun _ => bad σ rfl rfl, fun c => ⟨fun _ => bad σ rfl rfl, fun c2 => absurd (le_lt.mpr c) c2⟩⟩
    | some g =>
      have hG : gC22 l.1 l.2.1 l.2.2.1 g.1 g.2.1 g.2.2.1 g.2.2.2.1 g.2.2.2.2 σ := ho
      have hV : gV l.1 l.2.1 l.2.2.1 g.1 g.2.1 g.2.2.1 g.2.2.2.1 g.2.2.2.2 := hv
      have hm := hV.2.1
      have hN := hl.1.2.2.2.2.1
      have e7 : σ.1 22 7 = nI g.2.2.2.2 := hG.2.2.2.1
      rw [e7]
      have no : ¬ ((0 ≤ i ∧ i < nI g.2.2.2.2) ∧ cuB l y = true ∧ 0 ≤ z ∧ z ≤ 1) → fSays l PP i y z (some g) = -1 := fun q => if_neg q
      refine ⟨fun c => bad σ rfl (no (fun q => le_lt.mp q.1.1 c)), fun c => ⟨fun c2 => bad σ rfl (no (fun q => le_lt.mp c2 q.1.2)), fun c2 w2 σ2 h2 _ => ?_⟩⟩
      obtain ⟨rfl, k⟩ := rc143 h2 hC
      have c0 : 0 ≤ i ∧ i < nI g.2.2.2.2 := ⟨le_lt.mpr c, Decidable.of_not_not (fun q => c2 (le_lt.mpr q))⟩
      obtain ⟨j, hj, ej⟩ := nn_of (by omega) c0.1 c0.2
      refine ⟨fun zz => bad σ2 rfl (no (fun q => ?_)), fun zz => ?_⟩
      · rcases k with ⟨e, -⟩ | ⟨-, e⟩
        · rw [e] at zz; exact absurd zz (by decide)
        · rw [q.2.1] at e; cases e
      · have hy : cuB l y = true := by
          rcases k with ⟨-, e⟩ | ⟨e, -⟩
          · exact e
          · exact absurd e zz
        refine ⟨fun c3 => bad σ2 rfl (no (fun q => le_lt.mp q.2.2.1 c3)), fun c3 => ⟨fun c4 => ⟨fun c5 _ => ⟨rfl, ?_⟩, fun c5 _ => ⟨rfl, ?_⟩⟩, fun c4 => bad σ2 rfl (no (fun q => c4 q.2.2.2))⟩⟩
        · have e0 : fSays l PP i y z (some g) = y &&& (if z = 0 then apG l PP g i.toNatClampNeg else lyG l PP g i.toNatClampNeg) := if_pos ⟨c0, hy, le_lt.mpr c3, c4⟩
          rw [e0, if_pos c5, ej, nI_clamp (by omega), (ha j hj).1]
        · have e0 : fSays l PP i y z (some g) = y &&& (if z = 0 then apG l PP g i.toNatClampNeg else lyG l PP g i.toNatClampNeg) := if_pos ⟨c0, hy, le_lt.mpr c3, c4⟩
          rw [e0, if_neg c5, ej, nI_clamp (by omega), (ha j hj).2]))
  cases b
  exact ⟨a, rfl⟩
theorem i_and (a b : Int32) : a &&& b = b &&& a := by
  apply bt_ext
  intro i _
  rw [bt_and, bt_and, Bool.and_comm]
theorem u_says (h : RCx PRG n 256 [.ref 97, .int i, .int y, .int z] σ (some (.int w)) σ1) (hl : lV l) (hM : jMl l lv PP σ) (hP : gPP l.2.2.2.1 PP) (ho : rGo o σ) (hv : vG l o) : jA σ σ1 ∧ w = fSays l PP i y z o := by
  obtain ⟨w', ew, a, b⟩ := h.by (Q := fun v s' => ∃ w : Int32, v = some (.int w) ∧ jA σ s' ∧ w = fSays l PP i y z o) (fun m d => p_256_0 σ i y z (by
    have bad : ∀ (σ2 : Sg), σ2 = σ → fSays l PP i y z o = -1 → Pl PRG m d 256 38 [] [] σ2 (fun v s' => ∃ w : Int32, v = some (.int w) ∧ jA σ s' ∧ w = fSays l PP i y z o) := fun σ2 e e2 => Pl.pos (fun m3 _ => p_256_38 σ2 ⟨_, rfl, by rw [e]; exact jA.refl σ, by rw [e2]⟩)
    cases o with
    | none =>
      have e45 : σ.1 97 45 = 0 := ho.1
      exact ⟨fun _ => bad σ rfl rfl, fun c => absurd e45 c⟩
    | some g =>
      have hG : rG g.1 g.2.1 g.2.2.1 g.2.2.2.1 g.2.2.2.2 σ := ho
      have hV : gV l.1 l.2.1 l.2.2.1 g.1 g.2.1 g.2.2.1 g.2.2.2.1 g.2.2.2.2 := hv
      have hm := hV.2.1
      have hN := hl.1.2.2.2.2.1
      have no : ¬ ((0 ≤ i ∧ i < nI g.2.2.2.2) ∧ cuB l y = true ∧ 0 ≤ z ∧ z ≤ 1) → fSays l PP i y z (some g) = -1 := fun q => if_neg q
      refine ⟨fun c => absurd (hG.1.symm.trans c) (by decide), fun _ w2 σ2 h2 _ => ?_⟩
      rw [hG.2.2.1] at h2
      obtain ⟨rfl, k2⟩ := m195 h2
      refine ⟨fun z2 => bad σ2 rfl (no (fun q => ?_)), fun z2 w4 σ4 h4 _ => ?_⟩
      · rcases k2 with ⟨e, -⟩ | ⟨-, e | e⟩
        · rw [e] at z2; exact absurd z2 (by decide)
        · exact le_lt.mp q.1.1 e
        · exact (pred_lt (by omega)).mp e q.1.2
      have c0 : 0 ≤ i ∧ i < nI g.2.2.2.2 := by
        rcases k2 with ⟨-, e, e'⟩ | ⟨e, -⟩
        · exact ⟨le_lt.mpr e, Decidable.of_not_not (fun q => e' ((pred_lt (by omega)).mpr q))⟩
        · exact absurd e z2
      obtain ⟨rfl, k4⟩ := m218 h4 hl hM
      refine ⟨fun z4 => bad σ4 rfl (no (fun q => ?_)), fun z4 w6 σ6 h6 _ => ?_⟩
      · rcases k4 with ⟨e, -⟩ | ⟨-, e⟩
        · rw [e] at z4; exact absurd z4 (by decide)
        · rw [q.2.1] at e; cases e
      have hy : cuB l y = true := by
        rcases k4 with ⟨-, e⟩ | ⟨e, -⟩
        · exact e
        · exact absurd e z4
      obtain ⟨rfl, k6⟩ := m195 h6
      refine ⟨fun z6 => bad σ6 rfl (no (fun q => ?_)), fun z6 w8 σ8 h8 => ?_⟩
      · rcases k6 with ⟨e, -⟩ | ⟨-, e | e⟩
        · rw [e] at z6; exact absurd z6 (by decide)
        · exact le_lt.mp q.2.2.1 e
        · exact le_lt.mp q.2.2.2 e
      have hz : 0 ≤ z ∧ z ≤ 1 := by
        rcases k6 with ⟨-, e, e'⟩ | ⟨e, -⟩
        · exact ⟨le_lt.mpr e, le_lt.mpr e'⟩
        · exact absurd e z6
      obtain ⟨j, hj, ej⟩ := nn_of (by omega) c0.1 c0.2
      have e0 : fSays l PP i y z (some g) = y &&& (if z = 0 then apG l PP g i.toNatClampNeg else lyG l PP g i.toNatClampNeg) := if_pos ⟨c0, hy, hz.1, hz.2⟩
      rw [e0]
      subst ej
      obtain ⟨f8, e8, v8⟩ := m255 h8 hl.1 hM hP hG hV hj
      refine ⟨fun c5 => ⟨_, rfl, f8, ?_⟩, fun c5 _ _ _ w10 σ10 h10 w12 σ12 h12 => ?_⟩
      · rw [if_pos c5, e8, nI_clamp (by omega), i_and]; rfl
      · have G8 := hG.ja f8
        obtain ⟨p, hp, ep⟩ := hV.2.2.2.2.1 j hj
        rw [nI_clamp (n := j) (by omega), (G8.2.2.2.2 j hj).2] at h10 h12
        rw [(G8.2.2.2.2 j hj).1, ep, nI_clamp (n := p) (by omega), G8.2.2.2.1 p hp] at h12
        obtain ⟨rfl, rfl⟩ := m225 h10 G8 (by omega) (by omega)
        rw [e8] at h12
        obtain ⟨f12, e12⟩ := m254g h12 hl.1 (hM.ja f8) hP hV hj v8
        refine ⟨_, rfl, f8.trans f12, ?_⟩
        rw [if_neg c5, e12, nI_clamp (by omega), i_and]
        unfold lyG lyI
        rw [ep, nI_clamp (n := p) (by omega)]
        rfl))
  cases ew
  exact ⟨a, b⟩
def mpB (l : LA) (x : Int32) (o : Option GA) : Bool := decide (0 ≤ x ∧ x < nI (l.1 * l.2.1)) && decide (¬ (fMay l o >>> (x &&& 31)) &&& 1 = 0)
theorem rc155 (h : RCx PRG n 155 [.ref 0, .int x] σ (some (.int w)) σ1) (hl : lV l) (hC : lC l σ) (ho : cG22 l o σ) (hv : vG l o) : σ1 = σ ∧ ((w = 1 ∧ mpB l x o = true) ∨ (w = 0 ∧ mpB l x o = false)) := by
  obtain ⟨a, b⟩ := h.by (Q := fun v s' => s' = σ ∧ ((v = some (.int 1) ∧ mpB l x o = true) ∨ (v = some (.int 0) ∧ mpB l x o = false))) (fun m d => p_155_0 σ x (fun w2 σ2 h2 _ => by
    obtain ⟨rfl, k⟩ := rc134 h2 hC
    refine ⟨fun zz => Pl.pos (fun m2 _ => p_155_26 σ2 ⟨rfl, Or.inr ⟨rfl, ?_⟩⟩), fun zz w4 σ4 h4 => ?_⟩
    · rcases k with ⟨e, -⟩ | ⟨-, e⟩
      · rw [e] at zz; exact absurd zz (by decide)
      · unfold mpB; rw [decide_eq_false e]; rfl
    · have hx : 0 ≤ x ∧ x < nI (l.1 * l.2.1) := by
        rcases k with ⟨-, e⟩ | ⟨e, -⟩
        · exact e
        · exact absurd e zz
      obtain ⟨rfl, rfl⟩ := rc35 h4 hl hC ho hv
      refine ⟨fun c => Pl.pos (fun m2 _ => p_155_26 σ4 ⟨rfl, Or.inr ⟨rfl, ?_⟩⟩), fun c => ⟨rfl, Or.inl ⟨rfl, ?_⟩⟩⟩
      · unfold mpB; rw [decide_eq_true hx, decide_eq_false (fun q => q c)]; rfl
      · unfold mpB; rw [decide_eq_true hx, decide_eq_true c]; rfl))
  refine ⟨a, ?_⟩
  rcases b with ⟨b, c⟩ | ⟨b, c⟩
  · cases b; exact Or.inl ⟨rfl, c⟩
  · cases b; exact Or.inr ⟨rfl, c⟩
theorem t_lies (h : RCx PRG n 162 [.ref 0, .int x] σ (some (.int w)) σ1) (hl : lV l) (hC : lC l σ) (hc : jCl l PP σ) (hP : gPP l.2.2.2.1 PP) (ho : cG22 l o σ) (hv : vG l o) : exc [13, 14] σ σ1 ∧ w = fLies l PP x o := by
  obtain ⟨w', ew, a, b⟩ := h.by (Q := fun v s' => ∃ w : Int32, v = some (.int w) ∧ exc [13, 14] σ s' ∧ w = fLies l PP x o) (fun m d => p_162_0 σ x (by
    have bad : ∀ (σ2 : Sg), σ2 = σ → fLies l PP x o = -1 → Pl PRG m d 162 18 [] [] σ2 (fun v s' => ∃ w : Int32, v = some (.int w) ∧ exc [13, 14] σ s' ∧ w = fLies l PP x o) := fun σ2 e e2 => Pl.pos (fun m3 _ => p_162_18 σ2 ⟨_, rfl, by rw [e]; exact exc.refl σ, by rw [e2]⟩)
    cases o with
    | none =>
      have e6 : σ.1 22 6 = -2 := ho.2.1
      rw [e6]
      exact ⟨fun _ => bad σ rfl rfl, fun c => absurd (by decide) c⟩
    | some g =>
      have hG : gC22 l.1 l.2.1 l.2.2.1 g.1 g.2.1 g.2.2.1 g.2.2.2.1 g.2.2.2.2 σ := ho
      have hV : gV l.1 l.2.1 l.2.2.1 g.1 g.2.1 g.2.2.1 g.2.2.2.1 g.2.2.2.2 := hv
      have hN := hl.1.2.2.2.2.1
      have e6 : σ.1 22 6 = tnG l g := hG.2.2.1
      rw [e6]
      have no : ¬ (0 ≤ tnG l g ∧ (0 ≤ x ∧ x < nI (l.1 * l.2.1)) ∧ ¬ (myG l g >>> (x &&& 31)) &&& 1 = 0) → fLies l PP x (some g) = -1 := fun q => if_neg q
      refine ⟨fun c => bad σ rfl (no (fun q => le_lt.mp q.1 c)), fun c w2 σ2 h2 _ => ?_⟩
      obtain ⟨rfl, k⟩ := rc155 h2 hl hC ho hv
      refine ⟨fun zz => bad σ2 rfl (no (fun q => ?_)), fun zz w4 σ4 h4 => ?_⟩
      · rcases k with ⟨e, -⟩ | ⟨-, e⟩
        · rw [e] at zz; exact absurd zz (by decide)
        · unfold mpB at e
          rw [decide_eq_true q.2.1, show fMay l (some g) = myG l g from rfl, decide_eq_true q.2.2] at e
          cases e
      · have hq : (0 ≤ x ∧ x < nI (l.1 * l.2.1)) ∧ ¬ (myG l g >>> (x &&& 31)) &&& 1 = 0 := by
          rcases k with ⟨-, e⟩ | ⟨e, -⟩
          · unfold mpB at e
            rw [Bool.and_eq_true] at e
            exact ⟨of_decide_eq_true e.1, of_decide_eq_true e.2⟩
          · exact absurd e zz
        have hlt : g.2.2.2.2 < l.1 * l.2.1 := by
          rcases Nat.lt_or_ge g.2.2.2.2 (l.1 * l.2.1) with q | q
          · exact q
          · have e : tnG l g = -2 := tn_end q
            rw [e] at c; exact absurd (by decide) c
        obtain ⟨p, hp, ep⟩ := hV.turn hlt
        have ep' : tnG l g = nI p := ep
        obtain ⟨cx, hcx, ecx⟩ := nn_of (by omega) hq.1.1 hq.1.2
        obtain ⟨f4, e4⟩ := g22_40 h4 hl.1 ⟨hC.1, hc, hC.2⟩ hP hG hV ⟨cx, hcx, ecx⟩ hp ep
        have e0 : fLies l PP x (some g) = lyN l PP g x := if_pos ⟨le_lt.mpr c, hq⟩
        refine ⟨_, rfl, f4, ?_⟩
        rw [e0, e4]
        unfold lyN
        rw [ep', nI_clamp (n := p) (by omega)]))
  cases ew
  exact ⟨a, b⟩
theorem u_lies (h : RCx PRG n 301 [.ref 97, .int x] σ (some (.int w)) σ1) (hl : lV l) (hM : jMl l lv PP σ) (hP : gPP l.2.2.2.1 PP) (ho : rGo o σ) (hv : vG l o) : jA σ σ1 ∧ w = fLies l PP x o := by
  obtain ⟨w', ew, a, b⟩ := h.by (Q := fun v s' => ∃ w : Int32, v = some (.int w) ∧ jA σ s' ∧ w = fLies l PP x o) (fun m d => p_301_0 σ x (fun w2 σ2 h2 => by
    have bad : ∀ (σ2 : Sg), σ2 = σ → fLies l PP x o = -1 → Pl PRG m d 301 26 [] [] σ2 (fun v s' => ∃ w : Int32, v = some (.int w) ∧ jA σ s' ∧ w = fLies l PP x o) := fun σ2 e e2 => Pl.pos (fun m3 _ => p_301_26 σ2 ⟨_, rfl, by rw [e]; exact jA.refl σ, by rw [e2]⟩)
    cases o with
    | none =>
      obtain ⟨rfl, rfl⟩ := m230N h2 ho
      exact ⟨fun _ => bad σ2 rfl rfl, fun c => absurd (by decide) c⟩
    | some g =>
      have hG : rG g.1 g.2.1 g.2.2.1 g.2.2.2.1 g.2.2.2.2 σ := ho
      have hV : gV l.1 l.2.1 l.2.2.1 g.1 g.2.1 g.2.2.1 g.2.2.2.1 g.2.2.2.2 := hv
      have hN := hl.1.2.2.2.2.1
      obtain ⟨rfl, rfl⟩ := m230 h2 hl.1 hM.1 hG hV
      have no : ¬ (0 ≤ tnG l g ∧ (0 ≤ x ∧ x < nI (l.1 * l.2.1)) ∧ ¬ (myG l g >>> (x &&& 31)) &&& 1 = 0) → fLies l PP x (some g) = -1 := fun q => if_neg q
      refine ⟨fun c => bad σ2 rfl (no (fun q => le_lt.mp q.1 c)), fun c w4 σ4 h4 _ => ?_⟩
      obtain ⟨rfl, k⟩ := m217 h4 hl hM.1
      refine ⟨fun zz => bad σ4 rfl (no (fun q => ?_)), fun zz w6 σ6 h6 => ?_⟩
      · rcases k with ⟨e, -⟩ | ⟨-, e⟩
        · rw [e] at zz; exact absurd zz (by decide)
        · exact e q.2.1
      have hx : 0 ≤ x ∧ x < nI (l.1 * l.2.1) := by
        rcases k with ⟨-, e⟩ | ⟨e, -⟩
        · exact e
        · exact absurd e zz
      obtain ⟨rfl, rfl⟩ := m233 h6 hl.1 hM.1 hG hV
      refine ⟨fun c2 => bad σ6 rfl (no (fun q => q.2.2 c2)), fun c2 _ w8 σ8 h8 => ?_⟩
      have hlt : g.2.2.2.2 < l.1 * l.2.1 := by
        rcases Nat.lt_or_ge g.2.2.2.2 (l.1 * l.2.1) with q | q
        · exact q
        · rw [tn_end q] at c; exact absurd (by decide) c
      obtain ⟨p, hp, ep⟩ := hV.turn hlt
      have ep' : tnG l g = nI p := ep
      obtain ⟨cx, hcx, ecx⟩ := nn_of (by omega) hx.1 hx.2
      rw [hM.2.2.2.1, nI_clamp (by have := hM.2.2.1; omega), hM.2.2.2.2.1, ecx] at h8
      obtain ⟨f8, e8⟩ := m300 h8 hl.1 hM hP hG hV hcx hp ep
      have e0 : fLies l PP x (some g) = lyN l PP g x := if_pos ⟨le_lt.mpr c, hx, c2⟩
      refine ⟨_, rfl, f8, ?_⟩
      rw [e0, e8]
      unfold lyN
      rw [ep', nI_clamp (n := p) (by omega), ecx]))
  cases ew
  exact ⟨a, b⟩
end Sy
