/-! more calls of the game, the reference -/
section Un
variable {l : LA} {o : Option GA} {n lv i : Nat} {x y z w : Int32} {σ σ1 : Sg}
theorem m216 (h : RCx PRG n 216 [.int x] σ (some (.int w)) σ1) : σ1 = σ ∧ ((w = 1 ∧ 0 ≤ x ∧ x < 4) ∨ (w = 0 ∧ ¬ (0 ≤ x ∧ x < 4))) := by
  have e3 : (x < 4) ↔ ¬ (3 : Int32) < x := by
    rw [Int32.lt_iff_toInt_lt, Int32.lt_iff_toInt_lt]
    have e4 : (4 : Int32).toInt = 4 := rfl
    have e3 : (3 : Int32).toInt = 3 := rfl
    omega
  obtain ⟨a, b⟩ := h.by (Q := fun v s' => s' = σ ∧ ((v = some (.int 1) ∧ 0 ≤ x ∧ x < 4) ∨ (v = some (.int 0) ∧ ¬ (0 ≤ x ∧ x < 4)))) (fun n d => p_216_0 σ x (fun w2 σ2 h2 _ _ => by
    obtain ⟨rfl, k⟩ := m195 h2
    rcases k with ⟨rfl, k1, k2⟩ | ⟨rfl, k⟩
    · exact ⟨rfl, Or.inl ⟨rfl, le_lt.mpr k1, e3.mpr k2⟩⟩
    · exact ⟨rfl, Or.inr ⟨rfl, fun h => by
        rcases k with k | k
        · exact le_lt.mp h.1 k
        · exact e3.mp h.2 k⟩⟩))
  refine ⟨a, ?_⟩
  rcases b with ⟨b, c⟩ | ⟨b, c⟩
  · cases b; exact Or.inl ⟨rfl, c⟩
  · cases b; exact Or.inr ⟨rfl, c⟩
theorem in_lt {N : Nat} (h1 : 1 ≤ N) (hN : N ≤ 100) {x : Int32} : (x < nI N) ↔ ¬ nI N - 1 < x := by
  rw [show nI N - 1 = nI (N - 1) from nI_subI (a := N) (b := 1) h1, Int32.lt_iff_toInt_lt, Int32.lt_iff_toInt_lt, nI_toInt (by omega), nI_toInt (by omega)]
  omega
theorem in_lt0 {x : Int32} : (¬ x < 0 ∧ ¬ nI 0 - 1 < x) ↔ False := by
  have e : nI 0 - 1 = (-1 : Int32) := by decide
  rw [e, Int32.lt_iff_toInt_lt, Int32.lt_iff_toInt_lt]
  have e0 : (0 : Int32).toInt = 0 := rfl
  have e1 : (-1 : Int32).toInt = -1 := rfl
  exact ⟨fun h => by omega, False.elim⟩
theorem in_N {N : Nat} (hN : N ≤ 100) {x : Int32} : (0 ≤ x ∧ x < nI N) ↔ (¬ x < 0 ∧ ¬ nI N - 1 < x) := by
  cases N with
  | zero =>
    rw [in_lt0]
    constructor
    · intro ⟨a, b⟩
      exact le_lt.mp a b
    · intro h; exact h.elim
  | succ N => rw [in_lt (by omega) hN, le_lt]
theorem m217 (h : RCx PRG n 217 [.ref 97, .int x] σ (some (.int w)) σ1) (hl : lV l) (hR : LR l.1 l.2.1 l.2.2.1 lv σ) : σ1 = σ ∧ ((w = 1 ∧ 0 ≤ x ∧ x < nI (l.1 * l.2.1)) ∨ (w = 0 ∧ ¬ (0 ≤ x ∧ x < nI (l.1 * l.2.1)))) := by
  have hN := hl.1.2.2.2.2.1
  obtain ⟨a, b⟩ := h.by (Q := fun v s' => s' = σ ∧ ((v = some (.int 1) ∧ 0 ≤ x ∧ x < nI (l.1 * l.2.1)) ∨ (v = some (.int 0) ∧ ¬ (0 ≤ x ∧ x < nI (l.1 * l.2.1))))) (fun n d => p_217_0 σ x (fun w2 σ2 h2 w4 σ4 h4 _ _ => by
    obtain ⟨rfl, rfl⟩ := m210 h2 hl.1 hR
    obtain ⟨rfl, k⟩ := m195 h4
    rcases k with ⟨rfl, k⟩ | ⟨rfl, k⟩
    · exact ⟨rfl, Or.inl ⟨rfl, (in_N (by omega)).mpr k⟩⟩
    · exact ⟨rfl, Or.inr ⟨rfl, fun h => by
        have := (in_N (by omega)).mp h
        rcases k with k | k
        · exact this.1 k
        · exact this.2 k⟩⟩))
  refine ⟨a, ?_⟩
  rcases b with ⟨b, c⟩ | ⟨b, c⟩
  · cases b; exact Or.inl ⟨rfl, c⟩
  · cases b; exact Or.inr ⟨rfl, c⟩
theorem u_lead (h : RCx PRG n 224 [.ref 97, .int x] σ (some (.int w)) σ1) (hl : lV l) (ho : rGo o σ) (hv : vG l o) : w = (fLead x o).1 ∧ rGo (fLead x o).2 σ1 ∧ rF σ σ1 := by
  have hN := hl.1.2.2.2.2.1
  obtain ⟨v, e, h1, h2⟩ := h.by (Q := fun v s' => ∃ w, v = some (.int w) ∧ w = (fLead x o).1 ∧ rGo (fLead x o).2 s' ∧ rF σ s') (fun n d => p_224_0 σ x (by
    cases o with
    | none => exact ⟨fun _ => Pl.pos (fun n2 _ => p_224_21 σ ⟨0, rfl, rfl, ho, rF.refl σ⟩), fun c => absurd ho.1 c⟩
    | some g =>
      have hG : rG g.1 g.2.1 g.2.2.1 g.2.2.2.1 g.2.2.2.2 σ := ho
      have hm : g.2.2.2.2 ≤ l.1 * l.2.1 := (show gV l.1 l.2.1 l.2.2.1 g.1 g.2.1 g.2.2.1 g.2.2.2.1 g.2.2.2.2 from hv).2.1
      rw [hG.1, hG.2.2.1]
      have no : ∀ n2, ¬ (g.2.2.2.2 = 0 ∧ 0 ≤ x ∧ x < 4) → Pl PRG n2 d 224 21 [] [] σ (fun v s' => ∃ w, v = some (.int w) ∧ w = (fLead x (some g)).1 ∧ rGo (fLead x (some g)).2 s' ∧ rF σ s') := fun n2 hb => Pl.pos (fun n3 _ => p_224_21 σ ⟨0, rfl, by rw [fLead_s, if_neg hb], by rw [fLead_s, if_neg hb]; exact ho, rF.refl σ⟩)
      refine ⟨fun c => absurd c (by decide), fun _ => ⟨fun c => no _ (fun h => ?_), fun c w2 σ2 h2 _ => ?_⟩⟩
      · rw [h.1] at c; exact absurd c (by decide)
      · obtain ⟨rfl, k⟩ := m216 h2
        have m0 : g.2.2.2.2 = 0 := by
          rcases Nat.eq_zero_or_pos g.2.2.2.2 with q | q
          · exact q
          · exact absurd (nI_lt (a := 0) q (by omega)) c
        refine ⟨fun z => no _ (fun h => ?_), fun z => ?_⟩
        · rcases k with ⟨e, -⟩ | ⟨-, q⟩
          · rw [e] at z; exact absurd z (by decide)
          · exact q h.2
        · rcases k with ⟨-, q⟩ | ⟨e, -⟩
          · refine ⟨1, rfl, by rw [fLead_s, if_pos ⟨m0, q⟩], ?_, (rF.refl _).put rfl (by omega)⟩
            rw [fLead_s, if_pos ⟨m0, q⟩]
            obtain ⟨g1, g2, g3, g4, g5⟩ := hG
            exact ⟨by rw [s1_off (by omega)]; exact g1, s1_on, by rw [s1_off (by omega)]; exact g3, fun p hp => by rw [s1_off (by omega)]; exact g4 p hp, fun i hi => ⟨by rw [s1_off (by omega)]; exact (g5 i hi).1, by rw [s1_off (by omega)]; exact (g5 i hi).2⟩⟩
          · exact absurd e z))
  cases e
  exact ⟨h1, h2⟩
theorem u_hand {p a : Int32} (h : RCx PRG n 227 [.ref 97, .int p, .int a] σ (some (.int w)) σ1) (hl : lV l) (ho : rGo o σ) (hv : vG l o) : σ1 = σ ∧ w = fHand p a o := by
  have hN := hl.1.2.2.2.2.1
  obtain ⟨e1, e2⟩ := h.by (Q := fun v s' => s' = σ ∧ v = some (.int (fHand p a o))) (fun n d => p_227_0 σ p a (by
    cases o with
    | none => exact ⟨fun _ => Pl.pos (fun n2 _ => p_227_14 σ ⟨rfl, rfl⟩), fun c => absurd ho.1 c⟩
    | some g =>
      have hG : rG g.1 g.2.1 g.2.2.1 g.2.2.2.1 g.2.2.2.2 σ := ho
      have hm : g.2.2.2.2 ≤ l.1 * l.2.1 := (show gV l.1 l.2.1 l.2.2.1 g.1 g.2.1 g.2.2.1 g.2.2.2.1 g.2.2.2.2 from hv).2.1
      rw [hG.1]
      refine ⟨fun c => absurd c (by decide), fun _ w2 σ2 h2 _ => ?_⟩
      obtain ⟨rfl, k⟩ := m216 h2
      rw [fHand_s]
      refine ⟨fun z => Pl.pos (fun n2 _ => p_227_14 σ2 ?_), fun z => ?_⟩
      · rcases k with ⟨e, -⟩ | ⟨-, q⟩
        · rw [e] at z; exact absurd z (by decide)
        · rw [if_neg q]; exact ⟨rfl, rfl⟩
      · rcases k with ⟨-, q⟩ | ⟨e, -⟩
        · obtain ⟨u, hu, e⟩ := nn_of (N := 4) (by decide) q.1 q.2
          rw [if_pos q, e, nI_clamp (by omega)]
          refine ⟨fun c w4 σ4 h4 => ?_, fun c _ => by rw [if_neg c, hG.2.2.2.1 u hu]; exact ⟨rfl, rfl⟩⟩
          obtain ⟨rfl, rfl⟩ := m226 h4 hG (by omega) hu
          rw [if_pos c]; exact ⟨rfl, rfl⟩
        · exact absurd e z))
  cases e2
  exact ⟨e1, rfl⟩
theorem mo230 (h : RCx PRG n 230 [.ref 97] σ (some (.int w)) σ1) (hl : lV l) (hR : LR l.1 l.2.1 l.2.2.1 lv σ) (ho : rGo o σ) (hv : vG l o) : σ1 = σ ∧ w = fTurn l o := by
  cases o with
  | none => exact m230N h ho
  | some g => exact m230 h hl.1 hR ho hv
theorem mo233 (h : RCx PRG n 233 [.ref 97] σ (some (.int w)) σ1) (hl : lV l) (hR : LR l.1 l.2.1 l.2.2.1 lv σ) (ho : rGo o σ) (hv : vG l o) : σ1 = σ ∧ w = fMay l o := by
  cases o with
  | none => exact m233N h ho
  | some g => exact m233 h hl.1 hR ho hv
theorem u_turn (h : RCx PRG n 231 [.ref 97] σ (some (.int w)) σ1) (hl : lV l) (hR : LR l.1 l.2.1 l.2.2.1 lv σ) (ho : rGo o σ) (hv : vG l o) : σ1 = σ ∧ w = fTurn l o := by
  obtain ⟨e1, e2⟩ := h.by (Q := fun v s' => s' = σ ∧ v = some (.int (fTurn l o))) (fun n d => p_231_0 σ (fun w2 σ2 h2 => by
    obtain ⟨rfl, rfl⟩ := mo230 h2 hl hR ho hv
    exact ⟨rfl, rfl⟩))
  cases e2
  exact ⟨e1, rfl⟩
theorem u_may (h : RCx PRG n 234 [.ref 97] σ (some (.int w)) σ1) (hl : lV l) (hR : LR l.1 l.2.1 l.2.2.1 lv σ) (ho : rGo o σ) (hv : vG l o) : σ1 = σ ∧ w = fMay l o := by
  obtain ⟨e1, e2⟩ := h.by (Q := fun v s' => s' = σ ∧ v = some (.int (fMay l o))) (fun n d => p_234_0 σ (fun w2 σ2 h2 => by
    obtain ⟨rfl, rfl⟩ := mo233 h2 hl hR ho hv
    exact ⟨rfl, rfl⟩))
  cases e2
  exact ⟨e1, rfl⟩
theorem m236 (h : RCx PRG n 236 [.ref 97, .int x] σ (some (.int w)) σ1) (hl : lV l) (hR : LR l.1 l.2.1 l.2.2.1 lv σ) (ho : rGo o σ) (hv : vG l o) : σ1 = σ ∧ ((w = 1 ∧ inO l x o = true) ∨ (w = 0 ∧ inO l x o = false)) := by
  have hN := hl.1.2.2.2.2.1
  obtain ⟨a, b⟩ := h.by (Q := fun v s' => s' = σ ∧ ((v = some (.int 1) ∧ inO l x o = true) ∨ (v = some (.int 0) ∧ inO l x o = false))) (fun n d => p_236_0 σ x (fun w2 σ2 h2 => by
    obtain ⟨rfl, rfl⟩ := mo230 h2 hl hR ho hv
    cases o with
    | none => exact ⟨fun _ => Pl.pos (fun n2 _ => p_236_34 _ ⟨rfl, Or.inr ⟨rfl, rfl⟩⟩), fun c => absurd (show (-2 : Int32) < 0 by decide) c⟩
    | some g =>
      have hG : rG g.1 g.2.1 g.2.2.1 g.2.2.2.1 g.2.2.2.2 σ2 := ho
      have hV : gV l.1 l.2.1 l.2.2.1 g.1 g.2.1 g.2.2.1 g.2.2.2.1 g.2.2.2.2 := hv
      have hm := hV.2.1
      show (tnG l g < 0 → Pl _ _ _ _ _ _ _ _ (fun v s' => s' = σ2 ∧ ((v = some (.int 1) ∧ inB l g x = true) ∨ (v = some (.int 0) ∧ inB l g x = false)))) ∧ _
      refine ⟨fun c => Pl.pos (fun n2 _ => p_236_34 _ ⟨rfl, Or.inr ⟨rfl, ?_⟩⟩), fun c w4 σ4 h4 _ => ?_⟩
      · unfold inB; rw [decide_eq_false (fun h => le_lt.mp h c)]; rfl
      · have c : ¬ tnG l g < 0 := c
        obtain ⟨rfl, k⟩ := m217 h4 hl hR
        have hlt : g.2.2.2.2 < l.1 * l.2.1 := by
          rcases Nat.lt_or_ge g.2.2.2.2 (l.1 * l.2.1) with q | q
          · exact q
          · have e : tnG l g = -2 := tn_end q
            rw [e] at c; exact absurd (by decide) c
        obtain ⟨p, hp, ep⟩ := hV.turn hlt
        have ep' : tnG l g = nI p := ep
        refine ⟨fun z => Pl.pos (fun n2 _ => p_236_34 _ ⟨rfl, Or.inr ⟨rfl, ?_⟩⟩), fun z w6 σ6 h6 => ?_⟩
        · rcases k with ⟨e, -⟩ | ⟨-, q⟩
          · rw [e] at z; exact absurd z (by decide)
          · show inB l g x = false
            unfold inB; rw [decide_eq_false q, Bool.false_and, Bool.and_false]
        · rcases k with ⟨-, q⟩ | ⟨e, -⟩
          · have h6' : RCx PRG n 226 [.ref 97, .int (nI p)] σ4 (some (.int w6)) σ6 := by rw [← ep']; exact h6
            obtain ⟨rfl, rfl⟩ := m226 h6' hG (by omega) hp
            obtain ⟨cc, hcc, ec⟩ := nn_of (by omega) q.1 q.2
            have sp : inB l g x = decide (¬ (hnF g.1 g.2.2.1 g.2.2.2.1 p g.2.2.2.2 >>> (x &&& 31)) &&& 1 = 0) := by
              unfold inB
              rw [decide_eq_true (le_lt.mpr c), decide_eq_true q, ep', nI_clamp (by omega), Bool.true_and, Bool.true_and]
            have sb := shr_bt (x := hnF g.1 g.2.2.1 g.2.2.2.1 p g.2.2.2.2) (c := x) (k := cc) (by rw [ec, nI_toInt (by omega)]) (by omega)
            refine ⟨fun c2 => ⟨rfl, Or.inl ⟨rfl, ?_⟩⟩, fun c2 => Pl.pos (fun n2 _ => p_236_34 _ ⟨rfl, Or.inr ⟨rfl, ?_⟩⟩)⟩
            · show inB l g x = true
              rw [sp]; exact decide_eq_true (by rw [c2]; decide)
            · show inB l g x = false
              rw [sp]; exact decide_eq_false (fun h => h (by
                rw [sb] at c2 ⊢
                split at c2
                · exact absurd rfl c2
                · rename_i q; rw [if_neg q]))
          · exact absurd e z))
  refine ⟨a, ?_⟩
  rcases b with ⟨b, c⟩ | ⟨b, c⟩
  · cases b; exact Or.inl ⟨rfl, c⟩
  · cases b; exact Or.inr ⟨rfl, c⟩
theorem mo235 {g : GA} (h : RCx PRG n 235 [.ref 97, .int (tnG l g), .int x] σ (some (.int w)) σ1) (hl : lV l) (ho : rGo (some g) σ) (hv : vG l (some g)) (hb : inB l g x = true) : w = nI (g.2.2.2.2 + 1) ∧ rGo (some (putG l g x)) σ1 ∧ rF σ σ1 := by
  have hN := hl.1.2.2.2.2.1
  obtain ⟨c, hc, ex, hm, -⟩ := inB_of hl hv hb
  obtain ⟨k1, k2, k3⟩ := m235 h ho (by omega)
  refine ⟨k1, k2, ?_⟩
  rw [k3]
  exact (((rF.refl σ).put rfl (by omega)).put rfl (by omega)).put rfl (by omega)
theorem u_play (h : RCx PRG n 237 [.ref 97, .int x] σ (some (.int w)) σ1) (hl : lV l) (hR : LR l.1 l.2.1 l.2.2.1 lv σ) (ho : rGo o σ) (hv : vG l o) : w = (fPlay l x o).1 ∧ rGo (fPlay l x o).2 σ1 ∧ rF σ σ1 := by
  obtain ⟨v, e, h1, h2⟩ := h.by (Q := fun v s' => ∃ w, v = some (.int w) ∧ w = (fPlay l x o).1 ∧ rGo (fPlay l x o).2 s' ∧ rF σ s') (fun n d => p_237_0 σ x (fun w2 σ2 h2 _ => by
    obtain ⟨rfl, k⟩ := m236 h2 hl hR ho hv
    refine ⟨fun z => ?_, fun z w4 σ4 h4 => ?_⟩
    · rcases k with ⟨e, -⟩ | ⟨-, q⟩
      · rw [e] at z; exact absurd z (by decide)
      · cases o with
        | none => exact ⟨_, rfl, rfl, ho, rF.refl _⟩
        | some g =>
          have q : inB l g x = false := q
          rw [fPlay_s, q]
          exact ⟨_, rfl, rfl, ho, rF.refl _⟩
    · rcases k with ⟨-, q⟩ | ⟨e, -⟩
      · obtain ⟨rfl, rfl⟩ := mo233 h4 hl hR ho hv
        cases o with
        | none => exact absurd q Bool.false_ne_true
        | some g =>
          have q : inB l g x = true := q
          have e0 : fPlay l x (some g) = if (myG l g >>> (x &&& 31)) &&& 1 = 0 then (-2, some g) else (nI (g.2.2.2.2 + 1), some (putG l g x)) := by
            rw [fPlay_s, q]; rfl
          rw [e0]
          show ((myG l g >>> (x &&& 31)) &&& 1 = 0 → _) ∧ _
          refine ⟨fun c => ?_, fun c w6 σ6 h6 w8 σ8 h8 => ?_⟩
          · rw [if_pos c]; exact ⟨_, rfl, rfl, ho, rF.refl _⟩
          · obtain ⟨rfl, rfl⟩ := mo230 h6 hl hR ho hv
            obtain ⟨k1, k2, k3⟩ := mo235 h8 hl ho hv q
            have c' : ¬ (myG l g >>> (x &&& 31)) &&& 1 = 0 := c
            rw [if_neg c', k1]
            exact ⟨_, rfl, rfl, k2, k3⟩
      · exact absurd e z))
  cases e
  exact ⟨h1, h2⟩
theorem u_rev (h : RCx PRG n 238 [.ref 97, .int x] σ (some (.int w)) σ1) (hl : lV l) (hR : LR l.1 l.2.1 l.2.2.1 lv σ) (ho : rGo o σ) (hv : vG l o) : w = (fRev l x o).1 ∧ rGo (fRev l x o).2 σ1 ∧ rF σ σ1 := by
  obtain ⟨v, e, h1, h2⟩ := h.by (Q := fun v s' => ∃ w, v = some (.int w) ∧ w = (fRev l x o).1 ∧ rGo (fRev l x o).2 s' ∧ rF σ s') (fun n d => p_238_0 σ x (fun w2 σ2 h2 _ => by
    obtain ⟨rfl, k⟩ := m236 h2 hl hR ho hv
    refine ⟨fun z => ?_, fun z w4 σ4 h4 w6 σ6 h6 => ?_⟩
    · rcases k with ⟨e, -⟩ | ⟨-, q⟩
      · rw [e] at z; exact absurd z (by decide)
      · cases o with
        | none => exact ⟨_, rfl, rfl, ho, rF.refl _⟩
        | some g =>
          have q : inB l g x = false := q
          rw [fRev_s, q]
          exact ⟨_, rfl, rfl, ho, rF.refl _⟩
    · rcases k with ⟨-, q⟩ | ⟨e, -⟩
      · obtain ⟨rfl, rfl⟩ := mo230 h4 hl hR ho hv
        cases o with
        | none => exact absurd q Bool.false_ne_true
        | some g =>
          have q : inB l g x = true := q
          have e0 : fRev l x (some g) = (nI (g.2.2.2.2 + 1), some (putG l g x)) := by
            rw [fRev_s, q]; rfl
          obtain ⟨k1, k2, k3⟩ := mo235 h6 hl ho hv q
          rw [e0, k1]
          exact ⟨_, rfl, rfl, k2, k3⟩
      · exact absurd e z))
  cases e
  exact ⟨h1, h2⟩
theorem u_undo (h : RCx PRG n 239 [.ref 97] σ (some (.int w)) σ1) (hl : lV l) (ho : rGo o σ) (hv : vG l o) : w = (fUndo o).1 ∧ rGo (fUndo o).2 σ1 ∧ rF σ σ1 := by
  have hN := hl.1.2.2.2.2.1
  obtain ⟨v, e, h1, h2⟩ := h.by (Q := fun v s' => ∃ w, v = some (.int w) ∧ w = (fUndo o).1 ∧ rGo (fUndo o).2 s' ∧ rF σ s') (fun n d => p_239_0 σ (by
    cases o with
    | none => exact ⟨fun _ => ⟨_, rfl, rfl, ho, rF.refl σ⟩, fun c => absurd ho.2 c⟩
    | some g =>
      obtain ⟨D, ld, C, W, m⟩ := g
      have hG : rG D ld C W m σ := ho
      have hm : m ≤ l.1 * l.2.1 := (show gV l.1 l.2.1 l.2.2.1 D ld C W m from hv).2.1
      rw [hG.2.2.1]
      refine ⟨fun c => ?_, fun c => ?_⟩
      · have m0 : m = 0 := (nI_eq (b := 0) (by omega) (by decide)).mp c
        subst m0
        exact ⟨_, rfl, rfl, ho, rF.refl σ⟩
      · cases m with
        | zero => exact absurd rfl c
        | succ m =>
          rw [nI_pred]
          obtain ⟨g1, g2, g3, g4, g5⟩ := hG
          refine ⟨_, rfl, rfl, ⟨?_, ?_, s1_on, fun p hp => ?_, fun i hi => ?_⟩, (rF.refl _).put rfl (by omega)⟩
          · rw [s1_off (by omega)]; exact g1
          · rw [s1_off (by omega)]; exact g2
          · rw [s1_off (by omega)]; exact g4 p hp
          · have hi : i < m := hi
            exact ⟨by rw [s1_off (by omega)]; exact (g5 i (by omega)).1, by rw [s1_off (by omega)]; exact (g5 i (by omega)).2⟩))
  cases e
  exact ⟨h1, h2⟩
theorem br_01 {s r : Nat} {D C W : Nat → Int32} {i : Nat} : brF s r D C W i = 0 ∨ brF s r D C W i = 1 := by
  unfold brF
  split
  · exact Or.inr rfl
  · exact Or.inl rfl
theorem u_card {i : Int32} (h : RCx PRG n 244 [.ref 97, .int i, .int x] σ (some (.int w)) σ1) (hl : lV l) (hR : LR l.1 l.2.1 l.2.2.1 lv σ) (ho : rGo o σ) (hv : vG l o) : σ1 = σ ∧ w = fCard l i x o := by
  have hN := hl.1.2.2.2.2.1
  obtain ⟨e1, e2⟩ := h.by (Q := fun v s' => s' = σ ∧ v = some (.int (fCard l i x o))) (fun n d => p_244_0 σ i x (by
    cases o with
    | none => exact ⟨fun _ => Pl.pos (fun n2 _ => p_244_21 σ ⟨rfl, rfl⟩), fun c => absurd ho.1 c⟩
    | some g =>
      have hG : rG g.1 g.2.1 g.2.2.1 g.2.2.2.1 g.2.2.2.2 σ := ho
      have hV : gV l.1 l.2.1 l.2.2.1 g.1 g.2.1 g.2.2.1 g.2.2.2.1 g.2.2.2.2 := hv
      have hm := hV.2.1
      rw [hG.1, hG.2.2.1]
      refine ⟨fun c => absurd c (by decide), fun _ w2 σ2 h2 _ => ?_⟩
      obtain ⟨rfl, k⟩ := m195 h2
      rw [fCard_s]
      refine ⟨fun z => Pl.pos (fun n2 _ => p_244_21 _ ?_), fun z => ?_⟩
      · rcases k with ⟨e, -⟩ | ⟨-, q⟩
        · rw [e] at z; exact absurd z (by decide)
        · rw [if_neg (fun h => by
            have := (in_N (by omega)).mp h
            rcases q with q | q
            · exact this.1 q
            · exact this.2 q)]
          exact ⟨rfl, rfl⟩
      · rcases k with ⟨-, q⟩ | ⟨e, -⟩
        · have hq := (in_N (by omega)).mpr q
          obtain ⟨k, hk, rfl⟩ := nn_of (by omega) hq.1 hq.2
          obtain ⟨d1, d2⟩ := hG.2.2.2.2 k hk
          rw [if_pos hq, nI_clamp (by omega)]
          refine ⟨fun q => ?_, fun q _ => ?_, fun q _ => ?_, fun q w4 σ4 h4 => ?_, fun q w4 σ4 h4 => ?_, fun q w4 σ4 h4 _ => ?_, fun q w4 σ4 h4 => ?_⟩
          · rw [cd_0 q]; exact ⟨rfl, rfl⟩
          · obtain rfl := i32_of q (by decide) (by decide)
            rw [d1]; exact ⟨rfl, rfl⟩
          · obtain rfl := i32_of q (by decide) (by decide)
            rw [d2]; exact ⟨rfl, rfl⟩
          · obtain rfl := i32_of q (by decide) (by decide)
            obtain ⟨rfl, rfl⟩ := m240 h4 hl.1 hR hG hV.2.2.1 hk (by omega)
            exact ⟨rfl, rfl⟩
          · obtain rfl := i32_of q (by decide) (by decide)
            obtain ⟨rfl, rfl⟩ := m241 h4 hR hG hk (by omega)
            exact ⟨rfl, rfl⟩
          · obtain rfl := i32_of q (by decide) (by decide)
            obtain ⟨rfl, rfl⟩ := m242 h4 hl.1 hR hG hV hk
            show (brF l.1 l.2.1 g.1 g.2.2.1 g.2.2.2.1 k = 0 → _ ∧ some (Value.int 0) = some (Value.int (brF l.1 l.2.1 g.1 g.2.2.1 g.2.2.2.1 k))) ∧ (_ → _ ∧ some (Value.int 1) = some (Value.int (brF l.1 l.2.1 g.1 g.2.2.1 g.2.2.2.1 k)))
            rcases br_01 (s := l.1) (r := l.2.1) (D := g.1) (C := g.2.2.1) (W := g.2.2.2.1) (i := k) with b | b
            · rw [b]; exact ⟨fun _ => ⟨rfl, rfl⟩, fun c => absurd rfl c⟩
            · rw [b]; exact ⟨fun c => absurd c (by decide), fun _ => ⟨rfl, rfl⟩⟩
          · obtain rfl := i32_of q (by decide) (by decide)
            obtain ⟨rfl, rfl⟩ := m243 h4 hl.1 hR hG hV hk
            exact ⟨rfl, rfl⟩
        · exact absurd e z))
  cases e2
  exact ⟨e1, rfl⟩
theorem and1_2 : ∀ w, w < 4 → nI w - nI w / (2 : Int32) * (2 : Int32) = nI w &&& (1 : Int32) := by decide
theorem in_1 {x : Int32} : (0 ≤ x ∧ x ≤ 1) ↔ (¬ x < 0 ∧ ¬ (1 : Int32) < x) := by rw [le_lt, le_lt]
theorem u_tricks (h : RCx PRG n 245 [.ref 97, .int x] σ (some (.int w)) σ1) (hl : lV l) (hR : LR l.1 l.2.1 l.2.2.1 lv σ) (ho : rGo o σ) (hv : vG l o) : σ1 = σ ∧ w = fTricks l x o := by
  have hN := hl.1.2.2.2.2.1
  obtain ⟨e1, e2⟩ := h.by (Q := fun v s' => s' = σ ∧ v = some (.int (fTricks l x o))) (fun n d => p_245_0 σ x (fun w2 σ2 h2 _ => by
    obtain ⟨rfl, k⟩ := m195 h2
    unfold fTricks
    refine ⟨fun z => ?_, fun z => ?_⟩
    · rcases k with ⟨e, -⟩ | ⟨-, q⟩
      · rw [e] at z; exact absurd z (by decide)
      · rw [if_neg (fun h => by
          have := in_1.mp h
          rcases q with q | q
          · exact this.1 q
          · exact this.2 q)]
        exact ⟨rfl, rfl⟩
    · rcases k with ⟨-, q⟩ | ⟨e, -⟩
      · rw [if_pos (in_1.mpr q)]
        cases o with
        | none =>
          refine Pl.pos (fun n2 _ => p_245_15 _ x 0 0 ?_)
          rw [ho.2]
          exact ⟨fun _ => ⟨rfl, rfl⟩, fun c => absurd (by decide) c⟩
        | some g =>
          have hG : rG g.1 g.2.1 g.2.2.1 g.2.2.2.1 g.2.2.2.2 σ2 := ho
          have hV : gV l.1 l.2.1 l.2.2.1 g.1 g.2.1 g.2.2.1 g.2.2.2.1 g.2.2.2.2 := hv
          have hm := hV.2.1
          have loop : ∀ d n k, k ≤ g.2.2.2.2 / 4 → Pl PRG n d 245 15 [(0, .ref 97), (1, .int x), (2, .int (woF l.2.1 l.2.2.1 g.2.2.1 g.2.2.2.1 x k)), (3, .int (nI k))] [] σ2 (fun v s' => s' = σ2 ∧ v = some (.int (woF l.2.1 l.2.2.1 g.2.2.1 g.2.2.2.1 x (g.2.2.2.2 / 4)))) := by
            intro d n
            induction n using Nat.strongRecOn with
            | _ n ih =>
              intro k hk
              refine Pl.pos (fun n1 h1 => p_245_15 σ2 x _ (nI k) ?_)
              rw [hG.2.2.1, div_4 (by omega)]
              refine ⟨fun c => ?_, fun c w4 σ4 h4 => ?_⟩
              · have := (nI_leI (a := g.2.2.2.2 / 4) (b := k) (by omega) (by omega)).mp c
                have e : k = g.2.2.2.2 / 4 := by omega
                rw [e]; exact ⟨rfl, rfl⟩
              · have hlt := nle_of (a := g.2.2.2.2 / 4) (b := k) (by omega) (by omega) c
                obtain ⟨rfl, rfl⟩ := m229 h4 hR hG (by omega) (by omega)
                have hr := bsF_rg (r := l.2.1) (t := l.2.2.1) (C := g.2.2.1) (4 * k) 3
                obtain ⟨u, hu, eu⟩ := hV.2.2.2.2.1 (bsF l.2.1 l.2.2.1 g.2.2.1 (4 * k) 3) (by omega)
                rw [eu, and1_2 u hu, ← eu]
                refine ⟨fun c2 => Pl.pos (fun n2 h2 => p_245_39 _ _ _ _ ?_), fun c2 => Pl.pos (fun n2 h2 => p_245_39 _ _ _ _ ?_)⟩
                · have := ih n2 (by omega) (k + 1) (by omega)
                  rw [show woF l.2.1 l.2.2.1 g.2.2.1 g.2.2.2.1 x (k + 1) = woF l.2.1 l.2.2.1 g.2.2.1 g.2.2.2.1 x k + 1 from if_pos c2] at this
                  rw [nI_1]; exact this
                · have := ih n2 (by omega) (k + 1) (by omega)
                  rw [show woF l.2.1 l.2.2.1 g.2.2.1 g.2.2.2.1 x (k + 1) = woF l.2.1 l.2.2.1 g.2.2.1 g.2.2.2.1 x k from if_neg c2] at this
                  rw [nI_1]; exact this
          exact loop d n 0 (Nat.zero_le _)
      · exact absurd e z))
  cases e2
  exact ⟨e1, rfl⟩
theorem u_winner (h : RCx PRG n 246 [.ref 97, .int x] σ (some (.int w)) σ1) (hl : lV l) (hR : LR l.1 l.2.1 l.2.2.1 lv σ) (ho : rGo o σ) (hv : vG l o) : σ1 = σ ∧ w = fWin l x o := by
  have hN := hl.1.2.2.2.2.1
  obtain ⟨e1, e2⟩ := h.by (Q := fun v s' => s' = σ ∧ v = some (.int (fWin l x o))) (fun n d => p_246_0 σ x (fun w2 σ2 h2 _ => by
    cases o with
    | none =>
      rw [ho.2] at h2
      obtain ⟨rfl, k⟩ := m195 h2
      refine ⟨fun _ => ⟨rfl, rfl⟩, fun z => ?_⟩
      rcases k with ⟨-, q⟩ | ⟨e, -⟩
      · exact absurd q (fun q => in_lt0.mp q)
      · exact absurd e z
    | some g =>
      have hG : rG g.1 g.2.1 g.2.2.1 g.2.2.2.1 g.2.2.2.2 σ := ho
      have hV : gV l.1 l.2.1 l.2.2.1 g.1 g.2.1 g.2.2.1 g.2.2.2.1 g.2.2.2.2 := hv
      have hm := hV.2.1
      rw [hG.2.2.1, div_4 (by omega)] at h2
      obtain ⟨rfl, k⟩ := m195 h2
      rw [fWin_s]
      refine ⟨fun z => ?_, fun z w4 σ4 h4 => ?_⟩
      · rcases k with ⟨e, -⟩ | ⟨-, q⟩
        · rw [e] at z; exact absurd z (by decide)
        · rw [if_neg (fun h => by
            have := (in_N (by omega)).mp h
            rcases q with q | q
            · exact this.1 q
            · exact this.2 q)]
          exact ⟨rfl, rfl⟩
      · rcases k with ⟨-, q⟩ | ⟨e, -⟩
        · have hq := (in_N (by omega)).mpr q
          obtain ⟨k, hk, rfl⟩ := nn_of (by omega) hq.1 hq.2
          obtain ⟨rfl, rfl⟩ := m229 h4 hR hG (by omega) (by omega)
          rw [if_pos hq, nI_clamp (by omega)]
          exact ⟨rfl, rfl⟩
        · exact absurd e z))
  cases e2
  exact ⟨e1, rfl⟩
theorem in_2 {x : Int32} : (0 ≤ x ∧ x ≤ 2) ↔ (¬ x < 0 ∧ ¬ (2 : Int32) < x) := by rw [le_lt, le_lt]
/-- the first trick in which a revoke shows, as the reference holds it -/
def rvQ (l : LA) (g : GA) (k : Nat) : Int32 := if rvS l g k = 0 then -2 else rvF l g k
theorem rvF_rg {l : LA} {g : GA} (hm : g.2.2.2.2 ≤ 16) : ∀ k, k ≤ g.2.2.2.2 → ∃ j, j ≤ 16 ∧ rvF l g k = nI j ∧ (rvS l g k = 0 → j = 16) := by
  intro k
  induction k with
  | zero => intro _; exact ⟨16, by decide, rfl, fun _ => rfl⟩
  | succ k ih =>
    intro hk
    obtain ⟨j, hj, ej, hz⟩ := ih (by omega)
    by_cases c : shG l g k < 0
    · exact ⟨j, hj, by rw [show rvF l g (k + 1) = rvF l g k from if_pos c]; exact ej, by rw [show rvS l g (k + 1) = rvS l g k from if_pos c]; exact hz⟩
    · have e : rvF l g (k + 1) = if shG l g k / 4 < rvF l g k then shG l g k / 4 else rvF l g k := if_neg c
      have e2 : rvS l g (k + 1) = rvS l g k + 1 := if_neg c
      rw [e, e2]
      rcases shG_rg (l := l) hm (show k < g.2.2.2.2 by omega) with h | ⟨u, hu, eu⟩
      · rw [h] at c; exact absurd (by decide) c
      · rw [eu, div_4 (by omega)]
        split
        · exact ⟨u / 4, by omega, rfl, fun h => absurd h (by omega)⟩
        · exact ⟨j, hj, ej, fun h => absurd h (by omega)⟩
theorem rvS_0 {l : LA} {g : GA} : ∀ k, rvS l g k = 0 → rvF l g k = 16 := by
  intro k
  induction k with
  | zero => intro _; rfl
  | succ k ih =>
    intro h
    by_cases c : shG l g k < 0
    · rw [show rvF l g (k + 1) = rvF l g k from if_pos c]
      rw [show rvS l g (k + 1) = rvS l g k from if_pos c] at h
      exact ih h
    · rw [show rvS l g (k + 1) = rvS l g k + 1 from if_neg c] at h
      omega
theorem u_revokes (h : RCx PRG n 247 [.ref 97, .int x] σ (some (.int w)) σ1) (hl : lV l) (hR : LR l.1 l.2.1 l.2.2.1 lv σ) (ho : rGo o σ) (hv : vG l o) : σ1 = σ ∧ w = fRevs l x o := by
  have hN := hl.1.2.2.2.2.1
  obtain ⟨e1, e2⟩ := h.by (Q := fun v s' => s' = σ ∧ v = some (.int (fRevs l x o))) (fun n d => p_247_0 σ x (fun w2 σ2 h2 _ => by
    obtain ⟨rfl, k⟩ := m195 h2
    unfold fRevs
    refine ⟨fun z => ?_, fun z => ?_⟩
    · rcases k with ⟨e, -⟩ | ⟨-, q⟩
      · rw [e] at z; exact absurd z (by decide)
      · rw [if_neg (fun h => by
          have := in_2.mp h
          rcases q with q | q
          · exact this.1 q
          · exact this.2 q)]
        exact ⟨rfl, rfl⟩
    · rcases k with ⟨-, q⟩ | ⟨e, -⟩
      · have hq := in_2.mpr q
        rw [if_pos hq]
        have hx := x_cases hq.1 hq.2
        cases o with
        | none =>
          refine Pl.pos (fun n2 _ => p_247_22 _ x 0 0 (-2) 0 ?_)
          rw [ho.2]
          refine ⟨fun _ => ⟨fun z => by rw [z]; exact ⟨rfl, rfl⟩, fun z => ⟨fun z1 => by rw [z1]; exact ⟨rfl, rfl⟩, fun z1 => ⟨rfl, by rcases hx with e | e | e <;> first | exact absurd e z | exact absurd e z1 | (rw [e]; rfl)⟩⟩⟩, fun c => absurd (by decide) c⟩
        | some g =>
          have hG : rG g.1 g.2.1 g.2.2.1 g.2.2.2.1 g.2.2.2.2 σ2 := ho
          have hV : gV l.1 l.2.1 l.2.2.1 g.1 g.2.1 g.2.2.1 g.2.2.2.1 g.2.2.2.2 := hv
          have hm := hV.2.1
          show Pl _ _ _ _ _ _ _ _ (fun v s' => s' = σ2 ∧ v = some (.int (if x = 0 then rvB l g g.2.2.2.2 else if x = 1 then nI (rvS l g g.2.2.2.2) else rvQ l g g.2.2.2.2)))
          have loop : ∀ d n k, k ≤ g.2.2.2.2 → Pl PRG n d 247 22 [(0, .ref 97), (1, .int x), (2, .int (rvB l g k)), (3, .int (nI (rvS l g k))), (4, .int (rvQ l g k)), (5, .int (nI k))] [] σ2 (fun v s' => s' = σ2 ∧ v = some (.int (if x = 0 then rvB l g g.2.2.2.2 else if x = 1 then nI (rvS l g g.2.2.2.2) else rvQ l g g.2.2.2.2))) := by
            intro d n
            induction n using Nat.strongRecOn with
            | _ n ih =>
              intro k hk
              have hle := rvS_le (l := l) (g := g) k
              refine Pl.pos (fun n1 h1 => p_247_22 σ2 x _ _ _ (nI k) ?_)
              rw [hG.2.2.1]
              refine ⟨fun c => ?_, fun c w4 σ4 h4 _ => ?_⟩
              · have := (nI_leI (a := g.2.2.2.2) (b := k) (by omega) (by omega)).mp c
                have e : k = g.2.2.2.2 := by omega
                rw [e]
                exact ⟨fun z => by rw [if_pos z]; exact ⟨rfl, rfl⟩, fun z => ⟨fun z1 => by rw [if_neg z, if_pos z1]; exact ⟨rfl, rfl⟩, fun z1 => by rw [if_neg z, if_neg z1]; exact ⟨rfl, rfl⟩⟩⟩
              · have hlt := nle_of (a := g.2.2.2.2) (b := k) (by omega) (by omega) c
                obtain ⟨rfl, rfl⟩ := m242 h4 hl.1 hR hG hV hlt
                have next : ∀ n2 b u f, n2 < n → b = rvB l g (k + 1) → u = nI (rvS l g (k + 1)) → f = rvQ l g (k + 1) → Pl PRG n2 d 247 85 [(0, .ref 97), (1, .int x), (2, .int b), (3, .int u), (4, .int f), (5, .int (nI k))] [] σ4 (fun v s' => s' = σ4 ∧ v = some (.int (if x = 0 then rvB l g g.2.2.2.2 else if x = 1 then nI (rvS l g g.2.2.2.2) else rvQ l g g.2.2.2.2))) := fun n2 b u f h2 hb hu hf => Pl.pos (fun n3 h3 => p_247_85 _ _ _ _ _ _ (by
                  rw [nI_1, hb, hu, hf]
                  exact ih n3 (by omega) (k + 1) (by omega)))
                have eb : rvB l g (k + 1) = rvB l g k + brF l.1 l.2.1 g.1 g.2.2.1 g.2.2.2.1 k := rfl
                rcases br_01 (s := l.1) (r := l.2.1) (D := g.1) (C := g.2.2.1) (W := g.2.2.2.1) (i := k) with b | b
                · have es : shG l g k = -2 := if_pos b
                  have neg : shG l g k < 0 := by rw [es]; decide
                  rw [b]
                  refine ⟨fun _ => next n1 _ _ _ (by omega) (by rw [eb, b, Int32.add_zero]) (by rw [show rvS l g (k + 1) = rvS l g k from if_pos neg]) (by unfold rvQ; rw [show rvS l g (k + 1) = rvS l g k from if_pos neg, show rvF l g (k + 1) = rvF l g k from if_pos neg]), fun c => absurd rfl c⟩
                · rw [b]
                  refine ⟨fun c => absurd c (by decide), fun _ w6 σ6 h6 => ?_⟩
                  obtain ⟨rfl, rfl⟩ := m243 h6 hl.1 hR hG hV hlt
                  have eb2 : rvB l g k + 1 = rvB l g (k + 1) := by rw [eb, b]
                  show (0 ≤ shG l g k → (_ → Pl _ _ _ _ _ [(0, .ref 97), (1, .int x), (2, .int (rvB l g k + 1)), (3, .int (nI (rvS l g k) + 1)), (5, .int (nI k)), (6, .int (shG l g k))] _ _ _) ∧ (_ → (rvQ l g k ≤ shG l g k / 4 → _) ∧ (_ → Pl _ _ _ _ _ [(0, .ref 97), (1, .int x), (2, .int (rvB l g k + 1)), (3, .int (nI (rvS l g k) + 1)), (5, .int (nI k)), (6, .int (shG l g k))] _ _ _))) ∧ (¬ 0 ≤ shG l g k → _)
                  refine ⟨fun c2 => ?_, fun c2 => ?_⟩
                  · have nneg : ¬ shG l g k < 0 := le_lt.mp c2
                    have e1 : rvS l g (k + 1) = rvS l g k + 1 := if_neg nneg
                    have e2 : rvF l g (k + 1) = if shG l g k / 4 < rvF l g k then shG l g k / 4 else rvF l g k := if_neg nneg
                    have eq : rvQ l g (k + 1) = if shG l g k / 4 < rvF l g k then shG l g k / 4 else rvF l g k := by
                      unfold rvQ; rw [e1, if_neg (by omega), e2]
                    have take : ∀ n2, n2 < n → shG l g k / 4 < rvF l g k → Pl PRG n2 d 247 79 [(0, .ref 97), (1, .int x), (2, .int (rvB l g k + 1)), (3, .int (nI (rvS l g k) + 1)), (5, .int (nI k)), (6, .int (shG l g k))] [] σ6 (fun v s' => s' = σ6 ∧ v = some (.int (if x = 0 then rvB l g g.2.2.2.2 else if x = 1 then nI (rvS l g g.2.2.2.2) else rvQ l g g.2.2.2.2))) := fun n2 h2 hlt2 => Pl.pos (fun n3 h3 => p_247_79 _ _ _ _ _ _ (next n3 _ _ _ (by omega) eb2 (by rw [nI_1, e1]) (by rw [eq, if_pos hlt2])))
                    have sg : ∃ u, u < 16 ∧ shG l g k = nI u := by
                      rcases shG_rg (l := l) (by omega : g.2.2.2.2 ≤ 16) hlt with h | h
                      · rw [h] at nneg; exact absurd (by decide) nneg
                      · exact h
                    obtain ⟨u, hu, eu⟩ := sg
                    by_cases s0 : rvS l g k = 0
                    · have eQ : rvQ l g k = -2 := if_pos s0
                      have eF := rvS_0 k s0
                      refine ⟨fun _ => take n1 (by omega) ?_, fun c3 => absurd (by rw [eQ]; decide) c3⟩
                      rw [eF, eu, div_4 (by omega)]
                      exact nI_lt (a := u / 4) (b := 16) (by omega) (by decide)
                    · have eQ : rvQ l g k = rvF l g k := if_neg s0
                      obtain ⟨j, hj, ej, -⟩ := rvF_rg (l := l) (by omega : g.2.2.2.2 ≤ 16) k (by omega)
                      rw [eQ]
                      refine ⟨fun c3 => absurd c3 (by rw [ej]; exact nI_pos (by omega)), fun _ => ⟨fun c4 => next n1 _ _ _ (by omega) eb2 (by rw [nI_1, e1]) (by rw [eq, if_neg (le_lt.mp c4)]), fun c4 => take n1 (by omega) (Decidable.not_not.mp (fun h => c4 (le_lt.mpr h)))⟩⟩
                  · have neg : shG l g k < 0 := Decidable.not_not.mp (fun h => c2 (le_lt.mpr h))
                    exact next n1 _ _ _ (by omega) eb2 (by rw [show rvS l g (k + 1) = rvS l g k from if_pos neg]) (by unfold rvQ; rw [show rvS l g (k + 1) = rvS l g k from if_pos neg, show rvF l g (k + 1) = rvF l g k from if_pos neg])
          exact loop d n 0 (Nat.zero_le _)
      · exact absurd e z))
  cases e2
  exact ⟨e1, rfl⟩
end Un
