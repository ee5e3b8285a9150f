/-! customs and texts, written by the class -/
theorem co_fst_len {m dp c k : Nat} {v : Int32} {s : PS} {q : Nat × Nat} (hg : gs m dp c k = .inr q) : (psS m k v s).2.2.2.2.2 = s.2.2.2.2.2 ∨ (m = 25 ∧ k = 4 ∧ ∃ d, (psS m k v s).2.2.2.2.2 = s.2.2.2.2.2 ++ [d]) := by
  have u2 : ∀ k, (uniX k v s).2.2 = s.2.2 := fun k => by
    unfold uniX
    split
    · rfl
    · split
      · rfl
      · split <;> rfl
  unfold psS
  split
  · exact Or.inl rfl
  · split
    · split
      · exact Or.inl rfl
      · rw [u2]; exact Or.inl rfl
    · split
      · rw [u2]; exact Or.inl rfl
      · split
        · exact Or.inl rfl
        · split
          · split
            · exact Or.inl rfl
            · rw [aft_2]; exact Or.inl rfl
          · split
            · rename_i hm
              split
              · exact Or.inl rfl
              · rename_i n1
                split
                · exact Or.inl rfl
                · rename_i n2
                  split
                  · rename_i e4
                    rcases hm with e | e
                    · exfalso
                      subst e e4
                      have hg' : ga 15 14 dp 4 (if (4 : Nat) = 23 ∨ (4 : Nat) = 24 then .inr (10, 0) else if (4 : Nat) = 22 then .inr (20, 0) else .inl 1) = .inr q := hg
                      unfold ga at hg'
                      rw [if_neg (by decide), if_neg (fun e => absurd e.1 (by decide))] at hg'
                      split at hg'
                      · cases hg'
                      · cases hg'
                    · exact Or.inr ⟨e, e4, _, rfl⟩
                  · rw [aft_2]; exact Or.inl rfl
            · exact Or.inl rfl
theorem upd_len {m k i : Nat} {D : DT} : (updD m k i D).2.2.1 = D.2.2.1 ∨ (m = 25 ∧ k = 4 ∧ ∃ e, (updD m k i D).2.2.1 = D.2.2.1 ++ [e]) := by
  unfold updD
  split
  · exact Or.inl rfl
  · split
    · exact Or.inl rfl
    · split
      · rename_i c; exact Or.inr ⟨c.1, c.2, _, rfl⟩
      · split
        · exact Or.inl rfl
        · split <;> exact Or.inl rfl
theorem upd_25 {i : Nat} {D : DT} : ∃ e, (updD 25 4 i D).2.2.1 = D.2.2.1 ++ [e] := by
  unfold updD
  rw [if_neg (by decide), if_neg (by decide), if_pos (by decide)]
  exact ⟨_, rfl⟩
/-- as many programs as customs -/
theorem ps_len {TT : List Tk} : ∀ i s, pr TT i = .inr s → (psT TT i).2.2.2.2.2.length = s.2.2.2.1.length := by
  intro i
  induction i with
  | zero => intro s h; cases h; rfl
  | succ i ih =>
    intro s' hp
    cases hpi : pr TT i with
    | inl f =>
      have hp' : (match pr TT i with
        | .inr s => st1 s (kdT TT i) i
        | .inl f => .inl f) = .inr s' := hp
      rw [hpi] at hp'
      cases hp'
    | inr s =>
      have hp' : (match pr TT i with
        | .inr s => st1 s (kdT TT i) i
        | .inl f => .inl f) = .inr s' := hp
      rw [hpi] at hp'
      have hp' : st1 s (kdT TT i) i = .inr s' := hp'
      have h0 := ih s hpi
      unfold st1 at hp'
      split at hp'
      · cases hp'
      · rename_i q hq
        split at hp'
        · cases hp'
        · cases hp'
          rw [ps_next hpi]
          show (psS s.1.1 (kdT TT i) (vlT TT i) (psT TT i)).2.2.2.2.2.length = (updD s.1.1 (kdT TT i) i s.2).2.2.1.length
          rcases co_fst_len (v := vlT TT i) (s := psT TT i) hq with e | ⟨e1, e2, d, e3⟩
          · rcases upd_len (m := s.1.1) (k := kdT TT i) (i := i) (D := s.2) with g | ⟨g1, g2, -⟩
            · rw [e, g]; exact h0
            · exfalso
              rw [g1, g2] at e
              have e' : (psT TT i).2.2.2.2.2 ++ [((psT TT i).2.2.2.2.1, litX (psT TT i))] = (psT TT i).2.2.2.2.2 := e
              have := congrArg List.length e'
              rw [List.length_append] at this
              have e1 : [((psT TT i).2.2.2.2.1, litX (psT TT i))].length = 1 := rfl
              omega
          · obtain ⟨x, hx⟩ := upd_25 (i := i) (D := s.2)
            rw [e3, e1, e2, hx, List.length_append, List.length_append, h0]
            rfl
/-- programs stay -/
theorem ps_keep {TT : List Tk} : ∀ k i s s', pr TT i = .inr s → pr TT (i + k) = .inr s' → ∃ l, (psT TT (i + k)).2.2.2.2.2 = (psT TT i).2.2.2.2.2 ++ l := by
  intro k
  induction k with
  | zero => intro i s s' _ _; exact ⟨[], (List.append_nil _).symm⟩
  | succ k ih =>
    intro i s s' h h'
    cases hpi : pr TT (i + k) with
    | inl f =>
      have hp' : (match pr TT (i + k) with
        | .inr s => st1 s (kdT TT (i + k)) (i + k)
        | .inl f => .inl f) = .inr s' := h'
      rw [hpi] at hp'
      cases hp'
    | inr s2 =>
      have hp' : (match pr TT (i + k) with
        | .inr s => st1 s (kdT TT (i + k)) (i + k)
        | .inl f => .inl f) = .inr s' := h'
      rw [hpi] at hp'
      have hp' : st1 s2 (kdT TT (i + k)) (i + k) = .inr s' := hp'
      obtain ⟨l, hl⟩ := ih i s s2 h hpi
      unfold st1 at hp'
      split at hp'
      · cases hp'
      · rename_i q hq
        have e : psT TT (i + (k + 1)) = psS s2.1.1 (kdT TT (i + k)) (vlT TT (i + k)) (psT TT (i + k)) := ps_next hpi
        rw [e]
        rcases co_fst_len (v := vlT TT (i + k)) (s := psT TT (i + k)) hq with e | ⟨e1, e2, d, e3⟩
        · exact ⟨l, by rw [e, hl]⟩
        · exact ⟨l ++ [d], by rw [e3, hl, List.append_assoc]⟩
theorem ps_same {TT : List Tk} {i j : Nat} {s s' : GSt} (hij : i ≤ j) (h : pr TT i = .inr s) (h' : pr TT j = .inr s') (hl : s.2.2.2.1.length = s'.2.2.2.1.length) : (psT TT j).2.2.2.2.2 = (psT TT i).2.2.2.2.2 := by
  obtain ⟨k, rfl⟩ : ∃ k, j = i + k := ⟨j - i, by omega⟩
  obtain ⟨l, hl2⟩ := ps_keep k i s s' h h'
  have l1 := ps_len i s h
  have l2 := ps_len (i + k) s' h'
  have := congrArg List.length hl2
  rw [List.length_append] at this
  have : l.length = 0 := by omega
  rw [hl2, List.length_eq_zero_iff.mp this, List.append_nil]
section Te
variable {n : Nat} {σ σ1 : Sg} {v : Option Value}
theorem te104 (h : RCx PRG n 104 [.ref 15] σ v σ1) : FRe σ σ1 := by
  refine h.by (Q := fun _ σ' => FRe σ σ') (fun m d => p_104_0 σ (fun w2 σ2 h2 _ => ?_))
  have f2 := te101 h2
  have at99 : ∀ m σ3, FRe σ σ3 → Pl PRG m d 104 99 [] [] σ3 (fun _ σ' => FRe σ σ') := fun m σ3 hf => Pl.pos (fun m2 _ => p_104_99 σ3 hf)
  have at68 : ∀ m σ3 x y, FRe σ σ3 → Pl PRG m d 104 68 [(0, .ref 15), (1, .int x), (2, .int y)] [] σ3 (fun _ σ' => FRe σ σ') := fun m σ3 x y hf => Pl.pos (fun m2 _ => p_104_68 σ3 x y (fun w4 σ4 h4 _ => ⟨fun _ => at99 m2 σ4 (hf.trans (te101 h4)), fun _ => ⟨fun _ => at99 m2 σ4 (hf.trans (te101 h4)), fun _ => at99 m2 _ (((hf.trans (te101 h4)).put3 (by decide)).put3 (by decide))⟩⟩))
  have at57 : ∀ m σ3 x y, FRe σ σ3 → Pl PRG m d 104 57 [(0, .ref 15), (1, .int x), (2, .int y)] [] σ3 (fun _ σ' => FRe σ σ') := fun m σ3 x y hf => Pl.pos (fun m2 _ => p_104_57 σ3 x y (fun σ4 h4 => at68 m2 σ4 x y (hf.trans (te102 h4))))
  refine ⟨fun _ => f2, fun _ w4 σ4 h4 => ⟨fun _ => f2.trans (te103 h4), fun _ w6 σ6 h6 => ?_⟩⟩
  have f6 := (f2.trans (te103 h4)).trans (te103 h6)
  exact ⟨fun _ => ⟨fun _ => at57 m σ6 _ _ f6, fun _ => ⟨fun _ => at68 m σ6 _ _ f6, fun _ => at57 m σ6 _ _ f6⟩⟩, fun _ => f6⟩
theorem te105 (h : RCx PRG n 105 [.ref 15] σ v σ1) : FRe σ σ1 := by
  refine h.by (Q := fun _ σ' => FRe σ σ') (fun m d => p_105_0 σ (fun w2 σ2 h2 _ => ?_))
  have f2 := te101 h2
  refine ⟨fun _ => f2, fun _ w4 σ4 h4 => ⟨fun _ => f2.trans (te103 h4), fun _ w6 σ6 h6 _ => ?_⟩⟩
  have f6 := (f2.trans (te103 h4)).trans (te101 h6)
  exact ⟨fun _ => f6, fun _ => ⟨fun _ => f6, fun _ => f6.put3 (by decide)⟩⟩
end Te
theorem rc73e {n l N : Nat} {x1 x2 x3 x4 : Int32} {σ σ1 : Sg} (h : RCx PRG n 73 [.ref 3, .int x1, .int x2, .int x3, .int x4] σ none σ1) (hl : σ.1 3 3 = nI l) (hl6 : l < 6) (hN : σ.1 3 9 = nI N) : (∀ x, σ1.1 8 x = σ.1 8 x) ∧ σ1.1 3 9 = nI N ∧ σ1.1 6 (2 * l) = x3 ∧ σ1.1 7 (2 * l) = x4 ∧ σ1.1 6 (2 * l + 1) = x4 ∧ σ1.1 7 (2 * l + 1) = nI N ∧ ∀ x, x < 2 * l → σ1.1 6 x = σ.1 6 x ∧ σ1.1 7 x = σ.1 7 x := by
  have i0 : ((2 : Int32) * nI l) + (0 : Int32) = nI (2 * l) := by
    rw [show (2 : Int32) = nI 2 by decide, nI_mulI (by omega) (by omega) (by omega), Int32.add_zero]
  have i1 : ((2 : Int32) * nI l) + (1 : Int32) = nI (2 * l + 1) := by
    rw [show (2 : Int32) = nI 2 by decide, nI_mulI (by omega) (by omega) (by omega), nI_1]
  refine h.by (Q := fun _ σ' => (∀ x, σ'.1 8 x = σ.1 8 x) ∧ σ'.1 3 9 = nI N ∧ σ'.1 6 (2 * l) = x3 ∧ σ'.1 7 (2 * l) = x4 ∧ σ'.1 6 (2 * l + 1) = x4 ∧ σ'.1 7 (2 * l + 1) = nI N ∧ ∀ x, x < 2 * l → σ'.1 6 x = σ.1 6 x ∧ σ'.1 7 x = σ.1 7 x) (fun m d => p_73_0 σ x1 x2 x3 x4 ⟨fun c => ?_, fun c _ _ _ _ _ _ => ?_⟩)
  · rw [hl] at c
    exact absurd ((nI_leI (a := 6) (b := l) (by decide) (by omega)).mp c) (by omega)
  · rw [hl, i0, i1, nI_clamp (by omega), nI_clamp (by omega), nI_clamp (by omega), hN]
    refine ⟨fun x => ?_, ?_, ?_, ?_, ?_, ?_, fun x hx => ⟨?_, ?_⟩⟩
    · rw [s1_off (by omega), s1_off (by omega), s1_off (by omega), s1_off (by omega), s1_off (by omega), s1_off (by omega), s1_off (by omega)]
    · rw [s1_off (by omega), s1_off (by omega), s1_off (by omega), s1_off (by omega), s1_off (by omega), s1_off (by omega), s1_off (by omega)]; exact hN
    · rw [s1_off (by omega), s1_off (by omega), s1_off (by omega), s1_off (by omega), s1_on]
    · rw [s1_off (by omega), s1_off (by omega), s1_off (by omega), s1_on]
    · rw [s1_off (by omega), s1_off (by omega), s1_on]
    · rw [s1_off (by omega), s1_on]
    · rw [s1_off (by omega), s1_off (by omega), s1_off (by omega), s1_off (by omega), s1_off (by omega), s1_off (by omega), s1_off (by omega)]
    · rw [s1_off (by omega), s1_off (by omega), s1_off (by omega), s1_off (by omega), s1_off (by omega), s1_off (by omega), s1_off (by omega)]
/-- where both parts of a custom stand, below N -/
def cuX (σ : Sg) (N q : Nat) (d : List Lt × List Lt) : Prop := ∃ a, a + (ccX d.1).length + (ccX d.2).length ≤ N ∧ σ.1 6 (2 * q) = nI a ∧ σ.1 7 (2 * q) = nI (a + (ccX d.1).length) ∧ σ.1 6 (2 * q + 1) = nI (a + (ccX d.1).length) ∧ σ.1 7 (2 * q + 1) = nI (a + (ccX d.1).length + (ccX d.2).length) ∧ sgX σ a (ccX d.1) ∧ sgX σ (a + (ccX d.1).length) (ccX d.2)
theorem cuX.fr {σ σ1 : Sg} {N N1 q : Nat} {d : List Lt × List Lt} (h : cuX σ N q d) (hN : N ≤ N1) (h8 : ∀ x, x < N → σ1.1 8 x = σ.1 8 x) (h67 : ∀ x, x < 2 * q + 2 → σ1.1 6 x = σ.1 6 x ∧ σ1.1 7 x = σ.1 7 x) : cuX σ1 N1 q d := by
  obtain ⟨a, h1, h2, h3, h4, h5, h6, h7⟩ := h
  exact ⟨a, by omega, (h67 _ (by omega)).1.trans h2, (h67 _ (by omega)).2.trans h3, (h67 _ (by omega)).1.trans h4, (h67 _ (by omega)).2.trans h5, h6.frr (fun j _ _ => h8 j (by omega)), h7.frr (fun j _ _ => h8 j (by omega))⟩
/-- all programs so far -/
def emP (TT : List Tk) (j : Nat) (σ : Sg) : Prop := ∃ N, σ.1 3 9 = nI N ∧ N ≤ j ∧ ∀ (q : Nat) (d : List Lt × List Lt), (psT TT j).2.2.2.2.2[q]? = some d → cuX σ N q d
theorem emP.fre {TT : List Tk} {i j : Nat} {σ σ1 : Sg} (h : emP TT i σ) (hf : FRe σ σ1) (hij : i ≤ j) (hs : (psT TT j).2.2.2.2.2 = (psT TT i).2.2.2.2.2) : emP TT j σ1 := by
  obtain ⟨N, h1, h2, h3⟩ := h
  exact ⟨N, hf.1.trans h1, by omega, fun q d hd => (h3 q d (by rw [← hs]; exact hd)).fr (Nat.le_refl N) (fun x _ => hf.2.1 x) (fun x _ => hf.2.2 x)⟩
theorem cust_e {TT : List Tk} (hW : WT TT) {n i : Nat} {D : DT} {σ σ1 : Sg} (hC : CQ TT σ) (hP : PCo TT i (evs TT i) σ) (hs : pr TT i = .inr ((6, 0), D)) (hN : NMc TT D σ) (hc6 : σ.1 15 6 = nI D.2.2.1.length) (hl : D.2.2.1.length < 6) (h33 : σ.1 3 3 = nI D.2.2.1.length) (hwr : ¬ σ.1 15 3 = 0) (hE : emP TT i σ) (h : RCx PRG n 113 [.ref 15] σ none σ1) : FAc TT σ1 ∨ ∃ j, i < j ∧ PCo TT j (evs TT j) σ1 ∧ emP TT j σ1 := by
  refine h.by (Q := fun _ σ' => FAc TT σ' ∨ ∃ j, i < j ∧ PCo TT j (evs TT j) σ' ∧ emP TT j σ') (fun m d => p_113_0 σ (fun w2 σ1 h1 _ => ?_))
  obtain ⟨f1, f3⟩ := name_c hW hC hP hs hN hc6 hl h1
  refine ⟨fun z => ?_, fun z w4 σ3 h3 => ?_⟩
  · rcases f3 with ⟨e, -⟩ | ⟨-, g⟩
    · rw [e] at z; exact absurd z (by decide)
    · exact Or.inl g
  · rcases f3 with ⟨-, hs1, a3, hN1, hn1⟩ | ⟨e, -⟩
    · have v1 := vl_rg hW hs1
      obtain ⟨b1, b2, b3⟩ := rc103 hW h3 (hC.fr f1) a3 hs1 (fun e => ⟨(8, 0), if_pos e⟩) (fun e => if_neg e)
      refine ⟨fun z => ?_, fun z => ?_⟩
      · intro w6 σ5 h5 _
        rcases b3 with ⟨ew4, c1, c2, c3⟩ | ⟨e, -⟩
        · have hs2 := pr_next (q := (8, 0)) hs1 (if_pos c1) c2
          rw [show updD ((7, 0), i, D.2).1.1 (kdT TT (i + 1)) (i + 1) ((7, 0), i, D.2).2 = (i, D.2) from upd_id (m := 7) (by decide) (by omega) (fun e => absurd (show (7 : Nat) = 25 from e.1) (by decide))] at hs2
          have e2 : evs TT (i + 1 + 1) = orE (evs TT (i + 1)) (bif off (vlT TT (i + 1)) 0 2 then some (5, i + 1) else none) := by rw [evs_step hs1, evO_off (b := off (vlT TT (i + 1)) 0 2) rfl]
          rw [← e2] at c3
          have hkd2 := (kd_le hW hs2).1
          rw [c3.2.1] at h5 ⊢
          have h5' : RCx PRG m 101 [.ref 15, .int ((18 : Int32) + clK (nI (kdT TT (i + 1 + 1))))] σ3 (some (.int w6)) σ5 := h5
          have res : FRc σ3 σ5 ∧ ((w6 = 1 ∧ (18 ≤ kdT TT (i + 1 + 1) ∧ kdT TT (i + 1 + 1) ≤ 20) ∧ i + 1 + 1 < 400 ∧ PCo TT (i + 1 + 1 + 1) (evs TT (i + 1 + 1)) σ5) ∨ (w6 = 0 ∧ FAc TT σ5)) := by
            rcases clK_k (kdT TT (i + 1 + 1)) (by omega) with ⟨r1, r2, r3, r4⟩ | ⟨r1, k', r2, r3, r4⟩
            · rw [r4] at h5'
              obtain ⟨l1, l2, l3⟩ := rc101 (k := kdT TT (i + 1 + 1)) hW h5' ((hC.fr f1).fr b1) c3 hs2 hkd2 (fun _ => ⟨(9, 0), if_pos ⟨r1, r2⟩⟩) (fun e => absurd rfl e)
              refine ⟨l1, ?_⟩
              rcases l3 with ⟨e, q1, q2, q3⟩ | h
              · exact Or.inl ⟨e, ⟨r1, r2⟩, q2, q3⟩
              · exact Or.inr h
            · rw [r3] at h5'
              obtain ⟨l1, l2, l3⟩ := rc101 (k := k') hW h5' ((hC.fr f1).fr b1) c3 hs2 (by omega) (fun e => absurd e r4) (fun _ => if_neg r1)
              refine ⟨l1, ?_⟩
              rcases l3 with ⟨e, q1, -⟩ | h
              · exact absurd q1 r4
              · exact Or.inr h
          obtain ⟨l1, l3⟩ := res
          refine ⟨fun z => ?_, fun z => ?_⟩
          · rcases l3 with ⟨e, -⟩ | ⟨-, g⟩
            · rw [e] at z; exact absurd z (by decide)
            · exact Or.inl g
          · rcases l3 with ⟨-, q0, q2, q3⟩ | ⟨e, -⟩
            · have hs3 := pr_next (q := (9, 0)) hs2 (if_pos q0) q2
              rw [show updD ((8, 0), i, D.2).1.1 (kdT TT (i + 1 + 1)) (i + 1 + 1) ((8, 0), i, D.2).2 = (i, D.2) from upd_id (m := 8) (by decide) (by omega) (fun e => absurd (show (8 : Nat) = 25 from e.1) (by decide))] at hs3
              have e3 : evs TT (i + 1 + 1 + 1) = evs TT (i + 1 + 1) := by rw [evs_step hs2]; exact orE_none _
              rw [← e3] at q3
              have F := (f1.trans b1).trans l1
              have FE := ((te107 h1).trans (te103 h3)).trans (te101 h5)
              have hE3 : emP TT (i + 1 + 1 + 1) σ5 := hE.fre FE (by omega) (ps_same (by omega) hs hs3 rfl)
              have hwr5 : ¬ σ5.1 15 3 = 0 := by rw [F.2.2.1]; exact hwr
              have h335 : σ5.1 3 3 = nI D.2.2.1.length := (F.2.1 3 3 (by decide) (by decide) (by omega)).trans h33
              obtain ⟨N, n1, n2, n3⟩ := hE3
              have pl := ps_len _ _ hs3
              have pl' : (psT TT (i + 1 + 1 + 1)).2.2.2.2.2.length = D.2.2.1.length := pl
              generalize hdn : (psT TT (i + 1 + 1 + 1)).2.2.2.2.2 = dn at n3 pl'
              -- says
              have says : ∀ (m2 j : Nat) (M : Nat) (wh : List Lt) (σ6 : Sg), i < j → pr TT j = .inr ((M, 0), i, D.2) → (¬ M = 6 ∧ ¬ M = 25) → evT TT ((M, 0), i, D.2) j = 0 → (∀ len, gs M 0 len (kdT TT j) = if kdT TT j = 22 then .inr (20, 0) else .inl 1) → FRc σ5 σ6 → PCo TT j (evs TT j) σ6 → emX N (ccX wh) σ5 σ6 → N + (ccX wh).length ≤ j → (kdT TT j = 22 → psT TT (j + 1) = ([], [], c0X true, [], wh, dn)) → Pl PRG m2 d 113 85 [(0, .ref 15), (1, .int w4), (2, .int (clK (nI (kdT TT (i + 1 + 1))))), (3, .int (σ5.1 3 9))] [] σ6 (fun _ σ' => FAc TT σ' ∨ ∃ j, i < j ∧ PCo TT j (evs TT j) σ' ∧ emP TT j σ') := by
                intro m2 j M wh σ6 hij hsj hM hev hg g1 g3 gE gN gS
                have en118 : ∀ (m4 : Nat) (σ8 : Sg), FAc TT σ8 → Pl PRG m4 d 113 118 [] [] σ8 (fun _ σ' => FAc TT σ' ∨ ∃ j, i < j ∧ PCo TT j (evs TT j) σ' ∧ emP TT j σ') := fun m4 σ8 hq => Pl.pos (fun m5 _ => p_113_118 σ8 (Or.inl hq))
                refine Pl.pos (fun m3 _ => p_113_85 σ6 w4 (clK (nI (kdT TT (i + 1 + 1)))) (σ5.1 3 9) (fun w7 σ7 h7 _ => ?_))
                have C6 := ((hC.fr F).fr g1)
                obtain ⟨k1, k2, k3⟩ := rc101 (k := 22) hW h7 C6 g3 hsj (by decide) (fun e => ⟨(20, 0), by show gs M 0 _ _ = _; rw [hg, if_pos e]⟩) (fun e => by show gs M 0 _ _ = _; rw [hg, if_neg e])
                refine ⟨fun z => en118 m3 σ7 ?_, fun z w8 σ8 h8 hz8 => ?_⟩
                · rcases k3 with ⟨e, -⟩ | ⟨-, g⟩
                  · rw [e] at z; exact absurd z (by decide)
                  · exact g
                · rcases k3 with ⟨-, t1, t2, t3⟩ | ⟨e, -⟩
                  · have hsk := pr_next (q := (20, 0)) hsj (by show gs M 0 _ _ = _; rw [hg, if_pos t1]) t2
                    have hup : updD ((M, 0), i, D.2).1.1 (kdT TT j) j ((M, 0), i, D.2).2 = (i, j, D.2.2) := by
                      show updD M (kdT TT j) j (i, D.2) = _
                      unfold updD
                      rw [if_neg hM.1, if_pos t1]
                    rw [hup] at hsk
                    have ev2 : evs TT (j + 1) = evs TT j := by rw [evs_step hsj, evO_0 hev, orE_none]
                    rw [← ev2] at t3
                    obtain ⟨y1, y2, y3⟩ := cond_c hW (Or.inr rfl) (C6.fr k1) t3 hsk h8
                    refine ⟨fun z => en118 m3 σ8 ?_, fun z8 w10 σ10 h10 _ => ?_⟩
                    · rcases y3 with ⟨e, -⟩ | ⟨-, g⟩
                      · rw [e] at z; exact absurd z (by decide)
                      · exact g
                    · obtain rfl : w8 = 1 := hz8.resolve_left z8
                      have em7 := gE.fre (te101 h7)
                      obtain ⟨j2, sy, u1, u2, u3, u4, u5, u6⟩ := cond_e hW (N := N + (ccX wh).length) (Or.inr rfl) (C6.fr k1) t3 hsk (by rw [(g1.trans k1).2.2.1]; exact hwr5) em7.1 (by omega) (gS t1) h8
                      have uX : ¬ (5 ≤ kdT TT j2 ∧ kdT TT j2 ≤ 8) ∧ ¬ (kdT TT j2 = 23 ∨ kdT TT j2 = 24) := by
                        rcases y3 with ⟨-, j3, -, q2, q3, q4, q5⟩ | ⟨e, -⟩
                        · have e := u2.pos q3
                          subst e; exact ⟨q4, q5⟩
                        · exact absurd e (by decide)
                      have hg25 : ∀ len, gs 25 0 len (kdT TT j2) = if kdT TT j2 = 4 then .inr (0, 0) else .inl 1 := fun len => by
                        show ga 25 24 0 (kdT TT j2) _ = _
                        unfold ga
                        rw [if_neg uX.1, if_neg (fun e => absurd e.2 (by decide)), if_pos rfl, if_neg uX.2]
                      have C8 := (C6.fr k1).fr y1
                      obtain ⟨v1', v2', v3'⟩ := rc101 (k := 4) hW h10 C8 u2 u1 (by decide) (fun e => ⟨(0, 0), by show gs 25 0 _ _ = _; rw [hg25, if_pos e]⟩) (fun e => by show gs 25 0 _ _ = _; rw [hg25, if_neg e])
                      refine ⟨fun z => en118 m3 σ10 ?_, fun z => ?_⟩
                      · rcases v3' with ⟨e, -⟩ | ⟨-, g⟩
                        · rw [e] at z; exact absurd z (by decide)
                        · exact g
                      · rcases v3' with ⟨-, o1, o2, o3⟩ | ⟨e, -⟩
                        · have G := (((g1.trans k1).trans y1).trans v1')
                          refine ⟨fun c => absurd (by rw [← G.2.2.1]; exact c) hwr5, fun _ σ12 h12 => ?_⟩
                          have em10 := (em7.app u6).fre (te101 h10)
                          have l12 : (ccX wh ++ ccX sy).length = (ccX wh).length + (ccX sy).length := List.length_append
                          have e9 : σ6.1 3 9 = nI (N + (ccX wh).length) := gE.1
                          rw [n1, e9] at h12
                          have h3310 : σ10.1 3 3 = nI D.2.2.1.length := (G.2.1 3 3 (by decide) (by decide) (by omega)).trans h335
                          obtain ⟨z1, z2, z3, z4, z5, z6, z7⟩ := rc73e h12 h3310 hl em10.1
                          obtain ⟨-, y2', y3', -, -, -⟩ := rc73 h12 h3310 hl
                          have hsn := pr_next (q := (0, 0)) u1 (by show gs 25 0 _ _ = _; rw [hg25, if_pos o1]) o2
                          have ev3 : evs TT (j2 + 1) = evs TT j2 := by rw [evs_step u1]; exact orE_none _
                          rw [← ev3] at o3
                          refine Pl.pos (fun m4 _ => p_113_138 σ12 (Or.inr ⟨j2 + 1, by omega, ?_, ?_⟩))
                          · obtain ⟨r1, r2, r3, r4, r5, r6⟩ := o3
                            have e15 : ∀ x, σ12.1 15 x = σ10.1 15 x := fun x => y2' 15 x (by decide) (by decide) (by decide) (by decide) (by decide)
                            refine ⟨?_, ?_, r3, ?_, ?_, ?_⟩
                            · rw [s1_off (by omega), e15]; exact r1
                            · rw [s1_off (by omega), e15]; exact r2
                            · rw [s1_off (by omega), e15]; exact r4
                            · exact r5.of (by rw [s1_off (by omega), e15]) (by rw [s1_off (by omega), e15])
                            · rw [s1_off (by omega), e15]; exact r6
                          · have dn2 : (psT TT (j2 + 1)).2.2.2.2.2 = dn ++ [(wh, sy)] := by
                              rw [ps_next u1]
                              show (psS 25 _ _ _).2.2.2.2.2 = _
                              have := (show BO 20 from Or.inr rfl).ps5 (kdT TT j2) (vlT TT j2) (psT TT j2)
                              rw [this, if_neg uX.2, if_neg (by omega), if_pos o1]
                              show (psT TT j2).2.2.2.2.2 ++ [((psT TT j2).2.2.2.2.1, litX (psT TT j2))] = _
                              rw [u5, u4]
                            refine ⟨N + ((ccX wh).length + (ccX sy).length), by rw [s1_off (by omega), z2, l12], by omega, fun q d hd => ?_⟩
                            rw [dn2] at hd
                            have key : cuX σ12 (N + ((ccX wh).length + (ccX sy).length)) q d := by
                              rcases Nat.lt_or_ge q dn.length with gq | gq
                              · rw [List.getElem?_append_left gq] at hd
                                refine (n3 q d hd).fr (by omega) (fun x hx => (z1 x).trans (em10.2.1 x hx)) (fun x hx => ?_)
                                obtain ⟨o6, o7⟩ := z7 x (by omega)
                                exact ⟨o6.trans (G.2.1 6 x (by decide) (by decide) (by omega)), o7.trans (G.2.1 7 x (by decide) (by decide) (by omega))⟩
                              · rw [List.getElem?_append_right gq] at hd
                                have hq0 : q - dn.length = 0 := by
                                  rcases Nat.eq_zero_or_pos (q - dn.length) with z | z
                                  · exact z
                                  · rw [List.getElem?_eq_none (by simp; omega)] at hd; cases hd
                                rw [hq0] at hd
                                cases hd
                                have eq : q = D.2.2.1.length := by omega
                                subst eq
                                have sg := em10.2.2.frr (σ' := σ12) (fun j _ _ => z1 j)
                                obtain ⟨s1', s2'⟩ := sg.cut
                                refine ⟨N, Nat.le_of_eq (Nat.add_assoc N _ _), z3, z4, z5, ?_, s1', s2'⟩
                                rw [z6, l12, Nat.add_assoc]
                            obtain ⟨a, c1', c2', c3', c4', c5', c6', c7'⟩ := key
                            exact ⟨a, c1', by rw [s1_off (by omega)]; exact c2', by rw [s1_off (by omega)]; exact c3', by rw [s1_off (by omega)]; exact c4', by rw [s1_off (by omega)]; exact c5', c6'.frr (fun j _ _ => by rw [s1_off (by omega)]), c7'.frr (fun j _ _ => by rw [s1_off (by omega)])⟩
                        · exact absurd e z
                  · exact absurd e z
              have en84 : ∀ (m4 : Nat) (σ8 : Sg), FAc TT σ8 → Pl PRG m4 d 113 84 [] [] σ8 (fun _ σ' => FAc TT σ' ∨ ∃ j, i < j ∧ PCo TT j (evs TT j) σ' ∧ emP TT j σ') := fun m4 σ8 hq => Pl.pos (fun m5 _ => p_113_84 σ8 (Or.inl hq))
              have hkd3 := (kd_le hW hs3).1
              have k21 : σ5.1 15 5 = (21 : Int32) ↔ kdT TT (i + 1 + 1 + 1) = 21 := by
                rw [q3.2.1]
                exact nI_eq (b := 21) (by omega) (by decide)
              have ps9 : psT TT (i + 1 + 1 + 1 + 1) = ([], [], c0X true, [], [], dn) := by
                rw [ps_next hs3]
                show psS 9 _ _ _ = _
                rw [← hdn]
                rfl
              refine ⟨fun c w8 σ7 h7 _ => ?_, fun c => says m (i + 1 + 1 + 1) 9 [] σ5 (by omega) hs3 (by decide) rfl (fun len => ?_) (FRc.refl σ5) q3 (emX.nil n1 (FRe.refl σ5)) (by show N + 0 ≤ _; omega) (fun _ => ps9)⟩
              · have e21 := k21.mp c
                obtain ⟨k1, k2, k3⟩ := rc101 (k := 21) hW h7 (hC.fr F) q3 hs3 (by decide) (fun e => ⟨(10, 0), if_pos e⟩) (fun e => absurd e21 e)
                refine ⟨fun z => en84 m σ7 ?_, fun z w10 σ9 h9 hz10 => ?_⟩
                · rcases k3 with ⟨e, -⟩ | ⟨-, g⟩
                  · rw [e] at z; exact absurd z (by decide)
                  · exact g
                · rcases k3 with ⟨-, t1, t2, t3⟩ | ⟨e, -⟩
                  · have hsk := pr_next (q := (10, 0)) hs3 (if_pos t1) t2
                    rw [show updD ((9, 0), i, D.2).1.1 (kdT TT (i + 1 + 1 + 1)) (i + 1 + 1 + 1) ((9, 0), i, D.2).2 = (i, D.2) from upd_id (m := 9) (by decide) (by omega) (fun e => absurd (show (9 : Nat) = 25 from e.1) (by decide))] at hsk
                    have ev : evs TT (i + 1 + 1 + 1 + 1) = evs TT (i + 1 + 1 + 1) := by rw [evs_step hs3]; exact orE_none _
                    rw [← ev] at t3
                    obtain ⟨y1, y2, y3⟩ := cond_c hW (Or.inl rfl) ((hC.fr F).fr k1) t3 hsk h9
                    refine ⟨fun z => en84 m σ9 ?_, fun z10 => ?_⟩
                    · rcases y3 with ⟨e, -⟩ | ⟨-, g⟩
                      · rw [e] at z; exact absurd z (by decide)
                      · exact g
                    · obtain rfl : w10 = 1 := hz10.resolve_left z10
                      have em7 := emX.nil n1 (te101 h7)
                      obtain ⟨j2, wh, u1, u2, u3, u4, u5, u6⟩ := cond_e hW (N := N) (Or.inl rfl) ((hC.fr F).fr k1) t3 hsk (by rw [k1.2.2.1]; exact hwr5) em7.1 (by omega) ps9 h9
                      have uX : ¬ (5 ≤ kdT TT j2 ∧ kdT TT j2 ≤ 8) ∧ ¬ (kdT TT j2 = 23 ∨ kdT TT j2 = 24) := by
                        rcases y3 with ⟨-, j3, -, q2, q3, q4, q5⟩ | ⟨e, -⟩
                        · have e := u2.pos q3
                          subst e; exact ⟨q4, q5⟩
                        · exact absurd e (by decide)
                      refine says m j2 15 wh σ9 (by omega) u1 (by decide) rfl (fun len => ?_) (k1.trans y1) u2 (u6.pre (te101 h7)) (by omega) (fun e22 => ?_)
                      · show ga 15 14 0 (kdT TT j2) _ = _
                        unfold ga
                        rw [if_neg uX.1, if_neg (fun e => absurd e.2 (by decide)), if_pos rfl, if_neg uX.2]
                      · rw [ps_next u1]
                        show psS 15 _ _ _ = _
                        have := (show BO 10 from Or.inl rfl).ps5 (kdT TT j2) (vlT TT j2) (psT TT j2)
                        rw [this, if_neg uX.2, if_pos e22, u4, u5]
                  · exact absurd e z
              · show (if kdT TT (i + 1 + 1 + 1) = 21 then _ else _) = _
                rw [if_neg (fun e => c (k21.mpr e))]
            · exact absurd e z
        · rw [e] at z; exact absurd z (by decide)
      · rcases b3 with ⟨e, -⟩ | ⟨-, g⟩
        · rw [e] at z; exact absurd (nonneg v1.1).1 z
        · exact Or.inl g
    · exact absurd e z
