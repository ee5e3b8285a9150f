/-! the second pass: all programs stand -/
def SR6 : List Nat := [101, 104, 105, 102, 103]
set_option maxRecDepth 100000 in
theorem nfR6 : nfS PRG SR6 8 6 = true := by decide +kernel
theorem emP.put15 {TT : List Tk} {j k : Nat} {x : Int32} {σ : Sg} (h : emP TT j σ) : emP TT j (s1 σ 15 k x) := h.fre (FRe.refl σ).put (Nat.le_refl j) rfl
def paI (TT : List Tk) (kk : Nat) (σ : Sg) : Prop := ∃ i D, kk ≤ i ∧ TIc TT i D σ ∧ emP TT i σ ∧ ¬ σ.1 15 3 = 0
theorem TIc.c33 {TT : List Tk} {i : Nat} {D : DT} {σ : Sg} (h : TIc TT i D σ) (hw : ¬ σ.1 15 3 = 0) : σ.1 3 3 = nI D.2.2.1.length := by
  obtain ⟨-, -, -, -, -, -, hR⟩ := h
  rcases hR with hR | ⟨-, -, c⟩
  · exact absurd hR hw
  · exact c.1
theorem pass_e {TT : List Tk} (hW : WT TT) {n iE : Nat} {w : Int32} {σ σ1 : Sg} (hst : stopAt TT iE 0) (hev : evs TT iE = none) (hC : CQ TT σ) (hL : PKw TT (0, 0, [], none, none) σ ∧ TRw TT (0, 0, [], none, none) σ ∧ σ.1 3 3 = 0) (h9 : σ.1 3 9 = 0) (h : RCx PRG n 114 [.ref 15, .int 1] σ (some (.int w)) σ1) : emP TT iE σ1 := by
  have fl : ∀ {n mi av v} {σ σ1 : Sg}, RCx PRG n mi av σ v σ1 → SRd.contains mi = true → σ1.1 15 3 = σ.1 15 3 := fun h hm => h.fldQ (q0 := 15) (c := 8) (k0 := 3) rfl nfRd hm
  have no : ∀ {σ : Sg}, FAc TT σ → False := fun hF => by
    obtain ⟨i, f, h1, h2, -⟩ := hF
    exact h2 (stop_one h1 hst).2
  refine h.by (Q := fun _ σ' => emP TT iE σ') (fun m d => ?_)
  have fin : ∀ (m : Nat) (σ2 : Sg) (i : Nat) (D : DT), TIc TT i D σ2 → emP TT i σ2 → kdT TT i = 0 → Pl PRG m d 114 143 [(0, .ref 15)] [] σ2 (fun _ σ' => emP TT iE σ') := by
    intro m σ2 i D hT hE hk
    obtain ⟨hC, hP, hs, hN, hc6, hl6, hR⟩ := hT
    have st : stopAt TT i 0 := stop_f hs (by rw [hk]; rfl)
    obtain ⟨e, -⟩ := stop_one st hst
    rw [e] at hE
    exact Pl.pos (fun m1 _ => p_114_143 σ2 ⟨fun _ => ⟨fun _ => Pl.pos (fun m2 _ => p_114_173 σ2 hE), fun _ => Pl.pos (fun m2 _ => p_114_173 _ hE.put15.put15)⟩, fun _ => Pl.pos (fun m2 _ => p_114_173 σ2 hE)⟩)
  have loop : ∀ (m kk : Nat) (σ2 : Sg), paI TT kk σ2 → Pl PRG m d 114 45 [(0, .ref 15), (2, .int (nI kk))] [] σ2 (fun _ σ' => emP TT iE σ') := by
    intro m
    induction m using Nat.strongRecOn with
    | _ m ih =>
      intro kk σ2 hI
      have next : ∀ (m2 : Nat), m2 < m → ∀ (σ3 : Sg), paI TT (kk + 1) σ3 → Pl PRG m2 d 114 137 [(0, .ref 15), (2, .int (nI kk))] [] σ3 (fun _ σ' => emP TT iE σ') := fun m2 hm2 σ3 hI3 => Pl.pos (fun m3 hm3 => p_114_137 σ3 (nI kk) (by
        rw [nI_1]
        exact ih m3 (by omega) (kk + 1) σ3 hI3))
      obtain ⟨i, D, hki, hT, hE, hw⟩ := hI
      have hT0 := hT
      obtain ⟨hC, hP, hs, hN, hc6, hl6, hR⟩ := hT
      have hi := hP.2.2.1
      have hkd := (kd_le hW hs).1
      have kI : ∀ k, k ≤ 36 → (nI (kdT TT i) = nI k ↔ kdT TT i = k) := fun k hk => nI_eq (by omega) (by omega)
      refine Pl.pos (fun m1 hm1 => p_114_45 σ2 (nI kk) ⟨fun c => absurd c (nI_nlt (a := 400) (b := kk) (by omega) (by decide)), fun c => ⟨fun _ => ?_, fun c2 => absurd hP.2.2.2.1 c2⟩⟩)
      rw [hP.2.1, hc6]
      refine ⟨fun c0 => fin m1 σ2 i D hT0 hE ((kI 0 (by decide)).mp c0), fun c0 => ⟨fun c15 σ3 h3 => ?_, fun c15 => ⟨fun c16 σ3 h3 => ?_, fun c16 => ?_⟩⟩⟩
      · rcases pack_c hW hT0 ((kI 15 (by decide)).mp c15) h3 with ⟨j, D', j1, hT'⟩ | g
        · have c6' : σ3.1 15 6 = σ2.1 15 6 := h3.fldQ (q0 := 15) (c := 8) (k0 := 6) rfl nfR6 (by decide)
          have hlen : D.2.2.1.length = D'.2.2.1.length := by
            have := hT'.2.2.2.2.1
            rw [c6', hc6] at this
            exact (nI_eq (by omega) (by have := hT'.2.2.2.2.2.1; omega)).mp this
          exact next m1 (by omega) σ3 ⟨j, D', by omega, hT', hE.fre (te104 h3) (by omega) (ps_same (by omega) hs hT'.2.2.1 hlen), by rw [fl h3 (by decide)]; exact hw⟩
        · exact (no g).elim
      · rcases trump_c hW hT0 ((kI 16 (by decide)).mp c16) h3 with ⟨j, D', j1, hT'⟩ | g
        · have c6' : σ3.1 15 6 = σ2.1 15 6 := h3.fldQ (q0 := 15) (c := 8) (k0 := 6) rfl nfR6 (by decide)
          have hlen : D.2.2.1.length = D'.2.2.1.length := by
            have := hT'.2.2.2.2.1
            rw [c6', hc6] at this
            exact (nI_eq (by omega) (by have := hT'.2.2.2.2.2.1; omega)).mp this
          exact next m1 (by omega) σ3 ⟨j, D', by omega, hT', hE.fre (te105 h3) (by omega) (ps_same (by omega) hs hT'.2.2.1 hlen), by rw [fl h3 (by decide)]; exact hw⟩
        · exact (no g).elim
      · have n0 : ¬ kdT TT i = 0 := fun e => c0 ((kI 0 (by decide)).mpr e)
        have n15 : ¬ kdT TT i = 15 := fun e => c15 ((kI 15 (by decide)).mpr e)
        have n16 : ¬ kdT TT i = 16 := fun e => c16 ((kI 16 (by decide)).mpr e)
        have h17 : kdT TT i = 17 ∧ D.2.2.1.length < 6 := by
          by_cases e17 : kdT TT i = 17
          · refine ⟨e17, ?_⟩
            rcases Nat.lt_or_ge D.2.2.1.length 6 with g | g
            · exact g
            · exfalso
              have : stopAt TT i 2 := stop_f hs (by
                show (if kdT TT i = 0 then _ else if kdT TT i = 15 then _ else if kdT TT i = 16 then _ else if kdT TT i = 17 then _ else _) = _
                rw [if_neg n0, if_neg n15, if_neg n16, if_pos e17, if_pos g])
              exact absurd (stop_one this hst).2 (by decide)
          · exfalso
            have : stopAt TT i 1 := stop_f hs (by
              show (if kdT TT i = 0 then _ else if kdT TT i = 15 then _ else if kdT TT i = 16 then _ else if kdT TT i = 17 then _ else _) = _
              rw [if_neg n0, if_neg n15, if_neg n16, if_neg e17])
            exact absurd (stop_one this hst).2 (by decide)
        have hg : gs 0 0 D.2.2.1.length (kdT TT i) = .inr (6, 0) := by
          show (if kdT TT i = 0 then _ else if kdT TT i = 15 then _ else if kdT TT i = 16 then _ else if kdT TT i = 17 then _ else _) = _
          rw [if_neg n0, if_neg n15, if_neg n16, if_pos h17.1, if_neg (by omega)]
        have at124 : Pl PRG m1 d 114 124 [(0, .ref 15), (2, .int (nI kk))] [] σ2 (fun _ σ' => emP TT iE σ') := by
          refine Pl.pos (fun m2 hm2 => p_114_124 σ2 (nI kk) (fun w2 σ3 h3 _ => ?_))
          obtain ⟨f1, f2, f3⟩ := rc101 (k := 17) hW h3 hC hP hs (by decide) (fun e => ⟨(6, 0), hg⟩) (fun e => absurd h17.1 e)
          rcases f3 with ⟨ew, a1, a2, a3⟩ | ⟨-, g⟩
          · refine ⟨fun z => by rw [ew] at z; exact absurd z (by decide), fun _ σ4 h4 => ?_⟩
            have hs1 := pr_next (q := (6, 0)) hs hg a2
            rw [show updD ((0, 0), D).1.1 (kdT TT i) i ((0, 0), D).2 = D by rw [a1]; rfl] at hs1
            have e1 : evs TT (i + 1) = evs TT i := by rw [evs_step hs]; exact orE_none _
            rw [← e1] at a3
            have hN3 : NMc TT D σ3 := fun q x hx => by rw [f2]; exact hN q x hx
            have hc63 : σ3.1 15 6 = nI D.2.2.1.length := by rw [f1.2.2.2]; exact hc6
            have hw3 : ¬ σ3.1 15 3 = 0 := by rw [f1.2.2.1]; exact hw
            have h333 : σ3.1 3 3 = nI D.2.2.1.length := (f1.2.1 3 3 (by decide) (by decide) (by omega)).trans (hT0.c33 hw)
            have hE3 : emP TT (i + 1) σ3 := hE.fre (te101 h3) (by omega) (ps_same (by omega) hs hs1 rfl)
            rcases cust_e hW (hC.fr f1) a3 hs1 hN3 hc63 h17.2 h333 hw3 hE3 h4 with g | ⟨j, x1, x2, x3⟩
            · exact (no g).elim
            · rcases cust_c hW (hC.fr f1) a3 hs1 hN3 hc63 h17.2 (hR.fr f1) h4 with ⟨j', D', y1, y2⟩ | g
              · have ej := x2.pos y2.2.1
                subst ej
                exact next m2 (by omega) σ4 ⟨j, D', by omega, y2, x3, by rw [fl h4 (by decide)]; exact hw3⟩
              · exact (no g).elim
          · exact (no g).elim
        exact ⟨fun _ => ⟨fun _ => at124, fun c6 => absurd (nI_lt (b := 6) h17.2 (by decide)) c6⟩, fun _ => at124⟩
  have h0 : TT[0]? = some (TT.getD 0 dfT) := getD_at (tok_in hW (i := 0) (s := ((0, 0), 0, 0, [], none, none)) rfl).1
  have hat := hC 0 _ (by omega) h0 (fun j t hj => absurd hj (Nat.not_lt_zero _))
  refine p_114_0 σ 1 (fun hx => loop m 0 _ ⟨0, (0, 0, [], none, none), Nat.le_refl 0, ⟨?_, ?_, rfl, ?_, ?_, by show (0 : Nat) ≤ 6; decide, ?_⟩, ?_, ?_⟩)
  · exact fun y t hy ht hg => by
      obtain ⟨q1, q2, q3, q4⟩ := hC y t hy ht hg
      exact ⟨by rw [s1_off (by omega), s1_off (by omega), s1_off (by omega), s1_off (by omega), s1_off (by omega), s1_off (by omega), s1_off (by omega)]; exact q1, by rw [s1_off (by omega), s1_off (by omega), s1_off (by omega), s1_off (by omega), s1_off (by omega), s1_off (by omega), s1_off (by omega)]; exact q2, q3, q4⟩
  · refine ⟨?_, ?_, by omega, ?_, ?_, ?_⟩
    · rw [s1_off (by omega), s1_off (by omega), s1_off (by omega), s1_off (by omega), s1_off (by omega), s1_on]; rfl
    · rw [s1_off (by omega), s1_off (by omega), s1_off (by omega), s1_off (by omega), s1_on]; exact hat.1
    · rw [s1_off (by omega), s1_off (by omega), s1_on]
    · show (s1 _ 15 9 (0 : Int32)).1 15 9 = 0
      exact s1_on
    · rw [s1_off (by omega), s1_on]
  · intro q e hq
    cases q <;> cases hq
  · rw [s1_off (by omega), s1_off (by omega), s1_off (by omega), s1_on]; rfl
  · obtain ⟨a, b, c⟩ := hL
    refine Or.inr ⟨⟨?_, ?_⟩, ?_, ?_, fun q e hq => ?_⟩
    · rw [s1_off (by omega), s1_off (by omega), s1_off (by omega), s1_off (by omega), s1_off (by omega), s1_off (by omega), s1_off (by omega)]; exact a.1
    · rw [s1_off (by omega), s1_off (by omega), s1_off (by omega), s1_off (by omega), s1_off (by omega), s1_off (by omega), s1_off (by omega)]; exact a.2
    · show (s1 _ 15 9 (0 : Int32)).1 3 2 = -1
      rw [s1_off (by omega), s1_off (by omega), s1_off (by omega), s1_off (by omega), s1_off (by omega), s1_off (by omega), s1_off (by omega)]; exact b
    · rw [s1_off (by omega), s1_off (by omega), s1_off (by omega), s1_off (by omega), s1_off (by omega), s1_off (by omega), s1_off (by omega)]; exact c
    · cases q <;> cases hq
  · refine ⟨0, ?_, Nat.le_refl 0, fun q d hd => ?_⟩
    · rw [s1_off (by omega), s1_off (by omega), s1_off (by omega), s1_off (by omega), s1_off (by omega), s1_off (by omega), s1_off (by omega)]; exact h9
    · have hd' : ([] : List (List Lt × List Lt))[q]? = some d := hd
      cases hd'
  · rw [s1_off (by omega), s1_off (by omega), s1_off (by omega), s1_off (by omega), s1_off (by omega), s1_off (by omega), s1_on]
    decide
