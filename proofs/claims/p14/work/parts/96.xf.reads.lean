/-! read, both sides: a function of the tape's bytes -/
/-- what read answers, and what place then answers -/
def rdQ (TT : List Tk) (w pl : Int32) : Prop := ∃ i f, stopAt TT i f ∧ ((¬ f = 0 ∧ f ≤ 2 ∧ w = nI f ∧ pl = nI (plT TT i)) ∨ (f = 0 ∧ match evs TT i with
  | some x => w = nI x.1 ∧ pl = nI (plT TT x.2) ∧ ¬ x.1 = 0 ∧ x.1 < 100
  | none => w = 0 ∧ pl = -1))
theorem rdQ_one {TT : List Tk} {w w' pl pl' : Int32} (h : rdQ TT w pl) (h' : rdQ TT w' pl') : w = w' ∧ pl = pl' := by
  obtain ⟨i, f, a, b⟩ := h
  obtain ⟨j, g, a', b'⟩ := h'
  obtain ⟨rfl, rfl⟩ := stop_one a a'
  rcases b with ⟨b1, b2, b3, b4⟩ | ⟨b1, b2⟩
  · rcases b' with ⟨c1, c2, c3, c4⟩ | ⟨c1, c2⟩
    · exact ⟨b3.trans c3.symm, b4.trans c4.symm⟩
    · exact absurd c1 b1
  · rcases b' with ⟨c1, c2, c3, c4⟩ | ⟨c1, c2⟩
    · exact absurd b1 c1
    · cases he : evs TT i with
      | none => rw [he] at b2 c2; exact ⟨b2.1.trans c2.1.symm, b2.2.trans c2.2.symm⟩
      | some x => rw [he] at b2 c2; exact ⟨b2.1.trans c2.1.symm, b2.2.1.trans c2.2.1.symm⟩
theorem CQ.off {TT : List Tk} {σ σ1 : Sg} (h : CQ TT σ) (h18 : ∀ x, σ1.1 18 x = σ.1 18 x) (h19 : ∀ x, σ1.1 19 x = σ.1 19 x) (h20 : ∀ x, σ1.2 20 x = σ.2 20 x) : CQ TT σ1 := fun m t hm ht hg => by
  obtain ⟨h1, h2, h3, h4⟩ := h m t hm ht hg
  exact ⟨by rw [h18]; exact h1, by rw [h19]; exact h2, fun e => by rw [h20]; exact h3 e, fun e => by rw [h20]; exact h4 e⟩
theorem read_c {n L : Nat} {w : Int32} {σ σ1 : Sg} {b : Nat → Int32} (hL : L ≤ 2000) (h0 : σ.1 0 1 = nI L) (hb : ∀ i, i < L → σ.1 1 i &&& 255 = b i) (hk : KWc σ) (h : RCx PRG n 124 [.ref 0] σ (some (.int w)) σ1) : rdQ (toks b L (L + 1) 0) w (σ1.1 15 8) := by
  have hW : WT (toks b L (L + 1) 0) := toks_WT hL
  generalize hT : toks b L (L + 1) 0 = TT at hW ⊢
  have hq := h.by (Q := fun v σ' => ∃ w : Int32, v = some (.int w) ∧ rdQ TT w (σ'.1 15 8)) (fun m d => p_124_0 σ (fun σ2 h2 w3 σ3 h3 => by
    rw [h0] at h2
    have hC := rc100 (b := b) h2 ⟨hL, hb⟩ hk
    rw [hT] at hC
    have hC2 : CQ TT (s1 σ2 0 1 (0 : Int32)) := hC.off (fun x => s1_off (by omega)) (fun x => s1_off (by omega)) (fun x => rfl)
    obtain ⟨i, f, st, hi, hp⟩ := pass_c hW hC2 (Or.inl rfl) h3
    refine ⟨fun z σ4 h4 w6 σ5 h5 σ7 h7 σ8 h8 => ⟨w3, rfl, ?_⟩, fun z => ⟨w3, rfl, i, f, st, ?_⟩⟩
    · rcases hp with ⟨b1, b2, b3, b4⟩ | ⟨b1, b2⟩
      · cases b3
        exact absurd z (nI_ne0 (by omega) (by omega))
      · cases he : evs TT i with
        | some x =>
          rw [he] at b2
          obtain ⟨c1, c2, c3, c4⟩ := b2
          cases c1
          exact absurd z (nI_ne0 (by omega) (by omega))
        | none =>
          rw [he] at b2
          obtain ⟨c1, c2, c3, D, c4, c5, c6⟩ := b2
          have e4 : σ4 = s1 (s1 (s1 (s1 (s1 σ3 3 0 (4 : Int32)) 3 1 (4 : Int32)) 3 2 (-1 : Int32)) 3 3 (0 : Int32)) 3 9 (0 : Int32) := h4.by (Q := fun _ s' => s' = s1 (s1 (s1 (s1 (s1 σ3 3 0 (4 : Int32)) 3 1 (4 : Int32)) 3 2 (-1 : Int32)) 3 3 (0 : Int32)) 3 9 (0 : Int32)) (fun m d => p_71_0 σ3 rfl)
          have hC4 : CQ TT σ4 := c3.off (fun x => by rw [e4]; rw [s1_off (by omega), s1_off (by omega), s1_off (by omega), s1_off (by omega), s1_off (by omega)]) (fun x => by rw [e4]; rw [s1_off (by omega), s1_off (by omega), s1_off (by omega), s1_off (by omega), s1_off (by omega)]) (fun x => by rw [e4]; rfl)
          obtain ⟨j, g, st', hj, hp'⟩ := pass_c hW hC4 (Or.inr ⟨⟨by rw [e4, s1_off (by omega), s1_off (by omega), s1_off (by omega), s1_off (by omega), s1_on], by rw [e4, s1_off (by omega), s1_off (by omega), s1_off (by omega), s1_on]⟩, (by rw [e4, s1_off (by omega), s1_off (by omega), s1_on] : σ4.1 3 2 = -1), by rw [e4, s1_off (by omega), s1_on]⟩) h5
          obtain ⟨rfl, rfl⟩ := stop_one st st'
          have p8 : σ5.1 15 8 = -1 := by
            rcases hp' with ⟨d1, -⟩ | ⟨-, d2⟩
            · exact absurd b1 d1
            · rw [he] at d2
              exact d2.2.1
          have p8' : σ8.1 15 8 = -1 := by
            rw [h8.field (q0 := 15) (c := 8) (k0 := 8) rfl nf_s (by decide), h7.field (q0 := 15) (c := 8) (k0 := 8) rfl nf_s (by decide)]
            exact p8
          refine ⟨i, f, st, Or.inr ⟨b1, ?_⟩⟩
          rw [he]
          exact ⟨z, p8'⟩
    · rcases hp with ⟨b1, b2, b3, b4⟩ | ⟨b1, b2⟩
      · cases b3
        exact Or.inl ⟨b1, b2, rfl, b4⟩
      · refine Or.inr ⟨b1, ?_⟩
        cases he : evs TT i with
        | some x =>
          rw [he] at b2
          obtain ⟨c1, c2, c3, c4⟩ := b2
          cases c1
          exact ⟨rfl, c2, c3, c4⟩
        | none =>
          rw [he] at b2
          cases b2.1
          exact absurd rfl z))
  obtain ⟨w', e, h2⟩ := hq
  cases e
  exact h2
theorem nar_255 (x : Int32) : (vp_nar .byte x) &&& 255 = x &&& 255 := byte_255 x
theorem side_of {x : Int32} (h : inR x 2 = true) : ∃ sd, sd < 2 ∧ x = nI sd := by
  obtain ⟨a, b⟩ := inR_lo h
  refine ⟨x.toInt.toNat, by omega, Int32.toInt_inj.mp ?_⟩
  rw [nI_toInt (by omega)]
  omega
theorem keep_k {n : Nat} {σ σ1 : Sg} (h : RCx PRG n 203 [.ref 97] σ none σ1) (hk : KWr σ) : KWr σ1 := fun j hj => by
  have := (h.cell gg_G5t_104 ga_104 vi_t (by decide) (fun x hx => by
    rcases List.mem_cons.mp hx with rfl | hx
    · intro e; cases e
    · cases hx)).2 j
  rw [this]
  exact hk j hj
theorem read_end {TT : List Tk} {σ : Sg} {d : Nat} : ∀ m, ((∃ i D sd, TIr TT i D sd σ ∧ kdT TT i = 0) ∨ FAr TT σ) → KWr σ → Pl PRG m d 204 166 [(0, .ref 97)] [] σ (fun v σ' => ∃ w : Int32, v = some (.int w) ∧ rdQ TT w (σ'.1 97 17) ∧ KWr σ') := by
  intro m h hk
  refine Pl.pos (fun m1 _ => p_204_166 σ ?_)
  have kw : ∀ σ' : Sg, σ'.2 = σ.2 → KWr σ' := fun σ' e j hj => by rw [e]; exact hk j hj
  rcases h with ⟨i, D, sd, ⟨hR, hP, hs, hN, h20, hl6, hsd, h19, hPK, hTR, hCU, hnm⟩, hk0⟩ | hF
  · obtain ⟨p1, p2, p3, p4, p5⟩ := hP
    have st : stopAt TT i 0 := stop_f hs (by rw [hk0]; rfl)
    have z : (0 : Int32) ≤ 0 := by decide
    rw [p3]
    cases he : evs TT i with
    | none =>
      rw [he] at p4
      have e15 : σ.1 97 15 = 0 := p4
      rw [e15]
      refine ⟨fun _ => ⟨fun _ => ⟨fun _ => ⟨fun _ => ⟨0, rfl, ⟨i, 0, st, Or.inr ⟨rfl, ?_⟩⟩, kw _ rfl⟩, fun c => absurd z c⟩, fun c => absurd z c⟩, fun c => absurd z c⟩, fun c => absurd z c⟩
      rw [he]
      refine ⟨rfl, ?_⟩
      rw [s1_off (by omega), s1_off (by omega), s1_off (by omega), s1_off (by omega), s1_off (by omega), s1_off (by omega), s1_on]
    | some x =>
      rw [he] at p4
      obtain ⟨q1, q2, q3, q4⟩ := p4
      rw [q1]
      have nz : ¬ nI x.1 ≤ 0 := nI_nle (by omega) (by omega)
      refine ⟨fun _ => ⟨fun c => absurd c nz, fun _ => ⟨fun _ => ⟨fun c => absurd c nz, fun _ => ⟨nI x.1, rfl, ⟨i, 0, st, Or.inr ⟨rfl, ?_⟩⟩, kw _ rfl⟩⟩, fun c => absurd z c⟩⟩, fun c => absurd z c⟩
      rw [he]
      exact ⟨rfl, by rw [s1_on]; exact q2, q3, q4⟩
  · have hp := hF.pos.1
    obtain ⟨i, f, a1, a2, a3, a4, a5, a6⟩ := hF
    refine ⟨fun c => absurd c hp, fun _ => ⟨fun c => absurd c hp, fun _ => ⟨σ.1 97 13, rfl, ⟨i, f, a1, Or.inl ⟨a2, a3, a5, ?_⟩⟩, kw _ rfl⟩⟩⟩
    rw [s1_on]; exact a6
theorem read_m {n L : Nat} {w : Int32} {σ σ1 : Sg} {b : Nat → Int32} (hL : L ≤ 2000) (h0 : σ.1 97 2 = nI L) (hb : ∀ i, i < L → σ.1 98 i &&& 255 = b i) (hk : KWr σ) (h : RCx PRG n 204 [.ref 97] σ (some (.int w)) σ1) : rdQ (toks b L (L + 1) 0) w (σ1.1 97 17) ∧ KWr σ1 := by
  have hW : WT (toks b L (L + 1) 0) := toks_WT hL
  generalize hT : toks b L (L + 1) 0 = TT at hW ⊢
  have hq := h.by (Q := fun v σ' => ∃ w : Int32, v = some (.int w) ∧ rdQ TT w (σ'.1 97 17) ∧ KWr σ') (fun m d => p_204_0 σ (by
    rw [h0]
    have main : ∀ (m2 : Nat) (σ2 : Sg), ((∃ i D sd, TIr TT i D sd σ2) ∨ FAr TT σ2) → KWr σ2 → Pl PRG m2 d 204 144 [(0, .ref 97)] [] σ2 (fun v σ' => ∃ w : Int32, v = some (.int w) ∧ rdQ TT w (σ'.1 97 17) ∧ KWr σ') := by
      intro m2
      induction m2 using Nat.strongRecOn with
      | _ m2 ih =>
        intro σ2 hI hk2
        refine Pl.pos (fun m3 hm3 => p_204_144 σ2 ?_)
        rcases hI with ⟨i, D, sd, hT2⟩ | hF
        · refine ⟨fun _ w2 σ3 h3 _ => ?_, fun c => absurd hT2.2.1.2.2.1 c⟩
          obtain ⟨rfl, e3⟩ := rc189 (b := 0) hW h3 hT2.1 hT2.2.1 hT2.2.2.1 (by decide)
          refine ⟨fun z σ4 h4 => ?_, fun z => ?_⟩
          · rcases e3 with ⟨-, n0⟩ | ⟨e, -⟩
            · have hon := tell_r hW hT2 n0 h4
              have hk4 := keep_k h4 hk2
              rcases hon with ⟨j, D', j1, j2⟩ | g
              · exact ih m3 (by omega) σ4 (Or.inl ⟨j, D', sd, j2⟩) hk4
              · exact ih m3 (by omega) σ4 (Or.inr g) hk4
            · rw [e] at z; exact absurd z (by decide)
          · rcases e3 with ⟨e, -⟩ | ⟨-, e0⟩
            · exact absurd e z
            · exact read_end m3 (Or.inl ⟨i, D, sd, hT2, e0⟩) hk2
        · exact ⟨fun c => absurd c hF.pos.2.2, fun _ => read_end m3 (Or.inr hF) hk2⟩
    have loop : ∀ (m2 k : Nat) (σ2 : Sg), k ≤ L → σ2.1 97 4 = nI L → (∀ j, σ2.1 98 j = σ.1 98 j) → (∀ j, j < k → σ2.1 99 j &&& 255 = σ.1 98 j &&& 255) → KWr σ2 → Pl PRG m2 d 204 10 [(0, .ref 97), (1, .int (nI k))] [] σ2 (fun v σ' => ∃ w : Int32, v = some (.int w) ∧ rdQ TT w (σ'.1 97 17) ∧ KWr σ') := by
      intro m2
      induction m2 with
      | zero => intro k σ2 _ _ _ _ _; exact Pl.zero
      | succ m2 ih =>
        intro k σ2 hkL h4 h98 h99 hk2
        refine p_204_10 σ2 (nI k) ?_
        rw [h4]
        refine ⟨fun c σ3 h3 => ?_, fun c _ _ => ?_⟩
        · have hk' : k = L := by
            have := (nI_leI (a := L) (b := k) (by omega) (by omega)).mp c
            omega
          subst hk'
          obtain ⟨hR, hk3⟩ := rc188 (b := b) (L := k) h3 ⟨hL, by rw [s1_off (by omega)]; exact h4, fun i hi => by rw [s1_off (by omega)]; exact (h99 i hi).trans (hb i hi)⟩ (fun j hj => hk2 j hj)
          rw [hT] at hR
          intro hin _ _ _
          obtain ⟨sd, hsd, esd⟩ := side_of hin
          rw [esd, nI_clamp (by omega)]
          refine main m2 _ (Or.inl ⟨0, (0, 0, [], none, none), sd, ?_, ⟨?_, by omega, ?_, ?_, ?_⟩, rfl, ?_, ?_, by show (0 : Nat) ≤ 6; decide, hsd, ?_, ⟨?_, ?_⟩, ?_, ⟨?_, ?_⟩, ?_⟩) (fun j hj => hk3 j hj)
          · exact fun z t hz ht => by
              obtain ⟨p1, p2, p3, p4⟩ := hR z t hz ht
              refine ⟨?_, ?_, fun e => ?_, p4⟩
              · iterate 12 rw [s1_off (by omega)]
                exact p1
              · iterate 12 rw [s1_off (by omega)]
                exact p2
              · iterate 12 rw [s1_off (by omega)]
                exact p3 e
          · iterate 11 rw [s1_off (by omega)]
            exact s1_on
          · iterate 9 rw [s1_off (by omega)]
            exact s1_on
          · show (s1 _ 97 37 _).1 97 15 = 0
            iterate 8 rw [s1_off (by omega)]
            exact s1_on
          · iterate 10 rw [s1_off (by omega)]
            exact s1_on
          · intro q e he
            cases q <;> cases he
          · iterate 6 rw [s1_off (by omega)]
            exact s1_on
          · iterate 7 rw [s1_off (by omega)]
            exact s1_on
          · iterate 5 rw [s1_off (by omega)]
            exact s1_on
          · iterate 4 rw [s1_off (by omega)]
            exact s1_on
          · show (s1 _ 97 37 _).1 108 sd = -1
            iterate 3 rw [s1_off (by omega)]
            exact s1_on
          · iterate 2 rw [s1_off (by omega)]
            exact s1_on
          · intro q e he
            cases q <;> cases he
          · intro e he
            cases he
        · have hk' : k < L := nle_of (by omega) (by omega) c
          rw [nI_clamp (by omega), nI_1]
          refine ih (k + 1) _ (by omega) (by rw [s1_off (by omega)]; exact h4) (fun j => by rw [s1_off (by omega)]; exact h98 j) (fun j hj => ?_) (fun j hj => hk2 j hj)
          by_cases e : j = k
          · subst e
            rw [s1_on, nar_255, h98]
          · rw [s1_off (fun h => e h.2)]
            exact h99 j (by omega)
    exact loop m 0 _ (by omega) s1_on (fun j => by rw [s1_off (by omega)]) (fun j hj => absurd hj (Nat.not_lt_zero _)) (fun j hj => hk j hj)))
  obtain ⟨w', e, h2⟩ := hq
  cases e
  exact h2
