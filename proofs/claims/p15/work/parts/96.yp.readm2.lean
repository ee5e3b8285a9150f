/-! read, the reference: the laws and the games behind it -/
def rdZ (lv : Nat) (TT : List Tk) (σ : Sg) (v : Option Value) (σ' : Sg) : Prop := ∃ w : Int32, v = some (.int w) ∧ ((¬ w = 0 ∧ rO lv σ σ') ∨ (w = 0 ∧ ∃ D, told0 TT D ∧ lR (lwD TT D) σ' ∧ rN σ' ∧ σ'.1 152 0 = 0 ∧ σ'.1 152 1 = 0 ∧ σ'.1 97 86 = 0))
theorem lR_of {TT : List Tk} {D : DT} {sd : Nat} {σ σ' : Sg} (hsd : sd < 2) (h18 : σ'.1 97 18 = nI sd) (hP : PKr TT D sd σ) (hTr : TRr TT D sd σ) (hCu : CUr TT D sd σ) (hok : okD TT D) (e : ∀ c, c = 106 ∨ c = 107 ∨ c = 108 ∨ c = 109 ∨ c = 110 ∨ c = 111 → ∀ j, σ'.1 c j = σ.1 c j) : lR (lwD TT D) σ' := by
  obtain ⟨p1, p2, p3, p4, p5, p6, p7⟩ := pk_rg hok.1
  have s0 : σ.1 106 sd = nI (pkS TT D.2.2.2.1) ∧ σ.1 107 sd = nI (pkR TT D.2.2.2.1) := by
    unfold PKr at hP
    cases hpk : D.2.2.2.1 with
    | none => rw [hpk] at hP; exact hP
    | some j =>
      rw [hpk] at hP
      have := p7 j hpk
      rw [hpk] at this
      exact ⟨hP.1.trans this.1, hP.2.trans this.2⟩
  have s2 : σ.1 108 sd = trT TT D.2.2.2.2 := by
    unfold TRr at hTr
    cases htr : D.2.2.2.2 with
    | none => rw [htr] at hTr; exact hTr
    | some j => rw [htr] at hTr; exact hTr
  refine ⟨sd, ⟨hsd, h18, (e 106 (by omega) sd).trans s0.1, (e 107 (by omega) sd).trans s0.2, ?_⟩, (e 109 (by omega) sd).trans hCu.1, fun k hk' => ?_⟩
  · rw [e 106 (by omega), e 108 (by omega), s0.1, s2]
    rfl
  · have hk2 : k < D.2.2.1.length := hk'
    have ek : D.2.2.1[k]? = some (D.2.2.1[k]) := List.getElem?_eq_getElem hk2
    obtain ⟨u1, u2⟩ := hCu.2 k _ ek
    refine ⟨?_, ?_⟩
    · rw [e 110 (by omega), u1]
      show _ = (match D.2.2.1[k]? with
        | some e => vlT TT (e.1 + 1)
        | none => 0)
      rw [ek]
    · rw [e 111 (by omega), u2]
      show _ = (match D.2.2.1[k]? with
        | some e => nI (kdT TT (e.1 + 2) - 18)
        | none => 0)
      rw [ek]
theorem read_end2 {TT : List Tk} {lv sd : Nat} {σ0 σ : Sg} {d : Nat} (hl : lv < 2 ∧ sd < 2 ∧ ¬ lv = sd) (hO : rO lv σ0 σ) : ∀ m, ((∃ i D, TIr TT i D sd σ ∧ kdT TT i = 0) ∨ FAr TT σ) → Pl PRG m d 204 166 [(0, .ref 97)] [] σ (rdZ lv TT σ0) := by
  intro m h
  refine Pl.pos (fun m1 _ => p_204_166 σ ?_)
  have n17 : ∀ y, rO lv σ0 (s1 σ 97 17 y) := fun y => hO.put (by unfold rIn; omega)
  rcases h with ⟨i, D, ⟨hR, hP, hs, hN, h20, hl6, hsd, h19, hPK, hTR, hCU, hnm⟩, hk0⟩ | hF
  · obtain ⟨p1, p2, p3, p4, p5⟩ := hP
    have st : stopAt TT i 0 := stop_f hs (by rw [hk0]; rfl)
    have z : (0 : Int32) ≤ 0 := by decide
    rw [p3]
    cases he : evs TT i with
    | none =>
      rw [he] at p4
      have e15 : σ.1 97 15 = 0 := p4
      rw [e15]
      have t0 : told0 TT D := ⟨i, st, hs, he, hl6⟩
      refine ⟨fun _ => ⟨fun _ => ⟨fun _ => ⟨fun _ => ⟨0, rfl, Or.inr ⟨rfl, D, t0, ?_, ⟨?_, ?_⟩, ?_, ?_, ?_⟩⟩, fun c => absurd z c⟩, fun c => absurd z c⟩, fun c => absurd z c⟩, fun c => absurd z c⟩
      · refine lR_of hsd ?_ hPK hTR hCU (told0_ok t0).1 (fun c hc j => ?_)
        · iterate 5 rw [s1_off (by omega)]
          rw [s1_on]; exact h19
        · iterate 7 rw [s1_off (by omega)]
      · iterate 4 rw [s1_off (by omega)]
        rw [s1_on]
      · iterate 3 rw [s1_off (by omega)]
        rw [s1_on]
      · rw [s1_off (by omega), s1_on]; rfl
      · rw [s1_on]; rfl
      · iterate 2 rw [s1_off (by omega)]
        rw [s1_on]
    | some x =>
      rw [he] at p4
      obtain ⟨q1, q2, q3, q4⟩ := p4
      rw [q1]
      have nz : ¬ nI x.1 ≤ 0 := nI_nle (by omega) (by omega)
      exact ⟨fun _ => ⟨fun c => absurd c nz, fun _ => ⟨fun _ => ⟨fun c => absurd c nz, fun _ => ⟨nI x.1, rfl, Or.inl ⟨nI_ne0 (by omega) (by omega), n17 _⟩⟩⟩, fun c => absurd z c⟩⟩, fun c => absurd z c⟩
  · have hp := hF.pos
    exact ⟨fun c => absurd c hp.1, fun _ => ⟨fun c => absurd c hp.1, fun _ => ⟨σ.1 97 13, rfl, Or.inl ⟨hp.2.2, n17 _⟩⟩⟩⟩
theorem frC {lv n : Nat} {v : Option Value} {σ σ1 : Sg} (h : RCx PRG n 188 [.ref 97] σ v σ1) : rO lv σ σ1 := by
  have hb := h.bits gGCr gACr bSCr (by decide) rfl
  have fl : ∀ k, nfS PRG SCr 12 k = true → σ1.1 97 k = σ.1 97 k := fun k hk => h.fldQ (q0 := 97) (c := 12) (k0 := k) rfl hk (by decide)
  intro c j hc
  rcases hc with ⟨⟨a, b⟩, -⟩ | ⟨a, -⟩ | ⟨a, b⟩ | ⟨a, b⟩ | ⟨rfl, a⟩
  · rcases (show c = 106 ∨ c = 107 ∨ c = 108 ∨ c = 109 by omega) with rfl | rfl | rfl | rfl
    · exact hb 106 rfl j
    · exact hb 107 rfl j
    · exact hb 108 rfl j
    · exact hb 109 rfl j
  · rcases a with rfl | rfl
    · exact hb 110 rfl j
    · exact hb 111 rfl j
  · rcases (show c = 125 ∨ c = 126 ∨ c = 127 by omega) with rfl | rfl | rfl
    · exact hb 125 rfl j
    · exact hb 126 rfl j
    · exact hb 127 rfl j
  · rcases (show c = 152 ∨ c = 153 ∨ c = 154 ∨ c = 155 ∨ c = 156 ∨ c = 157 by omega) with rfl | rfl | rfl | rfl | rfl | rfl
    · exact hb 152 rfl j
    · exact hb 153 rfl j
    · exact hb 154 rfl j
    · exact hb 155 rfl j
    · exact hb 156 rfl j
    · exact hb 157 rfl j
  · rcases a with rfl | rfl | rfl | rfl | rfl
    · exact fl 18 nfCr18
    · exact fl 45 nfCr45
    · exact fl 47 nfCr47
    · exact fl 48 nfCr48
    · exact fl 86 nfCr86
theorem read_m2 {n L lv : Nat} {w : Int32} {σ σ1 : Sg} {b : Nat → Int32} (hL : L ≤ 2000) (h0 : σ.1 97 2 = nI L) (hb : ∀ i, i < L → σ.1 98 i &&& 255 = b i) (hk : KWr σ) (hlv : σ.1 97 18 = nI lv) (hl2 : lv < 2) (h : RCx PRG n 204 [.ref 97] σ (some (.int w)) σ1) : (¬ w = 0 ∧ rO lv σ σ1) ∨ (w = 0 ∧ ∃ D, told0 (toks b L (L + 1) 0) D ∧ lR (lwD (toks b L (L + 1) 0) D) σ1 ∧ rN σ1 ∧ σ1.1 152 0 = 0 ∧ σ1.1 152 1 = 0 ∧ σ1.1 97 86 = 0) := by
  have hW : WT (toks b L (L + 1) 0) := toks_WT hL
  generalize hT : toks b L (L + 1) 0 = TT at hW ⊢
  have hq := h.by (Q := rdZ lv TT σ) (fun m d => p_204_0 σ (by
    rw [h0]
    have main : ∀ (m2 : Nat) (σ2 : Sg) (sd : Nat), lv < 2 ∧ sd < 2 ∧ ¬ lv = sd → ((∃ i D, TIr TT i D sd σ2) ∨ FAr TT σ2) → (∃ c, c ≤ 6 ∧ rS lv sd c σ σ2) → Pl PRG m2 d 204 144 [(0, .ref 97)] [] σ2 (rdZ lv TT σ) := by
      intro m2
      induction m2 using Nat.strongRecOn with
      | _ m2 ih =>
        intro σ2 sd hl hI hS
        obtain ⟨c, hc, hS⟩ := hS
        refine Pl.pos (fun m3 hm3 => p_204_144 σ2 ?_)
        rcases hI with ⟨i, D, hT2⟩ | hF
        · refine ⟨fun _ w2 σ3 h3 _ => ?_, fun c => absurd hT2.2.1.2.2.1 c⟩
          obtain ⟨rfl, e3⟩ := rc189 (b := 0) hW h3 hT2.1 hT2.2.1 hT2.2.2.1 (by decide)
          refine ⟨fun z σ4 h4 => ?_, fun z => ?_⟩
          · rcases e3 with ⟨-, n0⟩ | ⟨e, -⟩
            · have hon := tell_r hW hT2 n0 h4
              have hS4 := tl203 h4 hl hc hS
              rcases hon with ⟨j, D', j1, j2⟩ | g
              · exact ih m3 (by omega) σ4 sd hl (Or.inl ⟨j, D', j2⟩) hS4
              · exact ih m3 (by omega) σ4 sd hl (Or.inr g) hS4
            · rw [e] at z; exact absurd z (by decide)
          · rcases e3 with ⟨e, -⟩ | ⟨-, e0⟩
            · exact absurd e z
            · exact read_end2 hl hS.1 m3 (Or.inl ⟨i, D, hT2, e0⟩)
        · exact ⟨fun c => absurd c hF.pos.2.2, fun _ => read_end2 hl hS.1 m3 (Or.inr hF)⟩
    have loop : ∀ (m2 k : Nat) (σ2 : Sg), k ≤ L → σ2.1 97 4 = nI L → (∀ j, σ2.1 98 j = σ.1 98 j) → (∀ j, j < k → σ2.1 99 j &&& 255 = σ.1 98 j &&& 255) → KWr σ2 → rO lv σ σ2 → Pl PRG m2 d 204 10 [(0, .ref 97), (1, .int (nI k))] [] σ2 (rdZ lv TT σ) := by
      intro m2
      induction m2 with
      | zero => intro k σ2 _ _ _ _ _ _; exact Pl.zero
      | succ m2 ih =>
        intro k σ2 hkL h4 h98 h99 hk2 hO
        refine p_204_10 σ2 (nI k) ?_
        rw [h4]
        refine ⟨fun c σ3 h3 => ?_, fun c _ _ => ?_⟩
        · have hk' : k = L := by
            have := (nI_leI (a := L) (b := k) (by omega) (by omega)).mp c
            omega
          subst hk'
          have hO3 : rO lv σ σ3 := (hO.put (c := 97) (j := 2) (y := 0) (by unfold rIn; omega)).trans (frC h3)
          have e18 : σ3.1 97 18 = nI lv := (hO3 97 18 (Or.inr (Or.inr (Or.inr (Or.inr ⟨rfl, by omega⟩))))).trans hlv
          obtain ⟨hR, hk3⟩ := rc188 (b := b) (L := k) h3 ⟨hL, by rw [s1_off (by omega)]; exact h4, fun i hi => by rw [s1_off (by omega)]; exact (h99 i hi).trans (hb i hi)⟩ (fun j hj => hk2 j hj)
          rw [hT] at hR
          have esd : (1 : Int32) - σ3.1 97 18 = nI (1 - lv) := by rw [e18]; exact nI_subI (a := 1) (b := lv) (by omega)
          intro _ _ _ _
          have hsd : 1 - lv < 2 := by omega
          have hl : lv < 2 ∧ 1 - lv < 2 ∧ ¬ lv = 1 - lv := by omega
          rw [esd, nI_clamp (by omega)]
          generalize 1 - lv = sd at hsd hl ⊢
          refine main m2 _ sd hl (Or.inl ⟨0, (0, 0, [], none, none), ?_, ⟨?_, by omega, ?_, ?_, ?_⟩, rfl, ?_, ?_, by show (0 : Nat) ≤ 6; decide, hsd, ?_, ⟨?_, ?_⟩, ?_, ⟨?_, ?_⟩, ?_⟩) ⟨0, by decide, ?_, ?_, ?_⟩
          · exact fun z t hz ht => by
              obtain ⟨p1, p2, p3, p4⟩ := hR z t hz ht
              refine ⟨?_, ?_, fun e => ?_, p4⟩
              · iterate 12 rw [s1_off (by omega)]
                exact p1
              · iterate 12 rw [s1_off (by omega)]
                exact p2
              · iterate 12 rw [s1_off (by omega)]
                exact p3 e
          · iterate 11 rw [s1_off (by omega)]
            exact s1_on
          · iterate 9 rw [s1_off (by omega)]
            exact s1_on
          · show (s1 _ 97 37 _).1 97 15 = 0
            iterate 8 rw [s1_off (by omega)]
            exact s1_on
          · iterate 10 rw [s1_off (by omega)]
            exact s1_on
          · intro q e he
            cases q <;> cases he
          · iterate 6 rw [s1_off (by omega)]
            exact s1_on
          · iterate 7 rw [s1_off (by omega)]
            exact s1_on
          · iterate 5 rw [s1_off (by omega)]
            exact s1_on
          · iterate 4 rw [s1_off (by omega)]
            exact s1_on
          · show (s1 _ 97 37 _).1 108 sd = -1
            iterate 3 rw [s1_off (by omega)]
            exact s1_on
          · iterate 2 rw [s1_off (by omega)]
            exact s1_on
          · intro q e he
            cases q <;> cases he
          · intro e he
            cases he
          · refine hO3.trans (fun c j hc => ?_)
            unfold rIn at hc
            iterate 12 rw [s1_off (by omega)]
          · iterate 7 rw [s1_off (by omega)]
            exact s1_on
          · iterate 2 rw [s1_off (by omega)]
            exact s1_on
        · have hk' : k < L := nle_of (by omega) (by omega) c
          rw [nI_clamp (by omega), nI_1]
          refine ih (k + 1) _ (by omega) (by rw [s1_off (by omega)]; exact h4) (fun j => by rw [s1_off (by omega)]; exact h98 j) (fun j hj => ?_) (fun j hj => hk2 j hj) (hO.put (by unfold rIn; omega))
          by_cases e : j = k
          · subst e
            rw [s1_on, nar_255, h98]
          · rw [s1_off (fun h => e h.2)]
            exact h99 j (by omega)
    exact loop m 0 _ (by omega) s1_on (fun j => by rw [s1_off (by omega)]) (fun j hj => absurd hj (Nat.not_lt_zero _)) (fun j hj => hk j hj) ((rO.refl σ).put (by unfold rIn; omega))))
  obtain ⟨w', e, h2⟩ := hq
  cases e
  exact h2
theorem read_cS {n : Nat} {v : Option Value} {σ σ1 : Sg} (h : RCx PRG n 204 [.ref 97] σ v σ1) : cS σ σ1 := by
  have cov : ∀ q, q < 97 → ([81, 82, 83, 84, 85, 86, 87, 88] : List Nat).contains q = false → ZDr.contains q = true ∨ (match knd q with
    | some (0, c, _) => !(ClDr.contains c)
    | _ => false) = true := by decide +kernel
  intro q hq hE j
  rcases cov q hq hE with g | g
  · exact h.bits gGDr gADr bSDr (by decide) rfl q g j
  · split at g
    · rename_i c fs hk
      exact h.np hk (by simpa using g) npDr (by decide) j
    · cases g
