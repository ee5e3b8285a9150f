/-! read, with the customs' programs: both sides -/
def PPx (TT : List Tk) (iE : Nat) : PPt := fun k => ((psT TT iE).2.2.2.2.2).getD k ([], [])
def told8 (TT : List Tk) (D : DT) (PP : PPt) : Prop := told0 TT D ∧ ∃ iE, gtX TT iE ∧ PP = PPx TT iE
theorem PPx_at {TT : List Tk} {i k : Nat} (hk : k < (psT TT i).2.2.2.2.2.length) : (psT TT i).2.2.2.2.2[k]? = some (PPx TT i k) := by
  show _ = some (List.getD _ k _)
  rw [List.getD_eq_getElem?_getD, List.getElem?_eq_getElem hk]
  rfl
theorem told8_one {TT : List Tk} {D D' : DT} {PP PP' : PPt} (h : told8 TT D PP) (h' : told8 TT D' PP') : D = D' ∧ PP = PP' := by
  obtain ⟨h0, i, g, e⟩ := h
  obtain ⟨h0', j, g', e'⟩ := h'
  obtain ⟨rfl, -⟩ := stop_one g.1 g'.1
  exact ⟨told0_one h0 h0', e.trans e'.symm⟩
theorem told0_8 {TT : List Tk} {D : DT} {iE : Nat} (h : told0 TT D) (g : gtX TT iE) : (psT TT iE).2.2.2.2.2.length = D.2.2.1.length := by
  obtain ⟨i, s1, s2, s3, s4⟩ := h
  obtain ⟨rfl, -⟩ := stop_one s1 g.1
  exact ps_len i _ s2
theorem told8_ok {TT : List Tk} (hW : WT TT) {D : DT} {PP : PPt} (h : told8 TT D PP) : gPP D.2.2.1.length PP := by
  obtain ⟨h0, j, g, rfl⟩ := h
  have hl := told0_8 h0 g
  obtain ⟨i, s1, s2, s3, s4⟩ := h0
  obtain ⟨rfl, -⟩ := stop_one s1 g.1
  have hp := ps_ok hW i _ s3 s2
  refine ⟨s4, fun k hk => ?_⟩
  exact hp.1.2.2.2.2.2 _ (List.mem_of_getElem? (PPx_at (by rw [hl]; exact hk)))
theorem read_c8 {n L : Nat} {w : Int32} {σ σ1 : Sg} {b : Nat → Int32} (hL : L ≤ 2000) (h0 : σ.1 0 1 = nI L) (hb : ∀ i, i < L → σ.1 1 i &&& 255 = b i) (hk : KWc σ) (h : RCx PRG n 124 [.ref 0] σ (some (.int w)) σ1) : w = 0 → ∃ iE, gtX (toks b L (L + 1) 0) iE ∧ cpC (psT (toks b L (L + 1) 0) iE).2.2.2.2.2.length (PPx (toks b L (L + 1) 0) iE) σ1 := by
  have hW : WT (toks b L (L + 1) 0) := toks_WT hL
  generalize hT : toks b L (L + 1) 0 = TT at hW ⊢
  obtain ⟨w', e, hq⟩ := h.by (Q := fun v σ' => ∃ w : Int32, v = some (.int w) ∧ (w = 0 → ∃ iE, gtX TT iE ∧ cpC (psT TT iE).2.2.2.2.2.length (PPx TT iE) σ')) (fun m d => p_124_0 σ (fun σ2 h2 w3 σ3 h3 => by
    rw [h0] at h2
    have hC := rc100 (b := b) h2 ⟨hL, hb⟩ hk
    rw [hT] at hC
    have hC2 : CQ TT (s1 σ2 0 1 (0 : Int32)) := hC.off (fun x => s1_off (by omega)) (fun x => s1_off (by omega)) (fun x => rfl)
    have f2 := frV h2 (by decide) (by decide) rfl
    have l2 : sLaw σ σ2 := cut_law h2
    have f3 := frV h3 (by decide) (by decide) rfl
    have l3 := pass_noW h3
    have fX : exc EW σ σ3 := by
      intro q hq hE j
      by_cases c : 3 ≤ q ∧ q < 12
      · rw [l3 q c.1 c.2 j, s1_off (by omega), l2 q c.1 c.2 j]
      · have hv : EV.contains q = false := by
          have : ∀ q, q < 158 → EW.contains q = false → ¬ (3 ≤ q ∧ q < 12) → EV.contains q = false := by decide +kernel
          exact this q hq hE c
        have hq0 : ¬ q = 0 := fun e => by subst e; exact absurd hE (by decide)
        rw [f3 q hq hv j, s1_off (by omega), f2 q hq hv j]
    obtain ⟨i, f, st, hi, hp⟩ := pass_c hW hC2 (Or.inl rfl) h3
    refine ⟨fun z σ4 h4 w6 σ5 h5 σ7 h7 σ8 h8 => ⟨w3, rfl, fun _ => ?_⟩, fun z => ⟨w3, rfl, fun z' => absurd z' z⟩⟩
    rcases hp with ⟨b1, b2, b3, b4⟩ | ⟨b1, b2⟩
    · cases b3
      exact absurd z (nI_ne0 (by omega) (by omega))
    · cases he : evs TT i with
      | some x =>
        rw [he] at b2
        obtain ⟨c1, c2, c3, c4⟩ := b2
        cases c1
        exact absurd z (nI_ne0 (by omega) (by omega))
      | none =>
        rw [he] at b2
        obtain ⟨c1, c2, c3, D, c4, c5, c6⟩ := b2
        have e4 : σ4 = s1 (s1 (s1 (s1 (s1 σ3 3 0 (4 : Int32)) 3 1 (4 : Int32)) 3 2 (-1 : Int32)) 3 3 (0 : Int32)) 3 9 (0 : Int32) := h4.by (Q := fun _ s' => s' = s1 (s1 (s1 (s1 (s1 σ3 3 0 (4 : Int32)) 3 1 (4 : Int32)) 3 2 (-1 : Int32)) 3 3 (0 : Int32)) 3 9 (0 : Int32)) (fun m d => p_71_0 σ3 rfl)
        have f4 : exc [3] σ3 σ4 := by rw [e4]; exact (((((exc.refl σ3).put rfl).put rfl).put rfl).put rfl).put rfl
        have hC4 : CQ TT σ4 := c3.off (fun x => f4 18 (by decide) rfl x) (fun x => f4 19 (by decide) rfl x) (fun x => by rw [e4]; rfl)
        obtain ⟨j, g, st', hj, hp'⟩ := pass_c hW hC4 (Or.inr ⟨⟨by rw [e4, s1_off (by omega), s1_off (by omega), s1_off (by omega), s1_off (by omega), s1_on], by rw [e4, s1_off (by omega), s1_off (by omega), s1_off (by omega), s1_on]⟩, (by rw [e4, s1_off (by omega), s1_off (by omega), s1_on] : σ4.1 3 2 = -1), (by rw [e4, s1_off (by omega), s1_on] : σ4.1 3 3 = 0)⟩) h5
        obtain ⟨rfl, rfl⟩ := stop_one st st'
        rcases hp' with ⟨d1, -⟩ | ⟨-, d2⟩
        · exact absurd b1 d1
        · rw [he] at d2
          obtain ⟨d1, d2, d3, D', d4, d5, d6⟩ := d2
          have eD : D' = D := by rw [c4] at d4; cases d4; rfl
          subst eD
          have t0 : told0 TT D' := ⟨i, by rw [b1] at st; exact st, c4, he, c6⟩
          have hok := told0_ok t0
          have w15 : σ5.1 15 3 = 1 := pass_w h5
          have hw : PKw TT D' σ5 ∧ TRw TT D' σ5 ∧ CUw TT D' σ5 := by
            rcases d5 with d5 | d5
            · rw [w15] at d5; exact absurd d5 (by decide)
            · exact d5
          obtain ⟨hP, hTr, hCu⟩ := hw
          obtain ⟨p1, p2, p3, p4, p5, p6, p7⟩ := pk_rg hok.1.1
          have s0 : σ5.1 3 0 = nI (pkS TT D'.2.2.2.1) ∧ σ5.1 3 1 = nI (pkR TT D'.2.2.2.1) := by
            unfold PKw at hP
            cases hpk : D'.2.2.2.1 with
            | none => rw [hpk] at hP; exact hP
            | some j =>
              rw [hpk] at hP
              have := p7 j hpk
              rw [hpk] at this
              exact ⟨hP.1.trans this.1, hP.2.trans this.2⟩
          have s2 : σ5.1 3 2 = trT TT D'.2.2.2.2 := by
            unfold TRw at hTr
            cases htr : D'.2.2.2.2 with
            | none => rw [htr] at hTr; exact hTr
            | some j => rw [htr] at hTr; exact hTr
          obtain ⟨q1, q2, q3⟩ := rc75 h7 ⟨p1, p2⟩ ⟨p3, p4⟩ p5 s0.1 s0.2 s2
          obtain ⟨r1, r2, r3, r4, r5⟩ := rc123 h8
          have f5 := frV h5 (by decide) (by decide) rfl
          have hE := pass_e hW (iE := i) (by rw [b1] at st; exact st) he hC4 ⟨⟨by rw [e4, s1_off (by omega), s1_off (by omega), s1_off (by omega), s1_off (by omega), s1_on], by rw [e4, s1_off (by omega), s1_off (by omega), s1_off (by omega), s1_on]⟩, (by rw [e4, s1_off (by omega), s1_off (by omega), s1_on] : σ4.1 3 2 = -1), (by rw [e4, s1_off (by omega), s1_on] : σ4.1 3 3 = 0)⟩ (by rw [e4, s1_on]) h5
          obtain ⟨N, n1, n2, n3⟩ := hE
          refine ⟨i, ⟨by rw [b1] at st; exact st, he⟩, fun k hk => ?_⟩
          have c5 := (n3 k _ (PPx_at hk)).fr (N1 := 400) (by omega) (fun x _ => rfl) (fun x _ => ⟨rfl, rfl⟩)
          exact c5.fr14 (fun x => (r5 8 (by decide) rfl x).trans (q3 8 (by decide) rfl x)) (fun x => ⟨(r5 6 (by decide) rfl x).trans (q3 6 (by decide) rfl x), (r5 7 (by decide) rfl x).trans (q3 7 (by decide) rfl x)⟩)))
  cases e
  exact hq
theorem ruB.le {c0 l0 c l c' l' r : Nat} {σ : Sg} {ls : List Lt} (h : ruB c0 l0 c l σ r ls) (hc : c ≤ c') (hl : l ≤ l') : ruB c0 l0 c' l' σ r ls := by
  obtain ⟨i, a, b, e1, e2, f⟩ := h
  exact ⟨i, a, by omega, e1, e2, f.fr hc (fun x _ _ => ⟨rfl, rfl⟩) (fun q x _ _ _ _ => rfl)⟩
theorem emR.bd {TT : List Tk} {iE sd : Nat} {σ0 σ : Sg} (h : emR TT iE sd σ) (hq : RdQ sd σ0 σ) (hs : sd < 2) : bdR sd (psT TT iE).2.2.2.2.2.length (PPx TT iE) σ := by
  obtain ⟨c, l, ⟨e37, -⟩, hc, ⟨e30, -⟩, hl, f⟩ := h
  obtain ⟨-, c', l', k1, -, k3, k4, -, k6⟩ := hq
  rw [e37, nI_toInt (by omega)] at k1
  rw [e30, nI_toInt (by omega)] at k4
  intro k hk
  obtain ⟨a, b⟩ := f k _ (PPx_at hk)
  exact ⟨a.le (by omega) (by omega), b.le (by omega) (by omega)⟩
theorem bdR.rd {lv nc : Nat} {PP : PPt} {σ σ1 : Sg} (h : bdR lv nc PP σ) (h6 : nc ≤ 6) (hl : lv < 2) (hq : RdQ (1 - lv) σ σ1) (hw : Wr lv σ σ1) : bdR lv nc PP σ1 := by
  obtain ⟨⟨a1, a2, a3, -⟩, c, l, k1, -, k3, k4, -, k6⟩ := hq
  refine h.side h6 (fun r p1 p2 => a3 r (by omega)) (fun q x p1 p2 p3 p4 => ?_) (fun x p1 p2 => a1 x (by omega))
  by_cases e : q ≤ 116
  · exact hw q x p1 e (by omega)
  · obtain ⟨b1, b2, b3⟩ := a2 x (by omega)
    rcases (show q = 117 ∨ q = 118 ∨ q = 119 by omega) with rfl | rfl | rfl
    · exact b1
    · exact b2
    · exact b3
theorem k8x_2 {t : Int} {σ : Sg} (hJ : J8 t σ) : OkI PRG 60 124 [.ref 0] σ (fun w σ' => (JT 0 t σ' ∧ (KWc σ' ∧ KWr σ') ∧ rdQ (tkOf t σ') w (σ'.1 15 8)) ∧ ∃ B, V8 B ∧ R8 B σ' ∧ ((¬ w = 0 ∧ C8 B σ') ∨ (w = 0 ∧ ∃ D PP, told8 (tkOf t σ') D PP ∧ C8 (Ard (tkOf t σ') D, PP) σ'))) := by
  have hr := hJ.1.1.rg
  have h5 := hJ.1
  obtain ⟨B, hv, hC, hR⟩ := hJ.2
  obtain ⟨⟨-, e1, e2⟩, hT, hK⟩ := h5
  have hP := Ok.part (Q' := fun v σ' => ∀ w : Int32, v = some (.int w) → mS σ σ' ∧ ((¬ w = 0 ∧ C8 B σ') ∨ (w = 0 ∧ ∃ D PP, told8 (tkOf t σ) D PP ∧ C8 (Ard (tkOf t σ) D, PP) σ'))) (kx_2 hJ.1) (fun n d m hm v σ' hrun w e => by
    subst e
    have hRx : RCx PRG n 124 [.ref 0] σ (some (.int w)) σ' := ⟨m, d, hm, hrun⟩
    rcases read_c2 (L := t.toNat) (b := byOf t σ) (by omega) (nI_of3 e1 hr.1.1 hr.1.2) (fun i hi => (hT i (by omega)).trans (byOf_in hi)) hK.1 hRx with ⟨a, b⟩ | ⟨a, b, D, c1, c2, c3, c4, c5, c6⟩
    · exact ⟨b.mS rfl, Or.inl ⟨a, hC.ask b (hC.1.ex b rfl) rfl⟩⟩
    · obtain ⟨iE, g, cp⟩ := read_c8 (L := t.toNat) (b := byOf t σ) (by omega) (nI_of3 e1 hr.1.1 hr.1.2) (fun i hi => (hT i (by omega)).trans (byOf_in hi)) hK.1 hRx a
      refine ⟨b, Or.inr ⟨a, D, PPx (tkOf t σ) iE, ⟨c1, iE, g, rfl⟩, ⟨c2, c3, c4, c5, c6⟩, ?_, trivial⟩⟩
      have hl := told0_8 c1 g
      rw [hl] at cp
      exact cp)
  refine Ok.mono hP (fun v σ' hq => ?_)
  obtain ⟨⟨w, hw, j⟩, s⟩ := hq
  obtain ⟨s1, s2⟩ := s w hw
  refine ⟨w, hw, j, B, hv, hR.ms s1, ?_⟩
  rw [tk_98 (s1 98 (by decide) (by decide))]
  exact s2
theorem k8m_2 {t : Int} {w0 : Int32} {σ : Sg} (hJ : (JT 0 t σ ∧ (KWc σ ∧ KWr σ) ∧ rdQ (tkOf t σ) w0 (σ.1 15 8)) ∧ ∃ B, V8 B ∧ R8 B σ ∧ ((¬ w0 = 0 ∧ C8 B σ) ∨ (w0 = 0 ∧ ∃ D PP, told8 (tkOf t σ) D PP ∧ C8 (Ard (tkOf t σ) D, PP) σ))) : OkI PRG 60 204 [.ref 97] σ (fun w σ' => w0 = w ∧ J8 0 σ') := by
  obtain ⟨hJ1, B, hv, hR, hA⟩ := hJ
  have hr := hJ1.1.rg
  obtain ⟨N, hN⟩ := hJ1.1.1
  have h0 := Ok.and (km_2 hJ1) (Ok.deep (read_L hN) (show 9 ≤ 60 by decide))
  obtain ⟨⟨-, e1, e2⟩, ⟨hKc, hKr⟩, hQ⟩ := hJ1
  obtain ⟨lv, hl2, hlv⟩ := hR.1.lv
  have hWT : WT (tkOf t σ) := toks_WT (by omega)
  have hP := Ok.part (Q' := fun v σ' => ∀ w : Int32, v = some (.int w) → cS σ σ' ∧ Wr lv σ σ' ∧ ((¬ w = 0 ∧ rO lv σ σ') ∨ (w = 0 ∧ ∃ D iE, told0 (tkOf t σ) D ∧ R7 (Ard (tkOf t σ) D) σ' ∧ gtX (tkOf t σ) iE ∧ emR (tkOf t σ) iE (1 - lv) σ' ∧ σ'.1 97 18 = nI (1 - lv)))) h0 (fun n d m hm v σ' hrun w e => by
    subst e
    have hRx : RCx PRG n 204 [.ref 97] σ (some (.int w)) σ' := ⟨m, d, hm, hrun⟩
    refine ⟨read_cS hRx, read_w hRx hlv hl2, ?_⟩
    rcases read_m2 (L := t.toNat) (b := byOf t σ) (by omega) (nI_of3 e2 hr.2.1 hr.2.2) (fun i hi => byOf_in hi) hKr hlv hl2 hRx with ⟨a, b⟩ | ⟨a, D, c1, c2, c3, c4, c5, c6⟩
    · exact Or.inl ⟨a, b⟩
    · obtain ⟨i, s1, s2, s3, s4⟩ := c1
      obtain ⟨d1, d2⟩ := read_re (L := t.toNat) (b := byOf t σ) (by omega) (nI_of3 e2 hr.2.1 hr.2.2) (fun i hi => byOf_in hi) hKr hlv hl2 ⟨s1, s3⟩ hRx
      exact Or.inr ⟨a, D, i, ⟨i, s1, s2, s3, s4⟩, ⟨c2, c3, c4, c5, c6⟩, ⟨s1, s3⟩, d1, d2⟩)
  refine Ok.mono (Ok.deep hP (show max 60 60 ≤ 60 by decide)) (fun v σ' hq => ?_)
  obtain ⟨⟨⟨w, hw, ew, j⟩, w', hw', rd⟩, s⟩ := hq
  obtain ⟨sc, sw, s⟩ := s w hw
  subst ew
  have hwn : wn (σ.1 97 18) = lv := by rw [hlv]; exact nI_clamp (by omega)
  rw [hwn] at rd
  refine ⟨w0, hw, rfl, j, ?_⟩
  rcases hA with ⟨a, hC⟩ | ⟨a, D, PP, d1, hC⟩
  · rcases s with ⟨b, r⟩ | ⟨b, D', iE, d2, r, -⟩
    · refine ⟨B, hv, hC.cs sc, hR.1.ro hv.1 hlv hl2 r, fun lv' hl' e' => ?_⟩
      have e18 : σ'.1 97 18 = nI lv := (r 97 18 (Or.inr (Or.inr (Or.inr (Or.inr ⟨rfl, by omega⟩))))).trans hlv
      have el : lv' = lv := (nI_eq (by omega) (by omega)).mp (e'.symm.trans e18)
      subst el
      exact (hR.2 lv' hl2 hlv).rd hv.2.1 hl2 rd sw
    · exact absurd b a
  · rcases s with ⟨b, r⟩ | ⟨b, D', iE, d2, r, g, em, e18⟩
    · exact absurd a b
    · obtain ⟨rfl, rfl⟩ := told8_one d1 (⟨d2, iE, g, rfl⟩ : told8 (tkOf t σ) D' (PPx (tkOf t σ) iE))
      have oo := told0_ok d1.1
      refine ⟨(Ard (tkOf t σ) D, PPx (tkOf t σ) iE), ⟨⟨lwD_ok oo.1 oo.2, trivial, trivial, trivial, Nat.zero_le _⟩, told8_ok hWT d1⟩, hC.cs sc, r, fun lv' hl' e' => ?_⟩
      have el : lv' = 1 - lv := (nI_eq (by omega) (by omega)).mp (e'.symm.trans e18)
      subst el
      have := em.bd rd (by omega)
      rw [told0_8 d1.1 g] at this
      exact this
