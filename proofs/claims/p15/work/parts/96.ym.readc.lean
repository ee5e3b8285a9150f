/-! read, the class: the laws and the games behind it -/
def sLaw (σ σ' : Sg) : Prop := ∀ q, 3 ≤ q → q < 12 → ∀ j, σ'.1 q j = σ.1 q j
theorem pass_noW {n : Nat} {w : Int32} {σ σ1 : Sg} (h : RCx PRG n 114 [.ref 15, .int (0 : Int32)] σ (some (.int w)) σ1) : sLaw σ σ1 := by
  have fin : ∀ d n (σ' : Sg), sLaw σ σ' → Pl PRG n d 114 143 [(0, .ref 15)] [] σ' (fun _ s' => sLaw σ s') := fun d n σ' hf => Pl.pos (fun n1 _ => p_114_143 σ' ⟨fun _ => ⟨fun _ => Pl.pos (fun n2 _ => p_114_173 σ' hf), fun _ => Pl.pos (fun n2 _ => p_114_173 _ (fun q a b j => by rw [s1_off (by omega), s1_off (by omega)]; exact hf q a b j))⟩, fun _ => Pl.pos (fun n2 _ => p_114_173 σ' hf)⟩)
  have loop : ∀ d n kk (σ' : Sg), σ'.1 15 3 = 0 → sLaw σ σ' → Pl PRG n d 114 45 [(0, .ref 15), (2, .int kk)] [] σ' (fun _ s' => sLaw σ s') := by
    intro d n
    induction n using Nat.strongRecOn with
    | _ n ih =>
      intro kk σ' h0 hf
      have next : ∀ n2 (σ2 : Sg), n2 < n → lawK σ' σ2 → Pl PRG n2 d 114 137 [(0, .ref 15), (2, .int kk)] [] σ2 (fun _ s' => sLaw σ s') := fun n2 σ2 h2 hk => Pl.pos (fun n3 h3 => p_114_137 σ2 kk (ih n3 (by omega) _ σ2 (hk.2.trans h0) (fun q a b j => (hk.1 q a b j).trans (hf q a b j))))
      refine Pl.pos (fun n1 h1 => p_114_45 σ' kk ?_)
      have at124 : Pl PRG n1 d 114 124 [(0, .ref 15), (2, .int kk)] [] σ' (fun _ s' => sLaw σ s') := Pl.pos (fun n2 h2 => p_114_124 σ' kk (fun w2 σ2 h3 _ => by
        have k1 := h3.noW (by decide) h0
        exact ⟨fun _ => next n2 σ2 (by omega) k1, fun _ σ3 h4 => next n2 σ3 (by omega) (k1.trans (h4.noW (by decide) (k1.2.trans h0)))⟩))
      exact ⟨fun _ => fin d n1 σ' hf, fun _ => ⟨fun _ => ⟨fun _ => fin d n1 σ' hf, fun _ => ⟨fun _ σ2 h2 => next n1 σ2 (by omega) (h2.noW (by decide) h0), fun _ => ⟨fun _ σ2 h2 => next n1 σ2 (by omega) (h2.noW (by decide) h0), fun _ => ⟨fun _ => ⟨fun _ => at124, fun _ w2 σ2 h2 _ => next n1 σ2 (by omega) (h2.noW (by decide) h0)⟩, fun _ => at124⟩⟩⟩⟩, fun _ => fin d n1 σ' hf⟩⟩
  refine h.by (Q := fun _ s' => sLaw σ s') (fun n d => p_114_0 σ 0 (fun _ => loop d n 0 _ ?_ (fun q a b j => ?_)))
  · iterate 6 rw [s1_off (by omega)]
    exact s1_on
  · iterate 7 rw [s1_off (by omega)]
theorem pass_w {n : Nat} {x w : Int32} {σ σ1 : Sg} (h : RCx PRG n 114 [.ref 15, .int x] σ (some (.int w)) σ1) : σ1.1 15 3 = x := by
  have fin : ∀ d n (σ' : Sg), σ'.1 15 3 = x → Pl PRG n d 114 143 [(0, .ref 15)] [] σ' (fun _ s' => s'.1 15 3 = x) := fun d n σ' hf => Pl.pos (fun n1 _ => p_114_143 σ' ⟨fun _ => ⟨fun _ => Pl.pos (fun n2 _ => p_114_173 σ' hf), fun _ => Pl.pos (fun n2 _ => p_114_173 _ (by rw [s1_off (by omega), s1_off (by omega)]; exact hf))⟩, fun _ => Pl.pos (fun n2 _ => p_114_173 σ' hf)⟩)
  have fl : ∀ {n mi av v} {σ σ1 : Sg}, RCx PRG n mi av σ v σ1 → SRd.contains mi = true → σ1.1 15 3 = σ.1 15 3 := fun h hm => h.fldQ (q0 := 15) (c := 8) (k0 := 3) rfl nfRd hm
  have loop : ∀ d n kk (σ' : Sg), σ'.1 15 3 = x → Pl PRG n d 114 45 [(0, .ref 15), (2, .int kk)] [] σ' (fun _ s' => s'.1 15 3 = x) := by
    intro d n
    induction n using Nat.strongRecOn with
    | _ n ih =>
      intro kk σ' h0
      have next : ∀ n2 (σ2 : Sg), n2 < n → σ2.1 15 3 = σ'.1 15 3 → Pl PRG n2 d 114 137 [(0, .ref 15), (2, .int kk)] [] σ2 (fun _ s' => s'.1 15 3 = x) := fun n2 σ2 h2 hk => Pl.pos (fun n3 h3 => p_114_137 σ2 kk (ih n3 (by omega) _ σ2 (hk.trans h0)))
      refine Pl.pos (fun n1 h1 => p_114_45 σ' kk ?_)
      have at124 : Pl PRG n1 d 114 124 [(0, .ref 15), (2, .int kk)] [] σ' (fun _ s' => s'.1 15 3 = x) := Pl.pos (fun n2 h2 => p_114_124 σ' kk (fun w2 σ2 h3 _ => by
        have k1 := fl h3 (by decide)
        exact ⟨fun _ => next n2 σ2 (by omega) k1, fun _ σ3 h4 => next n2 σ3 (by omega) ((fl h4 (by decide)).trans k1)⟩))
      exact ⟨fun _ => fin d n1 σ' h0, fun _ => ⟨fun _ => ⟨fun _ => fin d n1 σ' h0, fun _ => ⟨fun _ σ2 h2 => next n1 σ2 (by omega) (fl h2 (by decide)), fun _ => ⟨fun _ σ2 h2 => next n1 σ2 (by omega) (fl h2 (by decide)), fun _ => ⟨fun _ => ⟨fun _ => at124, fun _ w2 σ2 h2 _ => next n1 σ2 (by omega) (fl h2 (by decide))⟩, fun _ => at124⟩⟩⟩⟩, fun _ => fin d n1 σ' h0⟩⟩
  refine h.by (Q := fun _ s' => s'.1 15 3 = x) (fun n d => p_114_0 σ x (fun _ => loop d n 0 _ ?_))
  iterate 6 rw [s1_off (by omega)]
  exact s1_on
theorem cut_law {n : Nat} {x : Int32} {σ σ1 : Sg} (h : RCx PRG n 100 [.ref 15, .ref 1, .int x] σ none σ1) : sLaw σ σ1 := by
  have cov : ∀ q, q < 158 → 3 ≤ q → q < 12 → ZY.contains q = true ∨ (match knd q with
    | some (0, c, _) => !(ClY.contains c)
    | _ => false) = true := by decide +kernel
  intro q a b j
  rcases cov q (by omega) a b with g | g
  · exact h.bits gGY gAY bSY (by decide) rfl q g j
  · split at g
    · rename_i c fs hk
      exact h.np hk (by simpa using g) npY (by decide) j
    · cases g
def EV : List Nat := [1, 3, 4, 5, 6, 7, 8, 15, 16, 17, 18, 19, 20, 81, 82, 83, 84, 85, 86, 87, 88]
theorem frV {n mi : Nat} {av : List Value} {σ σ1 : Sg} {v : Option Value} (h : RCx PRG n mi av σ v σ1) (hm : SV.contains mi = true) (hm2 : SVm.contains mi = true) (ha : nZs ZV av = true) : exc EV σ σ1 := by
  have cov : ∀ q, q < 158 → EV.contains q = false → ZV.contains q = true ∨ (match knd q with
    | some (0, c, _) => !(ClV.contains c)
    | _ => false) = true := by decide +kernel
  intro q hq hE j
  rcases cov q hq hE with g | g
  · exact h.bits gGV gAV bSV hm ha q g j
  · split at g
    · rename_i c fs hk
      exact h.np hk (by simpa using g) npV hm2 j
    · cases g
def ENo : List Nat := [70, 73, 89, 92, 81, 82, 83, 84, 85, 86, 87, 88]
theorem frN {n mi : Nat} {av : List Value} {σ σ1 : Sg} {v : Option Value} (h : RCx PRG n mi av σ v σ1) (hm : SN.contains mi = true) (ha : nZs ZN av = true) : exc ENo σ σ1 := by
  have cov : ∀ q, q < 158 → ENo.contains q = false → ZN.contains q = true ∨ (match knd q with
    | some (0, c, _) => !(ClN.contains c)
    | _ => false) = true := by decide +kernel
  intro q hq hE j
  rcases cov q hq hE with g | g
  · exact h.bits gGN gAN bSN hm ha q g j
  · split at g
    · rename_i c fs hk
      exact h.np hk (by simpa using g) npN hm j
    · cases g
theorem g34_66 {n : Nat} {σ σ1 : Sg} (h : RCx PRG n 66 [.ref 34] σ none σ1) : exc [34] σ σ1 :=
  h.by (Q := fun _ s' => exc [34] σ s') (fun n d => p_66_b34_0 σ (((((exc.refl σ).put rfl).put rfl).put rfl).put rfl))
def EA : List Nat := [22, 34, 46, 58, 93, 70, 73, 89, 92, 81, 82, 83, 84, 85, 86, 87, 88]
theorem gN22.fr {E : List Nat} {σ σ' : Sg} (h : gN22 σ) (hf : exc E σ σ') (hE : E.contains 22 = false) : gN22 σ' := ⟨(hf 22 (by decide) hE 2).trans h.1, (hf 22 (by decide) hE 6).trans h.2.1, (hf 22 (by decide) hE 7).trans h.2.2⟩
theorem gN46.fr {E : List Nat} {σ σ' : Sg} (h : gN46 σ) (hf : exc E σ σ') (hE : E.contains 46 = false) : gN46 σ' := ⟨(hf 46 (by decide) hE 2).trans h.1, (hf 46 (by decide) hE 6).trans h.2.1, (hf 46 (by decide) hE 7).trans h.2.2⟩
theorem gN58.fr {E : List Nat} {σ σ' : Sg} (h : gN58 σ) (hf : exc E σ σ') (hE : E.contains 58 = false) : gN58 σ' := ⟨(hf 58 (by decide) hE 2).trans h.1, (hf 58 (by decide) hE 6).trans h.2.1, (hf 58 (by decide) hE 7).trans h.2.2⟩
theorem rc123 {n : Nat} {σ σ1 : Sg} (h : RCx PRG n 123 [.ref 0] σ none σ1) : gN22 σ1 ∧ gN46 σ1 ∧ gN58 σ1 ∧ σ1.1 93 2 = 0 ∧ exc EA σ σ1 := by
  have at2 : ∀ d n (σ' : Sg), gN22 σ' → gN46 σ' → gN58 σ' → exc EA σ σ' → Pl PRG n d 123 16 [(0, .ref 0), (1, .int 2)] [] σ' (fun _ s' => gN22 s' ∧ gN46 s' ∧ gN58 s' ∧ s'.1 93 2 = 0 ∧ exc EA σ s') := fun d n σ' a b c hf => Pl.pos (fun n1 _ => p_123_16 σ' 2 ⟨fun _ σ2 h2 σ3 h3 σ4 h4 σ5 h5 => by
    have e2 : σ2 = s1 σ' 93 2 (0 : Int32) := h2.by (Q := fun _ s' => s' = s1 σ' 93 2 (0 : Int32)) (fun n d => p_4_0 σ' rfl)
    have f2 : exc [93] σ' σ2 := by rw [e2]; exact (exc.refl σ').put rfl
    have f : exc ENo σ2 σ5 := ((frN h3 (by decide) rfl).trans (frN h4 (by decide) rfl)).trans (frN h5 (by decide) rfl)
    exact ⟨(a.fr f2 rfl).fr f rfl, (b.fr f2 rfl).fr f rfl, (c.fr f2 rfl).fr f rfl, (f 93 (by decide) rfl 2).trans (by rw [e2, s1_on]), hf.trans ((f2.sub (subE_ok rfl)).trans (f.sub (subE_ok rfl)))⟩, fun c => absurd (by decide) c⟩)
  have at1 : ∀ d n (σ' : Sg), gN22 σ' → gN46 σ' → exc EA σ σ' → Pl PRG n d 123 16 [(0, .ref 0), (1, .int 1)] [] σ' (fun _ s' => gN22 s' ∧ gN46 s' ∧ gN58 s' ∧ s'.1 93 2 = 0 ∧ exc EA σ s') := fun d n σ' a b hf => Pl.pos (fun n1 _ => p_123_16 σ' 1 ⟨fun c => absurd c (by decide), fun _ => ⟨fun c => absurd c (by decide), fun _ σ2 h2 => by
    obtain ⟨k1, k2⟩ := g58_66 h2
    exact at2 d n1 σ2 (a.fr k2 rfl) (b.fr k2 rfl) k1 (hf.trans (k2.sub (subE_ok rfl)))⟩⟩)
  refine h.by (Q := fun _ s' => gN22 s' ∧ gN46 s' ∧ gN58 s' ∧ s'.1 93 2 = 0 ∧ exc EA σ s') (fun n d => p_123_0 σ (fun σ2 h2 σ3 h3 => Pl.pos (fun n1 _ => p_123_16 σ3 0 ⟨fun c => absurd c (by decide), fun _ => ⟨fun _ σ4 h4 => ?_, fun c => absurd c (by decide)⟩⟩)))
  obtain ⟨k1, k2⟩ := g22_66 h2
  have k3 := g34_66 h3
  obtain ⟨k4, k5⟩ := g46_66 h4
  exact at1 d n1 σ4 ((k1.fr k3 rfl).fr k5 rfl) k4 ((k2.sub (subE_ok rfl)).trans ((k3.sub (subE_ok rfl)).trans (k5.sub (subE_ok rfl))))
/-- a text without fault, and what it tells -/
def told0 (TT : List Tk) (D : DT) : Prop := ∃ i, stopAt TT i 0 ∧ pr TT i = .inr ((0, 0), D) ∧ evs TT i = none ∧ D.2.2.1.length ≤ 6
theorem told0_one {TT : List Tk} {D D' : DT} (h : told0 TT D) (h' : told0 TT D') : D = D' := by
  obtain ⟨i, a1, a2, -⟩ := h
  obtain ⟨j, b1, b2, -⟩ := h'
  obtain ⟨rfl, -⟩ := stop_one a1 b1
  rw [a2] at b2
  cases b2
  rfl
theorem told0_ok {TT : List Tk} {D : DT} (h : told0 TT D) : okD TT D ∧ D.2.2.1.length ≤ 6 := by
  obtain ⟨i, -, a2, a3, a4⟩ := h
  exact ⟨(ev_ok i _ a3 a2).2.2.2, a4⟩
def EW : List Nat := [0, 1, 15, 16, 17, 18, 19, 20, 81, 82, 83, 84, 85, 86, 87, 88]
theorem read_c2 {n L : Nat} {w : Int32} {σ σ1 : Sg} {b : Nat → Int32} (hL : L ≤ 2000) (h0 : σ.1 0 1 = nI L) (hb : ∀ i, i < L → σ.1 1 i &&& 255 = b i) (hk : KWc σ) (h : RCx PRG n 124 [.ref 0] σ (some (.int w)) σ1) : (¬ w = 0 ∧ exc EW σ σ1) ∨ (w = 0 ∧ mS σ σ1 ∧ ∃ D, told0 (toks b L (L + 1) 0) D ∧ lC (lwD (toks b L (L + 1) 0) D) σ1 ∧ gN22 σ1 ∧ gN46 σ1 ∧ gN58 σ1 ∧ σ1.1 93 2 = 0) := by
  have hW : WT (toks b L (L + 1) 0) := toks_WT hL
  generalize hT : toks b L (L + 1) 0 = TT at hW ⊢
  obtain ⟨w', e, hq⟩ := h.by (Q := fun v σ' => ∃ w : Int32, v = some (.int w) ∧ ((¬ w = 0 ∧ exc EW σ σ') ∨ (w = 0 ∧ mS σ σ' ∧ ∃ D, told0 TT D ∧ lC (lwD TT D) σ' ∧ gN22 σ' ∧ gN46 σ' ∧ gN58 σ' ∧ σ'.1 93 2 = 0))) (fun m d => p_124_0 σ (fun σ2 h2 w3 σ3 h3 => by
    rw [h0] at h2
    have hC := rc100 (b := b) h2 ⟨hL, hb⟩ hk
    rw [hT] at hC
    have hC2 : CQ TT (s1 σ2 0 1 (0 : Int32)) := hC.off (fun x => s1_off (by omega)) (fun x => s1_off (by omega)) (fun x => rfl)
    have f2 := frV h2 (by decide) (by decide) rfl
    have l2 : sLaw σ σ2 := cut_law h2
    have f3 := frV h3 (by decide) (by decide) rfl
    have l3 := pass_noW h3
    have fX : exc EW σ σ3 := by
      intro q hq hE j
      by_cases c : 3 ≤ q ∧ q < 12
      · rw [l3 q c.1 c.2 j, s1_off (by omega), l2 q c.1 c.2 j]
      · have hv : EV.contains q = false := by
          have : ∀ q, q < 158 → EW.contains q = false → ¬ (3 ≤ q ∧ q < 12) → EV.contains q = false := by decide +kernel
          exact this q hq hE c
        have hq0 : ¬ q = 0 := fun e => by subst e; exact absurd hE (by decide)
        rw [f3 q hq hv j, s1_off (by omega), f2 q hq hv j]
    obtain ⟨i, f, st, hi, hp⟩ := pass_c hW hC2 (Or.inl rfl) h3
    refine ⟨fun z σ4 h4 w6 σ5 h5 σ7 h7 σ8 h8 => ⟨w3, rfl, Or.inr ⟨z, ?_⟩⟩, fun z => ⟨w3, rfl, Or.inl ⟨z, fX⟩⟩⟩
    rcases hp with ⟨b1, b2, b3, b4⟩ | ⟨b1, b2⟩
    · cases b3
      exact absurd z (nI_ne0 (by omega) (by omega))
    · cases he : evs TT i with
      | some x =>
        rw [he] at b2
        obtain ⟨c1, c2, c3, c4⟩ := b2
        cases c1
        exact absurd z (nI_ne0 (by omega) (by omega))
      | none =>
        rw [he] at b2
        obtain ⟨c1, c2, c3, D, c4, c5, c6⟩ := b2
        have e4 : σ4 = s1 (s1 (s1 (s1 (s1 σ3 3 0 (4 : Int32)) 3 1 (4 : Int32)) 3 2 (-1 : Int32)) 3 3 (0 : Int32)) 3 9 (0 : Int32) := h4.by (Q := fun _ s' => s' = s1 (s1 (s1 (s1 (s1 σ3 3 0 (4 : Int32)) 3 1 (4 : Int32)) 3 2 (-1 : Int32)) 3 3 (0 : Int32)) 3 9 (0 : Int32)) (fun m d => p_71_0 σ3 rfl)
        have f4 : exc [3] σ3 σ4 := by rw [e4]; exact (((((exc.refl σ3).put rfl).put rfl).put rfl).put rfl).put rfl
        have hC4 : CQ TT σ4 := c3.off (fun x => f4 18 (by decide) rfl x) (fun x => f4 19 (by decide) rfl x) (fun x => by rw [e4]; rfl)
        obtain ⟨j, g, st', hj, hp'⟩ := pass_c hW hC4 (Or.inr ⟨⟨by rw [e4, s1_off (by omega), s1_off (by omega), s1_off (by omega), s1_off (by omega), s1_on], by rw [e4, s1_off (by omega), s1_off (by omega), s1_off (by omega), s1_on]⟩, (by rw [e4, s1_off (by omega), s1_off (by omega), s1_on] : σ4.1 3 2 = -1), (by rw [e4, s1_off (by omega), s1_on] : σ4.1 3 3 = 0)⟩) h5
        obtain ⟨rfl, rfl⟩ := stop_one st st'
        rcases hp' with ⟨d1, -⟩ | ⟨-, d2⟩
        · exact absurd b1 d1
        · rw [he] at d2
          obtain ⟨d1, d2, d3, D', d4, d5, d6⟩ := d2
          have eD : D' = D := by rw [c4] at d4; cases d4; rfl
          subst eD
          have t0 : told0 TT D' := ⟨i, by rw [b1] at st; exact st, c4, he, c6⟩
          have hok := told0_ok t0
          have w15 : σ5.1 15 3 = 1 := pass_w h5
          have hw : PKw TT D' σ5 ∧ TRw TT D' σ5 ∧ CUw TT D' σ5 := by
            rcases d5 with d5 | d5
            · rw [w15] at d5; exact absurd d5 (by decide)
            · exact d5
          obtain ⟨hP, hTr, hCu⟩ := hw
          obtain ⟨p1, p2, p3, p4, p5, p6, p7⟩ := pk_rg hok.1.1
          have s0 : σ5.1 3 0 = nI (pkS TT D'.2.2.2.1) ∧ σ5.1 3 1 = nI (pkR TT D'.2.2.2.1) := by
            unfold PKw at hP
            cases hpk : D'.2.2.2.1 with
            | none => rw [hpk] at hP; exact hP
            | some j =>
              rw [hpk] at hP
              have := p7 j hpk
              rw [hpk] at this
              exact ⟨hP.1.trans this.1, hP.2.trans this.2⟩
          have s2 : σ5.1 3 2 = trT TT D'.2.2.2.2 := by
            unfold TRw at hTr
            cases htr : D'.2.2.2.2 with
            | none => rw [htr] at hTr; exact hTr
            | some j => rw [htr] at hTr; exact hTr
          obtain ⟨q1, q2, q3⟩ := rc75 h7 ⟨p1, p2⟩ ⟨p3, p4⟩ p5 s0.1 s0.2 s2
          obtain ⟨r1, r2, r3, r4, r5⟩ := rc123 h8
          have f5 := frV h5 (by decide) (by decide) rfl
          refine ⟨?_, D', t0, ?_, r1, r2, r3, r4⟩
          · exact (fX.mS rfl).trans ((f4.mS rfl).trans ((f5.mS rfl).trans ((q3.mS rfl).trans (r5.mS rfl))))
          · refine lC.fr (E := EA) ⟨q1, q2.trans hCu.1, fun k hk' => ?_⟩ r5 rfl rfl rfl rfl rfl
            have hk2 : k < D'.2.2.1.length := hk'
            have ek : D'.2.2.1[k]? = some (D'.2.2.1[k]) := List.getElem?_eq_getElem hk2
            obtain ⟨u1, u2⟩ := hCu.2 k _ ek
            refine ⟨?_, ?_⟩
            · rw [q3 4 (by decide) rfl k, u1]
              show _ = (match D'.2.2.1[k]? with
                | some e => vlT TT (e.1 + 1)
                | none => 0)
              rw [ek]
            · rw [q3 5 (by decide) rfl k, u2]
              show _ = (match D'.2.2.1[k]? with
                | some e => nI (kdT TT (e.1 + 2) - 18)
                | none => 0)
              rw [ek]))
  cases e
  exact hq
