/-! conditions, customs and texts of the reference -/
def coB (TT : List Tk) (i b c0 c l : Nat) (D : DT) (R2 : List Lt × List (List Lt × List Lt)) (σ σ1 : Sg) : Prop := FRr σ σ1 ∧ FRl c l σ σ1 ∧ ∃ j ls c', i < j ∧ pr TT j = .inr ((b + 5, 0), D) ∧ PRo TT j (evs TT j) 0 σ1 ∧ ¬ (5 ≤ kdT TT j ∧ kdT TT j ≤ 8) ∧ ¬ (kdT TT j = 23 ∨ kdT TT j = 24) ∧ litX (psT TT j) = ls ∧ (psT TT j).2.2.2.2 = R2 ∧ c ≤ c' ∧ c' ≤ 840 ∧ σ1.1 97 37 = nI c' ∧ σ1.1 97 30 = nI (l + ls.length) ∧ l + ls.length ≤ 300 ∧ lsB c0 c' σ1 l ls
theorem cond_re {TT : List Tk} (hW : WT TT) {iE : Nat} (hG : gtX TT iE) {n i b c0 c l : Nat} {D : DT} {s : GSt} {R2 : List Lt × List (List Lt × List Lt)} {σ σ1 : Sg} (hb : BO b) (hR : RQ TT σ) (hP : PRo TT i (evs TT i) 0 σ) (hs : pr TT i = .inr s) (hq : gs s.1.1 s.1.2 s.2.2.2.1.length (kdT TT i) = .inr (b, 0)) (hD : updD s.1.1 (kdT TT i) i s.2 = D) (hev : evT TT s i = 0) (hS : psT TT (i + 1) = ([], [], c0X true, [], R2)) (h37 : σ.1 97 37 = nI c) (hc0 : c0 ≤ c) (hc : c ≤ 840) (h30 : σ.1 97 30 = nI l) (hl : l ≤ 300) (h : RCx PRG n 201 [.ref 97] σ none σ1) : coB TT i b c0 c l D R2 σ σ1 := by
  refine h.by (Q := fun _ σ' => coB TT i b c0 c l D R2 σ σ') (fun m d => ?_)
  have d61 : ∀ (m2 : Nat) (σ2 : Sg), coB TT i b c0 c l D R2 σ σ2 → Pl PRG m2 d 201 61 [] [] σ2 (fun _ σ' => coB TT i b c0 c l D R2 σ σ') := fun m2 σ2 hI => Pl.pos (fun m3 _ => p_201_61 σ2 hI)
  have loop : ∀ (m2 : Nat) (j c2 : Nat) (o : Bool) (ls0 : List Lt) (σ2 : Sg), i < j → FRr σ σ2 → FRl c l σ σ2 → PRo TT j (evs TT j) 0 σ2 → pr TT j = .inr ((b, 0), D) → psT TT j = ([], [], c0X o, ls0, R2) → c ≤ c2 → c2 ≤ 840 → σ2.1 97 37 = nI c2 → σ2.1 97 30 = nI (l + ls0.length) → l + ls0.length ≤ 300 → lsB c0 c2 σ2 l ls0 → Pl PRG m2 d 201 8 [(0, .ref 97), (1, .int (b2i o)), (2, .int (1 : Int32))] [] σ2 (fun _ σ' => coB TT i b c0 c l D R2 σ σ') := by
    intro m2
    induction m2 using Nat.strongRecOn with
    | _ m2 ih =>
      intro j c2 o ls0 σ2 hij g1 gl g3 hsj jS hc2 hc28 e37 e30 hl0 hB
      refine Pl.pos (fun m3 hm3 => p_201_8 σ2 (b2i o) 1 ⟨fun c => absurd c (by decide), fun _ => ⟨fun _ σ3 h3 w3 σ4 h4 hz3 => ?_, fun c => absurd g3.2.2.1 c⟩⟩)
      obtain ⟨k1, y0, j', lt, c', t1, t2, t3, t4, t5, t6, t7, t8, t9, t10, t11, t12, t13⟩ := lit_re (c0 := c0) hW hG hb (hR.fr g1) g3 hsj jS e37 (by omega) hc28 e30 (by omega) h3
      have F := g1.trans k1
      have L := gl.trans (y0.less hc2 (by omega))
      have hl1 : (ls0 ++ [lt]).length = ls0.length + 1 := by rw [List.length_append]; rfl
      have hB3 : lsB c0 c' σ3 l (ls0 ++ [lt]) := (hB.fr t8 (fun x _ hx => y0.2.2.1 x hx) (fun q x a b _ hx => y0.2.2.2 q x a b hx)).app t13
      have hga : ∀ len, (kdT TT j' = 23 ∨ kdT TT j' = 24) → gs (b + 5) 0 len (kdT TT j') = .inr (b, 0) := fun len hk => by
        rw [hb.gs5]
        unfold ga
        rw [if_neg t4, if_neg (fun e => absurd e.2 (by decide)), if_pos rfl, if_pos hk]
      have at44 : ∀ (m4 : Nat), m4 < m2 → (kdT TT j' = 23 ∨ kdT TT j' = 24) → Pl PRG m4 d 201 44 [(0, .ref 97), (1, .int (b2i (decide (kdT TT j' = 23))))] [] σ3 (fun _ σ' => coB TT i b c0 c l D R2 σ σ') := fun m4 hm4 hk => Pl.pos (fun m5 hm5 => p_201_44 σ3 _ (fun σ5 h5 => by
        obtain ⟨l1, l2⟩ := rc192 hW h5 (hR.fr F) t3 t2 (by show gs (b + 5) 0 _ _ = _; exact hga _ hk)
        rcases l2 with ⟨c1, c2'⟩ | g
        · have hs2 := pr_next (q := (b, 0)) t2 (by show gs (b + 5) 0 _ _ = _; exact hga _ hk) c1
          rw [show updD ((b + 5, 0), D).1.1 (kdT TT j') j' ((b + 5, 0), D).2 = D from upd_id hb.r.ne.1 (by omega) (fun e => by omega)] at hs2
          have ev2 : evs TT (j' + 1) = evs TT j' := by rw [evs_step t2, evO_0 hb.r.eva, orE_none]
          rw [← ev2] at c2'
          have T5 := te192 h5
          have S2 : psT TT (j' + 1) = ([], [], c0X (decide (kdT TT j' = 23)), ls0 ++ [lt], R2) := by
            rw [ps_next t2]
            show psS (b + 5) _ _ _ = _
            rw [hb.ps5, if_pos hk, t6, t7]
          refine ih m5 (by omega) (j' + 1) c' _ (ls0 ++ [lt]) σ5 (by omega) (F.trans l1) (L.trans T5.l) c2' hs2 S2 (by omega) t9 ((T5.2 97 37 (by omega)).trans t10) ?_ (by rw [hl1]; omega) (hB3.fr (Nat.le_refl c') (fun x _ _ => ⟨T5.2 120 x (by omega), T5.2 121 x (by omega)⟩) (fun q x a b _ _ => T5.2 q x (by omega)))
          rw [T5.2 97 30 (by omega), t11, hl1, Nat.add_assoc]
        · exact (hG.no g).elim))
      obtain ⟨rfl, e3⟩ := rc189 (b := 23) hW h4 (hR.fr F) t3 t2 (by decide)
      refine ⟨fun z w5 σ5 h5 _ => ?_, fun z => ?_⟩
      · obtain ⟨rfl, e5⟩ := rc189 (b := 24) hW h5 (hR.fr F) t3 t2 (by decide)
        have n23 : ¬ kdT TT j' = 23 := by rcases e3 with ⟨-, e⟩ | ⟨e, -⟩; exact e; rw [e] at z; exact absurd z (by decide)
        refine ⟨fun z5 => ?_, fun z5 => ?_⟩
        · have n24 : ¬ kdT TT j' = 24 := by rcases e5 with ⟨-, e⟩ | ⟨e, -⟩; exact e; rw [e] at z5; exact absurd z5 (by decide)
          refine Pl.pos (fun m4 _ => p_201_8 _ _ 0 ⟨fun _ => d61 m4 _ ⟨F, L, j', ls0 ++ [lt], c', by omega, t2, t3, t4, ?_, t6, by rw [t7], by omega, t9, t10, ?_, by rw [hl1]; omega, hB3⟩, fun c => absurd rfl c⟩)
          · rintro (e | e)
            · exact n23 e
            · exact n24 e
          · rw [t11, hl1, Nat.add_assoc]
        · have e24 : kdT TT j' = 24 := by rcases e5 with ⟨e, -⟩ | ⟨-, e⟩; exact absurd e z5; exact e
          have := at44 m3 (by omega) (Or.inr e24)
          rw [decide_eq_false n23] at this
          rw [z]
          exact this
      · have e23 : kdT TT j' = 23 := by rcases e3 with ⟨e, -⟩ | ⟨-, e⟩; exact absurd e z; exact e
        have := at44 m3 (by omega) (Or.inl e23)
        rw [decide_eq_true e23] at this
        rw [hz3.resolve_left z]
        exact this
  refine p_201_0 σ (fun σ2 h2 => ?_)
  obtain ⟨k1, k2⟩ := rc192 hW h2 hR hP hs hq
  rcases k2 with ⟨c1, c2⟩ | g
  · have hs2 := pr_next hs hq c1
    rw [hD] at hs2
    have ev2 : evs TT (i + 1) = evs TT i := by rw [evs_step hs, evO_0 hev, orE_none]
    rw [← ev2] at c2
    have T2 := te192 h2
    exact loop m (i + 1) c true [] σ2 (by omega) k1 T2.l c2 hs2 hS (Nat.le_refl c) hc ((T2.2 97 37 (by omega)).trans h37) ((T2.2 97 30 (by omega)).trans h30) hl trivial
  · exact (hG.no g).elim
/-! customs -/
def ruB (c0 l0 c l : Nat) (σ : Sg) (r : Nat) (ls : List Lt) : Prop := ∃ i, l0 ≤ i ∧ i + ls.length ≤ l ∧ σ.1 112 r = nI i ∧ σ.1 113 r = nI (i + ls.length) ∧ lsB c0 c σ i ls
theorem ruB.R {c0 l0 c l r : Nat} {σ : Sg} {ls : List Lt} (h : ruB c0 l0 c l σ r ls) (hc : c ≤ 840) (hl : l ≤ 300) : ruR σ r ls := by
  obtain ⟨i, h0, h1, h2, h3, h4⟩ := h
  exact ⟨i, by omega, h2, h3, h4.R hc⟩
/-- what stands below is as it was -/
def FRg (r c l : Nat) (σ σ1 : Sg) : Prop := (∀ x, x < r → σ1.1 112 x = σ.1 112 x ∧ σ1.1 113 x = σ.1 113 x) ∧ (∀ x, x < c → σ1.1 120 x = σ.1 120 x ∧ σ1.1 121 x = σ.1 121 x) ∧ ∀ q x, 114 ≤ q → q ≤ 119 → x < l → σ1.1 q x = σ.1 q x
theorem FRg.trans {r c l : Nat} {σ σ1 σ2 : Sg} (h : FRg r c l σ σ1) (h' : FRg r c l σ1 σ2) : FRg r c l σ σ2 := ⟨fun x hx => ⟨(h'.1 x hx).1.trans (h.1 x hx).1, (h'.1 x hx).2.trans (h.1 x hx).2⟩, fun x hx => ⟨(h'.2.1 x hx).1.trans (h.2.1 x hx).1, (h'.2.1 x hx).2.trans (h.2.1 x hx).2⟩, fun q x a b hx => (h'.2.2 q x a b hx).trans (h.2.2 q x a b hx)⟩
theorem FRg.refl (r c l : Nat) (σ : Sg) : FRg r c l σ σ := ⟨fun _ _ => ⟨rfl, rfl⟩, fun _ _ => ⟨rfl, rfl⟩, fun _ _ _ _ _ => rfl⟩
theorem FRg.less {r c l r' c' l' : Nat} {σ σ1 : Sg} (h : FRg r' c' l' σ σ1) (hr : r ≤ r') (hc : c ≤ c') (hl : l ≤ l') : FRg r c l σ σ1 := ⟨fun x hx => h.1 x (by omega), fun x hx => h.2.1 x (by omega), fun q x a b hx => h.2.2 q x a b (by omega)⟩
theorem FRl.g {r c l : Nat} {σ σ1 : Sg} (h : FRl c l σ σ1) : FRg r c l σ σ1 := ⟨fun x _ => ⟨h.2.1 112 x (by omega) (by omega), h.2.1 113 x (by omega) (by omega)⟩, h.2.2.1, h.2.2.2⟩
theorem FRt.g {r c l : Nat} {σ σ1 : Sg} (h : FRt σ σ1) : FRg r c l σ σ1 := (h.l (c := c) (l := l)).g
theorem FRg.put {r c l q k : Nat} {x : Int32} {σ σ1 : Sg} (h : FRg r c l σ σ1) (hq : q < 112 ∨ 122 ≤ q ∨ ((q = 112 ∨ q = 113) ∧ r ≤ k)) : FRg r c l σ (s1 σ1 q k x) := ⟨fun y hy => ⟨by rw [s1_off (by omega)]; exact (h.1 y hy).1, by rw [s1_off (by omega)]; exact (h.1 y hy).2⟩, fun y hy => ⟨by rw [s1_off (by omega)]; exact (h.2.1 y hy).1, by rw [s1_off (by omega)]; exact (h.2.1 y hy).2⟩, fun q' y a b hy => by rw [s1_off (by omega)]; exact h.2.2 q' y a b hy⟩
theorem ruB.fr {c0 l0 c l c' l' r : Nat} {σ σ1 : Sg} {ls : List Lt} (h : ruB c0 l0 c l σ r ls) {r0 : Nat} (hF : FRg r0 c l σ σ1) (hr : r < r0) (hc : c ≤ c') (hl : l ≤ l') : ruB c0 l0 c' l' σ1 r ls := by
  obtain ⟨i, h0, h1, h2, h3, h4⟩ := h
  exact ⟨i, h0, by omega, (hF.1 r hr).1.trans h2, (hF.1 r hr).2.trans h3, h4.fr hc (fun x _ hx => hF.2.1 x hx) (fun q x a b _ hx => hF.2.2 q x a b (by omega))⟩
/-- all programs so far -/
def emR (TT : List Tk) (j sd : Nat) (σ : Sg) : Prop := ∃ c l, (σ.1 97 37 = nI c ∧ 420 * sd ≤ c) ∧ c ≤ 840 ∧ (σ.1 97 30 = nI l ∧ 150 * sd ≤ l) ∧ l ≤ 300 ∧ ∀ (q : Nat) (d : List Lt × List Lt), (psT TT j).2.2.2.2.2[q]? = some d → ruB (420 * sd) (150 * sd) c l σ (12 * sd + 2 * q) d.1 ∧ ruB (420 * sd) (150 * sd) c l σ (12 * sd + 2 * q + 1) d.2
theorem emR.fr {TT : List Tk} {i j sd : Nat} {σ σ1 : Sg} (h : emR TT i sd σ) (h37 : σ1.1 97 37 = σ.1 97 37) (h30 : σ1.1 97 30 = σ.1 97 30) (hF : ∀ r c l, FRg r c l σ σ1) (hs : (psT TT j).2.2.2.2.2 = (psT TT i).2.2.2.2.2) : emR TT j sd σ1 := by
  obtain ⟨c, l, h1, h2, h3, h4, h5⟩ := h
  refine ⟨c, l, ⟨h37.trans h1.1, h1.2⟩, h2, ⟨h30.trans h3.1, h3.2⟩, h4, fun q d hd => ?_⟩
  obtain ⟨k1, k2⟩ := h5 q d (by rw [← hs]; exact hd)
  exact ⟨k1.fr (hF (12 * sd + 2 * q + 2) c l) (by omega) (Nat.le_refl c) (Nat.le_refl l), k2.fr (hF (12 * sd + 2 * q + 2) c l) (by omega) (Nat.le_refl c) (Nat.le_refl l)⟩
theorem emR.t {TT : List Tk} {i j sd : Nat} {σ σ1 : Sg} (h : emR TT i sd σ) (hT : FRt σ σ1) (hs : (psT TT j).2.2.2.2.2 = (psT TT i).2.2.2.2.2) : emR TT j sd σ1 := h.fr (hT.2 97 37 (by omega)) (hT.2 97 30 (by omega)) (fun _ _ _ => hT.g) hs
theorem twelve {sd len : Nat} (hs : sd < 2) (hl : len ≤ 6) : (2 : Int32) * nI (6 * sd + len) = nI (12 * sd + 2 * len) := by
  rw [show (2 : Int32) = nI 2 by decide, nI_mulI (by omega) (by omega) (by omega), show 2 * (6 * sd + len) = 12 * sd + 2 * len by omega]
def cuO (TT : List Tk) (i sd : Nat) (σ1 : Sg) : Prop := ∃ j, i < j ∧ PRo TT j (evs TT j) 0 σ1 ∧ emR TT j sd σ1
theorem cust_re {TT : List Tk} (hW : WT TT) {iE : Nat} (hG : gtX TT iE) {n i sd : Nat} {D : DT} {σ σ1 : Sg} (hT : TIr TT i D sd σ) (hk : kdT TT i = 17) (hl : D.2.2.1.length < 6) (hE0 : emR TT i sd σ) (h : RCx PRG n 202 [.ref 97] σ none σ1) : cuO TT i sd σ1 := by
  obtain ⟨hR, hP, hs, hN, h20, hl6, hsd, h19, hPK, hTR, hCU, hnm⟩ := hT
  refine h.by (Q := fun _ σ' => cuO TT i sd σ') (fun m d => p_202_0 σ (fun _ σ1 h1 σ2 h2 => ?_))
  rw [h19, nI_clamp (by omega), hCU.1, six hsd hl6]
  have hg0 : gs 0 0 D.2.2.1.length (kdT TT i) = .inr (6, 0) := by
    rw [hk]
    show (if 6 ≤ D.2.2.1.length then _ else _) = _
    rw [if_neg (by omega)]
  have tw0 := twelve hsd hl6
  have tw1 : (2 : Int32) * nI (6 * sd + D.2.2.1.length) + (1 : Int32) = nI (12 * sd + 2 * D.2.2.1.length + 1) := by rw [tw0, nI_1]
  obtain ⟨c, l, ⟨e37, hc0⟩, hc8, ⟨e30, hl0⟩, hl3, hru⟩ := hE0
  obtain ⟨f1, f2⟩ := rc192 hW h1 hR hP hs hg0
  rcases f2 with ⟨c1, c2⟩ | g
  · have hs1 := pr_next hs hg0 c1
    rw [show updD ((0, 0), D).1.1 (kdT TT i) i ((0, 0), D).2 = D by rw [hk]; rfl] at hs1
    have e1 : evs TT (i + 1) = evs TT i := by rw [evs_step hs]; exact orE_none _
    rw [← e1] at c2
    rw [c2.1]
    obtain ⟨b1, b2⟩ := rc193 (b := 2) hW h2 (hR.fr f1) c2 hs1 (by decide) (fun e => if_pos e) (fun e => if_neg e)
    rcases b2 with ⟨k2, c3, c4⟩ | g
    · have hs2 := pr_next (q := (7, 0)) hs1 (if_pos k2) c3
      rw [show updD ((6, 0), D).1.1 (kdT TT (i + 1)) (i + 1) ((6, 0), D).2 = (i + 1, D.2) from rfl] at hs2
      have hE : evs TT (i + 1 + 1) = orE (evs TT (i + 1)) (bif twice TT (i + 1) D.2.2.1 D.2.2.1.length then some (3, i + 1) else none) := by rw [evs_step hs1, evO_6]
      have hin := (tok_in hW hs1).1
      have k12 : 6 * sd + D.2.2.1.length < 12 := by omega
      have hdn0 : (psT TT (i + 1 + 1)).2.2.2.2.2 = (psT TT i).2.2.2.2.2 := ps_same (by omega) hs hs2 rfl
      have pl : (psT TT i).2.2.2.2.2.length = D.2.2.1.length := ps_len i _ hs
      generalize hdn : (psT TT i).2.2.2.2.2 = dn at hru hdn0 pl
      -- the semicolon
      have semi : ∀ (m2 j j2 c5 l1 : Nat) (wh sy : List Lt) (D2 : DT) (σ3 : Sg), i < j2 → D2 = (i + 1, j, D.2.2) → FKr (6 * sd + D.2.2.1.length) σ σ3 → FRg (12 * sd + 2 * D.2.2.1.length) c l σ σ3 → pr TT j2 = .inr ((25, 0), D2) → PRo TT j2 (evs TT j2) 0 σ3 → ¬ (5 ≤ kdT TT j2 ∧ kdT TT j2 ≤ 8) → ¬ (kdT TT j2 = 23 ∨ kdT TT j2 = 24) → litX (psT TT j2) = sy → (psT TT j2).2.2.2.2 = (wh, dn) → c ≤ c5 → c5 ≤ 840 → σ3.1 97 37 = nI c5 → l ≤ l1 → σ3.1 97 30 = nI (l1 + sy.length) → l1 + sy.length ≤ 300 → ruB (420 * sd) (150 * sd) c5 (l1 + sy.length) σ3 (12 * sd + 2 * D.2.2.1.length) wh → σ3.1 112 (12 * sd + 2 * D.2.2.1.length + 1) = nI l1 → lsB (420 * sd) c5 σ3 l1 sy → Pl PRG m2 d 202 235 [(0, .ref 97), (1, .int (nI (6 * sd + D.2.2.1.length))), (2, .int (nI (i + 1)))] [] σ3 (fun _ σ' => cuO TT i sd σ') := by
        intro m2 j j2 c5 l1 wh sy D2 σ3 hij hD2 F Fg hsj g3 nop nao hsy hwh hc5 hc58 q37 hl1 q30 hl13 rwh q112 lsy
        subst hD2
        refine Pl.pos (fun m3 _ => p_202_235 σ3 _ _ (fun _ σ4 h4 => ?_))
        rw [tw1, nI_clamp (by omega), q30] at h4
        have F1 : FRr σ3 (s1 σ3 113 (12 * sd + 2 * D.2.2.1.length + 1) (nI (l1 + sy.length))) := (FRr.refl σ3).arr (by omega)
        have S1 : sameR σ3 (s1 σ3 113 (12 * sd + 2 * D.2.2.1.length + 1) (nI (l1 + sy.length))) := (sameR.refl σ3).put (by omega)
        have hg2 : ∀ len, gs 25 0 len (kdT TT j2) = if kdT TT j2 = 4 then .inr (0, 0) else .inl 1 := fun len => by
          show ga 25 24 0 (kdT TT j2) _ = _
          unfold ga
          rw [if_neg nop, if_neg (fun e => absurd e.2 (by decide)), if_pos rfl, if_neg nao]
        obtain ⟨l1', l2⟩ := rc193 (b := 4) (q := (0, 0)) hW h4 ((hR.fk F).fr F1) (g3.same S1) hsj (by decide) (fun e => by show gs 25 0 _ _ = _; rw [hg2, if_pos e]) (fun e => by show gs 25 0 _ _ = _; rw [hg2, if_neg e])
        have T4 := te193 h4
        rcases l2 with ⟨u1, u2, u3⟩ | g
        · have hse := pr_next (q := (0, 0)) hsj (by show gs 25 0 _ _ = _; rw [hg2, if_pos u1]) u2
          have ev2 : evs TT (j2 + 1) = evs TT j2 := by rw [evs_step hsj, evO_0 (show evT TT ((25, 0), i + 1, j, D.2.2) j2 = 0 from rfl), orE_none]
          rw [← ev2] at u3
          have dn2 : (psT TT (j2 + 1)).2.2.2.2.2 = dn ++ [(wh, sy)] := by
            rw [ps_next hsj]
            show (psS 25 _ _ _).2.2.2.2.2 = _
            have := (show BO 20 from Or.inr rfl).ps5 (kdT TT j2) (vlT TT j2) (psT TT j2)
            rw [this, if_neg nao, if_neg (by omega), if_pos u1]
            show (psT TT j2).2.2.2.2.2 ++ [((psT TT j2).2.2.2.2.1, litX (psT TT j2))] = _
            rw [hwh, hsy]
          refine ⟨fun _ _ _ _ _ => ⟨j2 + 1, by omega, u3.same (fun y a b => by rw [s1_off (by omega), s1_off (by omega)]; rfl), c5, l1 + sy.length, ⟨?_, by omega⟩, hc58, ⟨?_, by omega⟩, hl13, fun q dd hd => ?_⟩, fun c => absurd (by rw [u3.2.2.1]; decide) c⟩
          · rw [s1_off (by omega), s1_off (by omega)]
            show σ4.1 97 37 = _
            rw [T4.2 97 37 (by omega), s1_off (by omega)]; exact q37
          · rw [s1_off (by omega), s1_off (by omega)]
            show σ4.1 97 30 = _
            rw [T4.2 97 30 (by omega), s1_off (by omega)]; exact q30
          · rw [dn2] at hd
            -- what the last calls leave
            have same : ∀ q x, 110 ≤ q → ¬ (q = 113 ∧ x = 12 * sd + 2 * D.2.2.1.length + 1) → (s1 (s1 (s2 σ4 105 (σ4.1 97 20).toNatClampNeg (σ4.2 103 (nI (i + 1)).toNatClampNeg)) 97 20 ((σ4.1 97 20) + (1 : Int32))) 109 (σ4.1 97 19).toNatClampNeg ((σ4.1 109 (σ4.1 97 19).toNatClampNeg) + (1 : Int32))).1 q x = σ3.1 q x := fun q x a b => by
              rw [s1_off (by omega), s1_off (by omega)]
              show σ4.1 q x = _
              rw [T4.2 q x (by omega), s1_off b]
            have G3 : FRg (12 * sd + 2 * D.2.2.1.length + 1) c5 (l1 + sy.length) σ3 (s1 (s1 (s2 σ4 105 (σ4.1 97 20).toNatClampNeg (σ4.2 103 (nI (i + 1)).toNatClampNeg)) 97 20 ((σ4.1 97 20) + (1 : Int32))) 109 (σ4.1 97 19).toNatClampNeg ((σ4.1 109 (σ4.1 97 19).toNatClampNeg) + (1 : Int32))) := ⟨fun x hx => ⟨same 112 x (by omega) (by omega), same 113 x (by omega) (by omega)⟩, fun x hx => ⟨same 120 x (by omega) (by omega), same 121 x (by omega) (by omega)⟩, fun q x a b _ => same q x (by omega) (by omega)⟩
            rcases Nat.lt_or_ge q dn.length with gq | gq
            · rw [List.getElem?_append_left gq] at hd
              obtain ⟨r1, r2⟩ := hru q dd hd
              have GG := Fg.trans (G3.less (by omega) hc5 (by omega))
              exact ⟨r1.fr GG (by omega) hc5 (by omega), r2.fr GG (by omega) hc5 (by omega)⟩
            · rw [List.getElem?_append_right gq] at hd
              have hq0 : q - dn.length = 0 := by
                rcases Nat.eq_zero_or_pos (q - dn.length) with z | z
                · exact z
                · rw [List.getElem?_eq_none (by simp; omega)] at hd; cases hd
              rw [hq0] at hd
              cases hd
              have eq : q = D.2.2.1.length := by omega
              subst eq
              refine ⟨rwh.fr G3 (by omega) (Nat.le_refl _) (Nat.le_refl _), l1, by omega, Nat.le_refl _, ?_, ?_, lsy.fr (Nat.le_refl _) (fun x _ hx => G3.2.1 x hx) (fun q x a b _ hx => G3.2.2 q x a b hx)⟩
              · rw [same 112 _ (by omega) (by omega)]; exact q112
              · rw [s1_off (by omega), s1_off (by omega)]
                show σ4.1 113 _ = _
                rw [T4.2 113 _ (by omega), s1_on]
        · exact (hG.no g).elim
      -- says
      have says : ∀ (m2 j M c5 l1 : Nat) (wh : List Lt) (σ3 : Sg), i < j → (¬ M = 6 ∧ ¬ M = 25) → FKr (6 * sd + D.2.2.1.length) σ σ3 → FRg (12 * sd + 2 * D.2.2.1.length) c l σ σ3 → pr TT j = .inr ((M, 0), (i + 1, D.2)) → evT TT ((M, 0), (i + 1, D.2)) j = 0 → (∀ len, gs M 0 len (kdT TT j) = if kdT TT j = 22 then .inr (20, 0) else .inl 1) → PRo TT j (evs TT j) 0 σ3 → (kdT TT j = 22 → psT TT (j + 1) = ([], [], c0X true, [], wh, dn)) → c ≤ c5 → c5 ≤ 840 → σ3.1 97 37 = nI c5 → l ≤ l1 → σ3.1 97 30 = nI (l1 + wh.length) → l1 + wh.length ≤ 300 → σ3.1 112 (12 * sd + 2 * D.2.2.1.length) = nI l1 → lsB (420 * sd) c5 σ3 l1 wh → Pl PRG m2 d 202 184 [(0, .ref 97), (1, .int (nI (6 * sd + D.2.2.1.length))), (2, .int (nI (i + 1)))] [] σ3 (fun _ σ' => cuO TT i sd σ') := by
        intro m2 j M c5 l1 wh σ3 hij hM F Fg hsj hev hg g3 gS hc5 hc58 q37 hl1 q30 hl13 q112 lwh
        refine Pl.pos (fun m3 _ => p_202_184 σ3 _ _ (fun _ _ w2 σ4 h4 _ => ?_))
        rw [tw0, nI_1, nI_clamp (by omega), nI_clamp (by omega), q30] at h4
        have F1 : FRr σ3 (s1 (s1 σ3 113 (12 * sd + 2 * D.2.2.1.length) (nI (l1 + wh.length))) 112 (12 * sd + 2 * D.2.2.1.length + 1) (nI (l1 + wh.length))) := ((FRr.refl σ3).arr (by omega)).arr (by omega)
        have S1 : sameR σ3 (s1 (s1 σ3 113 (12 * sd + 2 * D.2.2.1.length) (nI (l1 + wh.length))) 112 (12 * sd + 2 * D.2.2.1.length + 1) (nI (l1 + wh.length))) := ((sameR.refl σ3).put (by omega)).put (by omega)
        obtain ⟨rfl, e4⟩ := rc189 (b := 22) hW h4 ((hR.fk F).fr F1) (g3.same S1) hsj (by decide)
        refine ⟨fun z σ5 h5 => ?_, fun z => ?_⟩
        · rcases e4 with ⟨-, n22⟩ | ⟨e, -⟩
          · obtain ⟨k1, k2⟩ := rc190 (f := 1) hW h5 ((hR.fk F).fr F1) (g3.same S1) (stop_f hsj (by show gs M 0 _ _ = _; rw [hg, if_neg n22])) (by decide)
            exact (hG.no k2).elim
          · rw [e] at z; exact absurd z (by decide)
        · rcases e4 with ⟨e, -⟩ | ⟨-, e22⟩
          · exact absurd e z
          · refine Pl.pos (fun m4 _ => p_202_224 _ _ _ ⟨fun _ σ5 h5 => ?_, fun c => absurd (g3.same S1).2.2.1 c⟩)
            have eU : updD ((M, 0), ((i + 1, D.2) : DT)).1.1 (kdT TT j) j ((M, 0), ((i + 1, D.2) : DT)).2 = (i + 1, j, D.2.2) := by
              show updD M (kdT TT j) j (i + 1, D.2) = _
              unfold updD
              rw [if_neg hM.1, if_pos e22]
            obtain ⟨y1, y2, j2, sy, c6, u1, u2, u3, u4, u5, u6, u7, u8, u9, u10, u11, u12, u13⟩ := cond_re hW hG (b := 20) (c0 := 420 * sd) (c := c5) (l := l1 + wh.length) (Or.inr rfl) ((hR.fk F).fr F1) (g3.same S1) hsj (by show gs M 0 _ _ = _; rw [hg, if_pos e22]) eU hev (gS e22) (by rw [s1_off (by omega), s1_off (by omega)]; exact q37) (by omega) hc58 (by rw [s1_off (by omega), s1_off (by omega)]; exact q30) hl13 h5
            have LL := F1.trans y1
            have P1 : FRg (12 * sd + 2 * D.2.2.1.length) c5 (l1 + wh.length) σ3 (s1 (s1 σ3 113 (12 * sd + 2 * D.2.2.1.length) (nI (l1 + wh.length))) 112 (12 * sd + 2 * D.2.2.1.length + 1) (nI (l1 + wh.length))) := ((FRg.refl _ _ _ σ3).put (by omega)).put (by omega)
            have G5 := P1.trans y2.g
            refine semi m4 j j2 c6 (l1 + wh.length) wh sy _ σ5 (by omega) rfl (F.fr LL) (Fg.trans (G5.less (Nat.le_refl _) hc5 (by omega))) u2 u3 u4 u5 u6 u7 (by omega) u9 u10 (by omega) u11 u12 ⟨l1, by omega, by omega, ?_, ?_, ?_⟩ ?_ u13
            · rw [y2.2.1 112 _ (by omega) (by omega), s1_off (by omega), s1_off (by omega)]; exact q112
            · rw [y2.2.1 113 _ (by omega) (by omega), s1_off (by omega), s1_on]
            · exact lwh.fr u8 (fun x _ hx => G5.2.1 x hx) (fun q x a b _ hx => G5.2.2 q x a b hx)
            · rw [y2.2.1 112 _ (by omega) (by omega), s1_on]
      -- the side and the kind
      have kinds : ∀ (m2 : Nat) (σ3 : Sg), FRr σ σ3 → FRt σ σ3 → PRo TT (i + 1 + 1) (evs TT (i + 1 + 1)) 0 σ3 → Pl PRG m2 d 202 77 [(0, .ref 97), (1, .int (nI (6 * sd + D.2.2.1.length))), (2, .int (nI (i + 1)))] [] σ3 (fun _ σ' => cuO TT i sd σ') := by
        intro m2 σ3 g1 gt g3
        refine Pl.pos (fun m3 _ => p_202_77 σ3 _ _ (fun w2 σ4 h4 _ => ?_))
        rw [nI_clamp (by omega)]
        obtain ⟨b1', b2'⟩ := rc194 (q := (8, 0)) hW h4 (hR.fr g1) g3 hs2 (fun e => if_pos e) (fun e => if_neg e) (fun x hx => (evs_lt hx).1)
        have F : FKr (6 * sd + D.2.2.1.length) σ (s1 σ4 110 (6 * sd + D.2.2.1.length) w2) := (FKr.of (g1.trans b1')).put (Or.inl rfl)
        have S : sameR σ4 (s1 σ4 110 (6 * sd + D.2.2.1.length) w2) := (sameR.refl σ4).put (by omega)
        have T4 := gt.trans (te194 h4)
        rcases b2' with ⟨ew, u1, u2, u3⟩ | g
        · have hs3 := pr_next (q := (8, 0)) hs2 (if_pos u1) u2
          rw [show updD ((7, 0), i + 1, D.2).1.1 (kdT TT (i + 1 + 1)) (i + 1 + 1) ((7, 0), i + 1, D.2).2 = (i + 1, D.2) from upd_id (m := 7) (by decide) (by omega) (fun e => absurd (show (7 : Nat) = 25 from e.1) (by decide))] at hs3
          have e3 : evs TT (i + 1 + 1 + 1) = orE (evs TT (i + 1 + 1)) (bif off (vlT TT (i + 1 + 1)) 0 2 then some (5, i + 1 + 1) else none) := by rw [evs_step hs2, evO_off (b := off (vlT TT (i + 1 + 1)) 0 2) rfl]
          rw [← e3] at u3
          have hkd := (kd_le hW hs3).1
          have hat := RQ_at hW (hR.fr (g1.trans b1')) hs3 u3.2.1
          have hrk := (by decide +kernel : ∀ k, k < 37 → ((18 ≤ k ∧ k ≤ 20) ↔ (¬ nI (rk k) < (23 : Int32) ∧ nI (rk k) ≤ (25 : Int32))) ∧ (18 ≤ k ∧ k ≤ 20 → nI (rk k) - (23 : Int32) = nI (k - 18))) (kdT TT (i + 1 + 1 + 1)) (by omega)
          have no : ¬ (18 ≤ kdT TT (i + 1 + 1 + 1) ∧ kdT TT (i + 1 + 1 + 1) ≤ 20) → Pl PRG m3 d 202 124 [(0, .ref 97), (1, .int (nI (6 * sd + D.2.2.1.length))), (2, .int (nI (i + 1)))] [] (s1 σ4 110 (6 * sd + D.2.2.1.length) w2) (fun _ σ' => cuO TT i sd σ') := fun hn => (absurd (stop_one (stop_f hs3 (if_neg hn)) hG.1).2 (by decide))
          refine ⟨fun c => by rw [u3.2.2.1] at c; exact absurd c (by decide), fun _ _ => ?_⟩
          rw [u3.1, nI_clamp (by have := u3.2.1; omega), hat.1]
          refine ⟨fun c => no (fun e => (hrk.1.mp e).1 c), fun cc1 _ => ⟨fun c2 => ?_, fun c2 => no (fun e => c2 (hrk.1.mp e).2)⟩⟩
          have hy : 18 ≤ kdT TT (i + 1 + 1 + 1) ∧ kdT TT (i + 1 + 1 + 1) ≤ 20 := hrk.1.mpr ⟨cc1, c2⟩
          refine Pl.pos (fun m4 _ => p_202_129 _ _ _ ⟨fun _ _ _ σ5 h5 _ w3 σ6 h6 _ => ?_, fun c => absurd (by rw [s1_off (by omega), u3.2.2.1]; decide) c⟩)
          have ek : (s1 σ4 110 (6 * sd + D.2.2.1.length) w2).1 100 ((s1 σ4 110 (6 * sd + D.2.2.1.length) w2).1 97 11).toNatClampNeg - (23 : Int32) = nI (kdT TT (i + 1 + 1 + 1) - 18) := by
            rw [s1_off (by omega), s1_off (by omega), u3.1, nI_clamp (by have := u3.2.1; omega), hat.1]
            exact hrk.2 hy
          rw [ek, nI_clamp (by omega)] at h5
          have F2 : FKr (6 * sd + D.2.2.1.length) σ (s1 (s1 σ4 110 (6 * sd + D.2.2.1.length) w2) 111 (6 * sd + D.2.2.1.length) (nI (kdT TT (i + 1 + 1 + 1) - 18))) := F.put (Or.inr rfl)
          have S2 : sameR σ4 (s1 (s1 σ4 110 (6 * sd + D.2.2.1.length) w2) 111 (6 * sd + D.2.2.1.length) (nI (kdT TT (i + 1 + 1 + 1) - 18))) := S.put (by omega)
          obtain ⟨l1, l2⟩ := rc192 (q := (9, 0)) hW h5 (hR.fk F2) (u3.same S2) hs3 (if_pos hy)
          have T5 := te192 h5
          rcases l2 with ⟨t1, t2⟩ | g
          · have hs4 := pr_next (q := (9, 0)) hs3 (if_pos hy) t1
            rw [show updD ((8, 0), i + 1, D.2).1.1 (kdT TT (i + 1 + 1 + 1)) (i + 1 + 1 + 1) ((8, 0), i + 1, D.2).2 = (i + 1, D.2) from upd_id (m := 8) (by decide) (by omega) (fun e => absurd (show (8 : Nat) = 25 from e.1) (by decide))] at hs4
            have e4 : evs TT (i + 1 + 1 + 1 + 1) = evs TT (i + 1 + 1 + 1) := by rw [evs_step hs3]; exact orE_none _
            rw [← e4] at t2
            have q30 : σ5.1 97 30 = nI l := by rw [T5.2 97 30 (by omega), s1_off (by omega), s1_off (by omega), T4.2 97 30 (by omega)]; exact e30
            have q37 : σ5.1 97 37 = nI c := by rw [T5.2 97 37 (by omega), s1_off (by omega), s1_off (by omega), T4.2 97 37 (by omega)]; exact e37
            rw [tw0, nI_clamp (by omega), q30] at h6
            have F3 : FRr σ5 (s1 σ5 112 (12 * sd + 2 * D.2.2.1.length) (nI l)) := (FRr.refl σ5).arr (by omega)
            have S3 : sameR σ5 (s1 σ5 112 (12 * sd + 2 * D.2.2.1.length) (nI l)) := (sameR.refl σ5).put (by omega)
            have LL := l1.trans F3
            have FF := F2.fr LL
            have Gg : FRg (12 * sd + 2 * D.2.2.1.length) c l σ (s1 σ5 112 (12 * sd + 2 * D.2.2.1.length) (nI l)) := ((((T4.g).put (by omega)).put (by omega)).trans T5.g).put (by omega)
            obtain ⟨rfl, e6⟩ := rc189 (b := 21) hW h6 (hR.fk FF) (t2.same S3) hs4 (by decide)
            have hdn4 : (psT TT (i + 1 + 1 + 1 + 1)).2.2.2.2.2 = dn := (ps_same (by omega) hs2 hs4 rfl).trans hdn0
            have ps9 : psT TT (i + 1 + 1 + 1 + 1 + 1) = ([], [], c0X true, [], [], dn) := by
              rw [ps_next hs4]
              show psS 9 _ _ _ = _
              rw [← hdn4]
              rfl
            refine ⟨fun z => ?_, fun z σ8 h8 => ?_⟩
            · rcases e6 with ⟨-, n21⟩ | ⟨e, -⟩
              · exact says m4 (i + 1 + 1 + 1 + 1) 9 c l [] _ (by omega) (by decide) FF Gg hs4 rfl (fun len => if_neg n21) (t2.same S3) (fun _ => ps9) (Nat.le_refl c) hc8 (by rw [s1_off (by omega)]; exact q37) (Nat.le_refl l) (by rw [s1_off (by omega)]; exact q30) hl3 s1_on trivial
              · rw [e] at z; exact absurd z (by decide)
            · rcases e6 with ⟨e, -⟩ | ⟨-, e21⟩
              · exact absurd e z
              · obtain ⟨y1, y2, j2, wh, c6, v1, v2, v3, v4, v5, v6, v7, v8, v9, v10, v11, v12, v13⟩ := cond_re hW hG (b := 10) (c0 := 420 * sd) (c := c) (l := l) (Or.inl rfl) (hR.fk FF) (t2.same S3) hs4 (if_pos e21) (upd_id (m := 9) (by decide) (by omega) (fun e => absurd (show (9 : Nat) = 25 from e.1) (by decide))) rfl ps9 (by rw [s1_off (by omega)]; exact q37) hc0 hc8 (by rw [s1_off (by omega)]; exact q30) hl3 h8
                refine says m4 j2 15 c6 l wh σ8 (by omega) (by decide) (FF.fr y1) (Gg.trans y2.g) v2 rfl (fun len => ?_) v3 (fun e22 => ?_) v8 v9 v10 (Nat.le_refl l) v11 v12 ?_ v13
                · show ga 15 14 0 (kdT TT j2) _ = _
                  unfold ga
                  rw [if_neg v4, if_neg (fun e => absurd e.2 (by decide)), if_pos rfl, if_neg v5]
                · rw [ps_next v2]
                  show psS 15 _ _ _ = _
                  have := (show BO 10 from Or.inl rfl).ps5 (kdT TT j2) (vlT TT j2) (psT TT j2)
                  rw [this, if_neg v5, if_pos e22, v6, v7]
                · rw [y2.2.1 112 _ (by omega) (by omega), s1_on]
          · exact (hG.no g).elim
        · exact (hG.no g).elim
      -- the names ahead
      have loop : ∀ (m2 q : Nat) (σ3 : Sg), q ≤ D.2.2.1.length → FRr σ σ3 → FRt σ σ3 → PRo TT (i + 1 + 1) (orE (evs TT (i + 1)) (bif twice TT (i + 1) D.2.2.1 q then some (3, i + 1) else none)) 0 σ3 → Pl PRG m2 d 202 34 [(0, .ref 97), (1, .int (nI (6 * sd + D.2.2.1.length))), (2, .int (nI (i + 1))), (3, .int (nI q))] [] σ3 (fun _ σ' => cuO TT i sd σ') := by
        intro m2
        induction m2 using Nat.strongRecOn with
        | _ m2 ih =>
          intro q σ3 hq g1 gt g3
          have q20 : σ3.1 97 20 = nI D.2.2.1.length := by rw [g1.2 97 20 (by unfold mfR; omega) (by omega)]; exact h20
          refine Pl.pos (fun m3 hm3 => p_202_34 σ3 _ _ _ ?_)
          rw [q20]
          refine ⟨fun c => ?_, fun c => ⟨fun _ _ _ => ?_, fun c2 => absurd g3.2.2.1 c2⟩⟩
          · have hq2 := (nI_leI (a := D.2.2.1.length) (b := q) (by omega) (by omega)).mp c
            have e : q = D.2.2.1.length := by omega
            rw [e, ← hE] at g3
            exact kinds m3 σ3 g1 gt g3
          · have hq2 : q < D.2.2.1.length := nle_of (by omega) (by omega) c
            have hx : D.2.2.1[q]? = some D.2.2.1[q] := List.getElem?_eq_getElem hq2
            have st := twice_s (TT := TT) (i := i + 1) hx
            have hmem : D.2.2.1[q] ∈ D.2.2.1 := List.getElem_mem hq2
            have nv : σ3.2 103 (i + 1) = n27T TT (i + 1) := (RQ_at hW (hR.fr g1) hs1 (by omega)).2.2.2 k2
            rw [nI_clamp (n := q) (by omega), nI_clamp (n := i + 1) (by omega), nv, g1.1, hN q _ hx]
            have next : ∀ (m4 : Nat), m4 < m2 → ∀ (σ5 : Sg), FRr σ σ5 → FRt σ σ5 → PRo TT (i + 1 + 1) (orE (evs TT (i + 1)) (bif twice TT (i + 1) D.2.2.1 (q + 1) then some (3, i + 1) else none)) 0 σ5 → Pl PRG m4 d 202 71 [(0, .ref 97), (1, .int (nI (6 * sd + D.2.2.1.length))), (2, .int (nI (i + 1))), (3, .int (nI q))] [] σ5 (fun _ σ' => cuO TT i sd σ') := fun m4 hm4 σ5 q1 qt q2 => Pl.pos (fun m5 hm5 => p_202_71 σ5 _ _ _ (by
              rw [nI_1]
              exact ih m5 (by omega) (q + 1) σ5 (by omega) q1 qt q2))
            refine ⟨fun c2 σ5 h5 => ?_, fun c2 => next m3 (by omega) σ3 g1 gt ?_⟩
            · have ee := (lg_cmp_eq _ _).mp c2
              obtain ⟨y1, y2, y3⟩ := rc191 (f := 3) hW h5 (hR.fr g1) g3.2.2.2.1 g3.2.2.1 hs1 (by omega) (by decide) (fun x hx' => by
                cases hv : evs TT (i + 1) with
                | some e =>
                  rw [hv] at hx'
                  cases hx'
                  exact Or.inl (evs_lt hv).1
                | none =>
                  rw [hv] at hx'
                  cases htw : twice TT (i + 1) D.2.2.1 q with
                  | true => rw [htw] at hx'; cases hx'; exact Or.inr ⟨rfl, Nat.le_refl _⟩
                  | false => rw [htw] at hx'; cases hx')
              refine next m3 (by omega) σ5 (g1.trans y1) (gt.trans (te191 h5)) ?_
              rw [st, decide_eq_true ((tw_eq hW (hnm _ hmem).2 hin (hnm _ hmem).1 k2).mpr ee)]
              have := or_two (evs TT (i + 1)) (twice TT (i + 1) D.2.2.1 q) true (3, i + 1)
              rw [← this]
              exact ⟨by rw [y3 11 (by decide) (by decide)]; exact g3.1, g3.2.1, by rw [y3 13 (by decide) (by decide)]; exact g3.2.2.1, y2, by rw [y3 12 (by decide) (by decide)]; exact g3.2.2.2.2⟩
            · have ee : ¬ n32T TT D.2.2.1[q].1 = n32T TT (i + 1) := fun e => c2 ((lg_cmp_eq _ _).mpr ((tw_eq hW (hnm _ hmem).2 hin (hnm _ hmem).1 k2).mp e))
              rw [st, decide_eq_false ee, Bool.or_false]
              exact g3
      refine loop m 0 σ2 (by omega) (f1.trans b1) ((te192 h1).trans (te193 h2)) ?_
      show PRo TT (i + 1 + 1) (orE (evs TT (i + 1)) none) 0 σ2
      rw [orE_none]
      exact c4
    · exact (hG.no g).elim
  · obtain ⟨k1, k2⟩ := rd193 h2 g
    exact (hG.no k2).elim
