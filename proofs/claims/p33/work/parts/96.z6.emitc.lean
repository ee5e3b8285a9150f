/-! the reader of the class writes the programs -/
theorem sgX.frr {σ σ' : Sg} : ∀ {p : Cd} {a : Nat}, sgX σ a p → (∀ j, a ≤ j → j < a + p.length → σ'.1 8 j = σ.1 8 j) → sgX σ' a p := by
  intro p
  induction p with
  | nil => intro a _ _; trivial
  | cons e p ih =>
    intro a hs h
    have hl : (e :: p).length = p.length + 1 := rfl
    exact ⟨(h a (Nat.le_refl a) (by omega)).trans hs.1, ih hs.2 (fun j j1 j2 => h j (by omega) (by omega))⟩
theorem sgX.app {σ : Sg} : ∀ {p q : Cd} {a : Nat}, sgX σ a p → sgX σ (a + p.length) q → sgX σ a (p ++ q) := by
  intro p
  induction p with
  | nil => intro q a _ h; exact h
  | cons e p ih =>
    intro q a h h'
    have hl : (e :: p).length = p.length + 1 := rfl
    rw [hl, show a + (p.length + 1) = a + 1 + p.length by omega] at h'
    exact ⟨h.1, ih h.2 h'⟩
theorem sgX.cut {σ : Sg} : ∀ {p q : Cd} {a : Nat}, sgX σ a (p ++ q) → sgX σ a p ∧ sgX σ (a + p.length) q := by
  intro p
  induction p with
  | nil => intro q a h; exact ⟨trivial, h⟩
  | cons e p ih =>
    intro q a h
    obtain ⟨h1, h2⟩ := h
    obtain ⟨h3, h4⟩ := ih h2
    have hl : (e :: p).length = p.length + 1 := rfl
    rw [hl, show a + (p.length + 1) = a + 1 + p.length by omega]
    exact ⟨⟨h1, h3⟩, h4⟩
/-- steps n, n + 1, .. have been added -/
def emX (n : Nat) (C : Cd) (σ σ1 : Sg) : Prop := σ1.1 3 9 = nI (n + C.length) ∧ (∀ x, x < n → σ1.1 8 x = σ.1 8 x) ∧ sgX σ1 n C
/-- no step has been added -/
def FRe (σ σ1 : Sg) : Prop := σ1.1 3 9 = σ.1 3 9 ∧ (∀ x, σ1.1 8 x = σ.1 8 x) ∧ ∀ x, σ1.1 6 x = σ.1 6 x ∧ σ1.1 7 x = σ.1 7 x
theorem FRe.refl (σ : Sg) : FRe σ σ := ⟨rfl, fun _ => rfl, fun _ => ⟨rfl, rfl⟩⟩
theorem FRe.trans {σ σ1 σ2 : Sg} (h : FRe σ σ1) (h' : FRe σ1 σ2) : FRe σ σ2 := ⟨h'.1.trans h.1, fun x => (h'.2.1 x).trans (h.2.1 x), fun x => ⟨(h'.2.2 x).1.trans (h.2.2 x).1, (h'.2.2 x).2.trans (h.2.2 x).2⟩⟩
theorem FRe.put {σ σ1 : Sg} {j : Nat} {x : Int32} (h : FRe σ σ1) : FRe σ (s1 σ1 15 j x) := ⟨by rw [s1_off (by omega)]; exact h.1, fun y => by rw [s1_off (by omega)]; exact h.2.1 y, fun y => by rw [s1_off (by omega), s1_off (by omega)]; exact h.2.2 y⟩
theorem FRe.put3 {σ σ1 : Sg} {j : Nat} {x : Int32} (h : FRe σ σ1) (hj : ¬ j = 9) : FRe σ (s1 σ1 3 j x) := ⟨by rw [s1_off (by omega)]; exact h.1, fun y => by rw [s1_off (by omega)]; exact h.2.1 y, fun y => by rw [s1_off (by omega), s1_off (by omega)]; exact h.2.2 y⟩
theorem emX.nil {n : Nat} {σ σ1 : Sg} (h : σ.1 3 9 = nI n) (hf : FRe σ σ1) : emX n [] σ σ1 := ⟨hf.1.trans h, fun x _ => hf.2.1 x, trivial⟩
theorem emX.app {n : Nat} {C C' : Cd} {σ σ1 σ2 : Sg} (h : emX n C σ σ1) (h' : emX (n + C.length) C' σ1 σ2) : emX n (C ++ C') σ σ2 := by
  obtain ⟨a1, a2, a3⟩ := h
  obtain ⟨b1, b2, b3⟩ := h'
  refine ⟨by rw [b1, List.length_append, Nat.add_assoc], fun x hx => (b2 x (by omega)).trans (a2 x hx), (a3.frr (fun j _ j2 => b2 j j2)).app b3⟩
theorem emX.fre {n : Nat} {C : Cd} {σ σ1 σ2 : Sg} (h : emX n C σ σ1) (hf : FRe σ1 σ2) : emX n C σ σ2 := ⟨hf.1.trans h.1, fun x hx => (hf.2.1 x).trans (h.2.1 x hx), h.2.2.frr (fun j _ _ => hf.2.1 j)⟩
theorem emX.pre {n : Nat} {C : Cd} {σ σ1 σ2 : Sg} (hf : FRe σ σ1) (h : emX n C σ1 σ2) : emX n C σ σ2 := ⟨h.1, fun x hx => (h.2.1 x hx).trans (hf.2.1 x), h.2.2⟩
section Te
variable {n : Nat} {σ σ1 : Sg} {v : Option Value} {x y : Int32}
theorem te101 (h : RCx PRG n 101 [.ref 15, .int x] σ v σ1) : FRe σ σ1 := by
  refine h.by (Q := fun _ σ' => FRe σ σ') (fun m d => ?_)
  have e : ∀ m, Pl PRG m d 101 46 [(0, .ref 15), (1, .int x)] [] σ (fun _ σ' => FRe σ σ') := fun m => Pl.pos (fun m2 _ => p_101_46 σ x ⟨fun _ _ => (FRe.refl σ).put.put, fun _ _ => (FRe.refl σ).put.put⟩)
  exact p_101_0 σ x ⟨fun _ => ⟨fun _ => e m, fun _ _ => (FRe.refl σ).put.put⟩, fun _ => e m⟩
theorem te102 (h : RCx PRG n 102 [.ref 15, .int x, .int y] σ v σ1) : FRe σ σ1 := by
  refine h.by (Q := fun _ σ' => FRe σ σ') (fun m d => ?_)
  have e : ∀ m σ2, FRe σ σ2 → Pl PRG m d 102 41 [] [] σ2 (fun _ σ' => FRe σ σ') := fun m σ2 hf => Pl.pos (fun m2 _ => p_102_41 σ2 hf)
  exact p_102_0 σ x y ⟨fun _ => ⟨fun _ => e m σ (FRe.refl σ), fun _ => ⟨fun _ => e m σ (FRe.refl σ), fun _ _ => e m _ (FRe.refl σ).put.put⟩⟩, fun _ => e m σ (FRe.refl σ)⟩
theorem te103 (h : RCx PRG n 103 [.ref 15, .int x, .int y] σ v σ1) : FRe σ σ1 := by
  refine h.by (Q := fun _ σ' => FRe σ σ') (fun m d => p_103_0 σ x y (fun _ w2 σ2 h2 _ => ?_))
  have f := te101 h2
  have e45 : ∀ m z σ3, FRe σ σ3 → Pl PRG m d 103 45 [(3, .int z)] [] σ3 (fun _ σ' => FRe σ σ') := fun m z σ3 hf => Pl.pos (fun m2 _ => p_103_45 σ3 z hf)
  have e34 : ∀ m z, Pl PRG m d 103 34 [(0, .ref 15), (3, .int z)] [] σ2 (fun _ σ' => FRe σ σ') := fun m z => Pl.pos (fun m2 _ => p_103_34 σ2 z (fun σ3 h3 => e45 m2 z σ3 (f.trans (te102 h3))))
  exact ⟨fun _ => f, fun _ => ⟨fun _ => e34 m _, fun _ => ⟨fun _ => e45 m _ σ2 f, fun _ => e34 m _⟩⟩⟩
theorem te107 (h : RCx PRG n 107 [.ref 15] σ v σ1) : FRe σ σ1 := by
  refine h.by (Q := fun _ σ' => FRe σ σ') (fun m d => p_107_0 σ (fun _ w2 σ2 h2 _ => ?_))
  have f := te101 h2
  refine ⟨fun _ => f, fun _ => ⟨fun _ => ?_, fun _ => f⟩⟩
  have loop : ∀ (m : Nat) (k : Int32) (z : Int64) (σ3 : Sg), FRe σ σ3 → Pl PRG m d 107 34 [(0, .ref 15), (1, .long z), (3, .int k)] [] σ3 (fun _ σ' => FRe σ σ') := by
    intro m
    induction m using Nat.strongRecOn with
    | _ m ih =>
      intro k z σ3 hf
      exact Pl.pos (fun m1 hm1 => p_107_34 σ3 k z ⟨fun _ _ => hf, fun _ _ => ⟨fun _ σ4 h4 => ih m1 (by omega) _ _ _ (hf.trans (te102 h4)), fun _ => ih m1 (by omega) _ _ _ hf⟩⟩)
  exact loop m _ _ σ2 f
end Te
theorem em108 {n k N : Nat} {x : Int32} {σ σ1 : Sg} (h : RCx PRG n 108 [.ref 15, .int (nI k), .int x] σ none σ1) (hw : ¬ σ.1 15 3 = 0) (hN : σ.1 3 9 = nI N) (h4 : N < 400) : emX N [(k, x)] σ σ1 := by
  refine h.by (Q := fun _ σ' => emX N [(k, x)] σ σ') (fun m d => p_108_0 σ (nI k) x ⟨fun c => absurd c hw, fun _ σ2 h2 => ?_⟩)
  refine h2.by (Q := fun _ σ' => emX N [(k, x)] σ σ') (fun m d => p_72_0 σ (nI k) x ⟨fun c => ?_, fun _ _ => ?_⟩)
  · rw [hN] at c
    exact absurd ((nI_leI (a := 400) (by decide) (by omega)).mp c) (by omega)
  · rw [hN, nI_clamp (by omega), nI_1]
    refine ⟨s1_on, fun y hy => by rw [s1_off (by omega), s1_off (by omega)], ?_, trivial⟩
    rw [s1_off (by omega), s1_on]
    rfl
theorem no01 : ¬ some (Value.int 0) = some (Value.int (1 : Int32)) := fun e => by
  have h := Option.some.inj e
  injection h with h
  exact absurd h (by decide)
theorem MO.psu {a u c : Nat} (h : MO a u c) (k : Nat) (v : Int32) (S : PS) : psS u k v S = uniX k v S := by
  rcases h with ⟨rfl, rfl, rfl⟩ | ⟨rfl, rfl, rfl⟩ | ⟨rfl, rfl, rfl⟩ | ⟨rfl, rfl, rfl⟩ <;> rfl
theorem MO.psc {a u c : Nat} (h : MO a u c) (k : Nat) (v : Int32) (S : PS) : psS c k v S = (S.1, S.2.1 ++ [(27, nI 10 + v)], S.2.2) := by
  rcases h with ⟨rfl, rfl, rfl⟩ | ⟨rfl, rfl, rfl⟩ | ⟨rfl, rfl, rfl⟩ | ⟨rfl, rfl, rfl⟩ <;> rfl
theorem MO.psa {a u c : Nat} (h : MO a u c) {k : Nat} (v : Int32) (S : PS) (hk : (5 ≤ k ∧ k ≤ 8) ∨ k = 14) : psS a k v S = aftX k S := by
  rcases h with ⟨rfl, rfl, rfl⟩ | ⟨rfl, rfl, rfl⟩ | ⟨rfl, rfl, rfl⟩ | ⟨rfl, rfl, rfl⟩
  · show (if 9 ≤ k ∧ k ≤ 12 then _ else aftX k S) = _
    rw [if_neg (by omega)]
  · show (if k = 23 ∨ k = 24 then _ else if k = 22 then _ else if k = 4 then _ else aftX k S) = _
    rw [if_neg (by omega), if_neg (by omega), if_neg (by omega)]
  · show (if 9 ≤ k ∧ k ≤ 12 then _ else aftX k S) = _
    rw [if_neg (by omega)]
  · show (if k = 23 ∨ k = 24 then _ else if k = 22 then _ else if k = 4 then _ else aftX k S) = _
    rw [if_neg (by omega), if_neg (by omega), if_neg (by omega)]
abbrev PSr : Type := (Bool × Bool × Nat × Cd) × List Lt × List Lt × List (List Lt × List Lt)
def exW (TT : List Tk) (i : Nat) (s : GSt) (σ : Sg) (W : List Nat) (O : Cd) (R : PSr) (N : Nat) : Prop := (∀ v S, psS s.1.1 (kdT TT i) v S = uniX (kdT TT i) v S) ∧ ¬ σ.1 15 3 = 0 ∧ σ.1 3 9 = nI N ∧ N ≤ i ∧ psT TT i = (W, O, R)
def exO (TT : List Tk) (i a dp : Nat) (D : DT) (W : List Nat) (O : Cd) (R : PSr) (N : Nat) (σ σ1 : Sg) : Prop := ∃ j s w O' C, pr TT j = .inr ((a, dp), D) ∧ PCo TT j (evs TT j) σ1 ∧ i + C.length ≤ j ∧ psT TT j = (s ++ (w ++ W), O', R) ∧ sgS s ∧ sgW w ∧ O ++ C = O' ++ (enX s ++ enX w) ∧ emX N C σ σ1
def unO (TT : List Tk) (i a dp : Nat) (D : DT) (W : List Nat) (O : Cd) (R : PSr) (N : Nat) (σ σ1 : Sg) : Prop := ∃ j C, pr TT j = .inr ((a, dp), D) ∧ PCo TT j (evs TT j) σ1 ∧ i + C.length ≤ j ∧ psT TT j = (W, O ++ C, R) ∧ emX N C σ σ1
theorem unit_e {TT : List Tk} (hW : WT TT) {n : Nat} (ihE : ∀ (m : Nat), m < n → ∀ (i a u c dp : Nat) (s : GSt) (σ σ1 : Sg) (W : List Nat) (O : Cd) (R : PSr) (N : Nat), exP TT i a u c dp s σ → exW TT i s σ W O R N → baX W → RCx PRG m 110 [.ref 15, .int (nI dp)] σ (some (.int 1)) σ1 → exO TT i a dp s.2 W O R N σ σ1) (i a u c dp : Nat) (s : GSt) (σ σ1 : Sg) (W : List Nat) (O : Cd) (R : PSr) (N : Nat) (hE : exP TT i a u c dp s σ) (hX : exW TT i s σ W O R N) (h : RCx PRG n 109 [.ref 15, .int (nI dp)] σ (some (.int 1)) σ1) : unO TT i a dp s.2 W O R N σ σ1 := by
  have hE0 := hE
  obtain ⟨hM, hdp, hC, hP, hs, hU, hm, h25, hev⟩ := hE
  obtain ⟨hps, hwr, hN, hNi, hS⟩ := hX
  have p2 := hP.2.1
  have hi4 := hP.2.2.1
  have hkd := (kd_le hW hs).1
  have hvr := vl_rg hW hs
  have kI : ∀ k, k ≤ 36 → (nI (kdT TT i) = nI k ↔ kdT TT i = k) := fun k hk => nI_eq (by omega) (by omega)
  have evn : evs TT (i + 1) = evs TT i := by rw [evs_step hs, evO_0 hev, orE_none]
  have hup : ∀ (q : Nat × Nat), i < 400 → ¬ kdT TT i = 22 → gu a u c dp (kdT TT i) = .inr q → pr TT (i + 1) = .inr (q, s.2) := fun q hi hk hq => by
    have := pr_next hs (by rw [hU]; exact hq) hi
    rw [upd_id hm hk (fun e => h25 e.1)] at this
    exact this
  have hs1 : psT TT (i + 1) = uniX (kdT TT i) (vlT TT i) (W, O, R) := by rw [ps_next hs, hps, hS]
  refine h.of (Q := fun v0 σ' => v0 = some (.int 1) → unO TT i a dp s.2 W O R N σ σ') (fun d => Pl.pos (fun m hmn => p_109_0 σ (nI dp) (by
    rw [p2]
    have num : ¬ kdT TT i = 13 → ¬ (27 ≤ kdT TT i ∧ kdT TT i ≤ 36) → ¬ kdT TT i = 26 → ∀ w2 σ2, RCx PRG m 103 [.ref 15, .int (0 : Int32), .int (9999 : Int32)] σ (some (.int w2)) σ2 → ∀ σ3, RCx PRG m 108 [.ref 15, .int (3 : Int32), .int w2] σ2 none σ3 → ((w2 < 0 → some (Value.int (0 : Int32)) = some (.int 1) → unO TT i a dp s.2 W O R N σ σ3) ∧ (¬ w2 < 0 → some (Value.int (1 : Int32)) = some (.int 1) → unO TT i a dp s.2 W O R N σ σ3)) := by
      intro n13 nv n26 w2 σ2 hw2 σ3 hw3
      have hg : gu a u c dp (kdT TT i) = if kdT TT i = 3 then .inr (a, dp) else .inl 1 := by
        unfold gu
        rw [if_neg n13, if_neg nv, if_neg n26]
      obtain ⟨f1, f2, f3⟩ := rc103 hW hw2 hC hP hs (fun e => ⟨(a, dp), by rw [hU, hg, if_pos e]⟩) (fun e => by rw [hU, hg, if_neg e])
      obtain ⟨b1, b2, b3⟩ := rc108 hw3
      have noff : off (vlT TT i) 0 9999 = false := by
        unfold off
        rw [decide_eq_false (by rw [Int32.lt_iff_toInt_lt]; have : (0 : Int32).toInt = 0 := by decide
                                omega), decide_eq_false (by rw [Int32.lt_iff_toInt_lt]; have : (9999 : Int32).toInt = 9999 := by decide
                                                            omega)]
        rfl
      refine ⟨fun _ e => absurd e no01, fun z _ => ?_⟩
      rcases f3 with ⟨e, g1, g2, g3⟩ | ⟨e, -⟩
      · rw [noff] at g3
        have g4 : PCo TT (i + 1) (orE (evs TT i) none) σ2 := g3
        rw [orE_none] at g4
        have em := em108 (k := 3) hw3 (by rw [f1.2.2.1]; exact hwr) ((te103 hw2).1.trans hN) (by omega)
        refine ⟨i + 1, [(3, w2)], hup (a, dp) g2 (by omega) (by rw [hg, if_pos g1]), ?_, Nat.le_refl _, ?_, em.pre (te103 hw2)⟩
        · rw [evn]; exact g4.same b3
        · rw [hs1, e]
          unfold uniX
          rw [if_neg n13, if_neg nv, if_neg n26]
      · rw [e] at z
        exact absurd (by decide) z
    have cnt : kdT TT i = 26 → ∀ w5 σ4, RCx PRG m 101 [.ref 15, .int (26 : Int32)] σ (some (.int w5)) σ4 → (w5 = 0 ∨ w5 = 1) → ((w5 = 0 → ∀ σ6, RCx PRG m 108 [.ref 15, .int (27 : Int32), .int ((10 : Int32) + (-1 : Int32))] σ4 none σ6 → some (Value.int (0 : Int32)) = some (.int 1) → unO TT i a dp s.2 W O R N σ σ6) ∧ (¬ w5 = 0 → ∀ w8 σ7, RCx PRG m 103 [.ref 15, .int (0 : Int32), .int (3 : Int32)] σ4 (some (.int w8)) σ7 → ∀ σ9, RCx PRG m 108 [.ref 15, .int (27 : Int32), .int ((10 : Int32) + w8)] σ7 none σ9 → ((w8 < 0 → some (Value.int (0 : Int32)) = some (.int 1) → unO TT i a dp s.2 W O R N σ σ9) ∧ (¬ w8 < 0 → some (Value.int (1 : Int32)) = some (.int 1) → unO TT i a dp s.2 W O R N σ σ9)))) := by
      intro e26 w5 σ4 hw5 _
      have hg : gu a u c dp (kdT TT i) = .inr (c, dp) := by
        unfold gu
        rw [if_neg (by omega), if_neg (by omega), if_pos e26]
      obtain ⟨f1, f2, f3⟩ := rc101 (k := 26) hW hw5 hC hP hs (by decide) (fun _ => ⟨_, by rw [hU, hg]⟩) (fun e => absurd e26 e)
      refine ⟨fun _ _ _ e => absurd e no01, fun z w8 σ7 hw8 σ9 h9 => ⟨fun _ e => absurd e no01, fun z8 _ => ?_⟩⟩
      rcases f3 with ⟨e, g1, g2, g3⟩ | ⟨e, -⟩
      · have hs2 := hup (c, dp) g2 (by omega) hg
        have hvr2 := vl_rg hW hs2
        obtain ⟨k1, k2, k3⟩ := rc103 hW hw8 (hC.fr f1) g3 hs2 (fun e => ⟨(a, dp), by show gs c dp _ _ = _; rw [hM.gsc, if_pos e]⟩) (fun e => by show gs c dp _ _ = _; rw [hM.gsc, if_neg e])
        obtain ⟨b1, b2, b3⟩ := rc108 h9
        rcases k3 with ⟨e8, j1, j2, j3⟩ | ⟨e8, -⟩
        · have hs3 := pr_next (q := (a, dp)) hs2 (by show gs c dp _ _ = _; rw [hM.gsc, if_pos j1]) j2
          rw [show updD ((c, dp), s.2).1.1 (kdT TT (i + 1)) (i + 1) ((c, dp), s.2).2 = s.2 from upd_id hM.ne.2.2.1 (by omega) (fun e => hM.ne.2.2.2.2 e.1)] at hs3
          have fe := (te101 hw5).trans (te103 hw8)
          have em := em108 (k := 27) h9 (by rw [(f1.trans k1).2.2.1]; exact hwr) (fe.1.trans hN) (by omega)
          refine ⟨i + 1 + 1, [(27, (10 : Int32) + w8)], hs3, ?_, by show i + 1 ≤ i + 1 + 1; omega, ?_, em.pre fe⟩
          · rw [evs_step hs2, evO_off hM.evc, evn]
            exact j3.same b3
          · rw [ps_next hs2, hs1]
            show psS c _ _ _ = _
            rw [hM.psc, e8]
            unfold uniX
            rw [if_neg (by omega), if_neg (by omega), if_pos e26]
            rfl
        · rw [e8] at z8
          exact absurd (by decide) z8
      · exact absurd e z
    refine ⟨fun c13 => ⟨fun c6 w23 σ22 h23 _ => ?_, fun c6 w29 σ28 h29 _ _ e => ?_⟩, fun c13 => ⟨fun c27 => ⟨fun c26 => cnt ((kI 26 (by decide)).mp c26), fun c26 => num (fun e => c13 ((kI 13 (by decide)).mpr e)) (fun e => ?_) (fun e => c26 ((kI 26 (by decide)).mpr e))⟩, fun c27 => ⟨fun c36 => ?_, fun c36 σ19 h19 w21 σ20 h21 _ _ e => ?_⟩⟩⟩
    · have e13 := (kI 13 (by decide)).mp c13
      have hdp6 : dp < 6 := by
        rcases Nat.lt_or_ge dp 6 with g | g
        · exact g
        · exact absurd c6 (nI_nlt (a := dp) (b := 6) g (by omega))
      have hg : gu a u c dp (kdT TT i) = .inr (u, dp + 1) := by
        unfold gu
        rw [if_pos e13, if_neg (by omega)]
      obtain ⟨f1, f2, f3⟩ := rc101 (k := 13) hW h23 hC hP hs (by decide) (fun _ => ⟨_, by rw [hU, hg]⟩) (fun e => absurd e13 e)
      refine ⟨fun z e => absurd e no01, fun z w25 σ24 h25' hz25 => ⟨fun _ e => absurd e no01, fun z2 w27 σ26 h27 _ => ⟨fun _ e => absurd e no01, fun z3 _ => ?_⟩⟩⟩
      rcases f3 with ⟨e, g1, g2, g3⟩ | ⟨e, -⟩
      · have hs2 := hup (u, dp + 1) g2 (by omega) hg
        rw [nI_1] at h25'
        rw [← evn] at g3
        have e25 : w25 = 1 := by
          rcases hz25 with q | q
          · exact absurd q z2
          · exact q
        subst e25
        have hP2 : exP TT (i + 1) a u c (dp + 1) ((u, dp + 1), s.2) σ22 := ⟨hM, by omega, hC.fr f1, g3, hs2, hM.gsu _ _ _, hM.ne.2.1, hM.ne.2.2.2.1, hM.evu⟩
        have fk := (expr_c hW m (i + 1) a u c (dp + 1) _ σ22 σ24 1 hP2 h25').1
        have fj := (expr_c hW m (i + 1) a u c (dp + 1) _ σ22 σ24 1 hP2 h25').2.2
        obtain ⟨j, sX, wX', O', C, x1, x2, x3, x4, x5, x6, x7, x8⟩ := ihE m (by omega) (i + 1) a u c (dp + 1) _ σ22 σ24 (13 :: W) O R N hP2 ⟨fun v S => hM.psu _ v S, by rw [f1.2.2.1]; exact hwr, (te101 h23).1.trans hN, by omega, by
          rw [hs1]
          unfold uniX
          rw [if_pos e13]⟩ (Or.inr ⟨W, rfl⟩) h25'
        have j4 : ¬ (5 ≤ kdT TT j ∧ kdT TT j ≤ 8) := by
          rcases fj with ⟨-, j', -, q2, q3, q4⟩ | ⟨e, -⟩
          · have := q3.1
            rw [x2.1] at this
            have ejj : j = j' := (nI_eq (by have := x2.2.2.1; omega) (by have := q3.2.2.1; omega)).mp this
            subst ejj; exact q4
          · exact absurd e (by decide)
        obtain ⟨r, hr⟩ := hM.gsa (kdT TT j)
        have hga : ∀ len, gs a (dp + 1) len (kdT TT j) = if kdT TT j = 14 then .inr (a, dp) else .inl 1 := by
          intro len
          rw [hr]
          unfold ga
          rw [if_neg j4]
          by_cases e14 : kdT TT j = 14
          · rw [if_pos ⟨e14, by omega⟩, if_pos e14]; rfl
          · rw [if_neg (fun e => e14 e.1), if_neg (by omega), if_neg e14]
        obtain ⟨l1, l2, l3⟩ := rc101 (k := 14) hW h27 ((hC.fr f1).fr fk) x2 x1 (by decide) (fun e => ⟨(a, dp), by show gs a (dp + 1) _ _ = _; rw [hga, if_pos e]⟩) (fun e => by show gs a (dp + 1) _ _ = _; rw [hga, if_neg e])
        rcases l3 with ⟨e', m1, m2, m3⟩ | ⟨e', -⟩
        · have hs3 := pr_next (q := (a, dp)) x1 (by show gs a (dp + 1) _ _ = _; rw [hga, if_pos m1]) m2
          rw [show updD ((a, dp + 1), s.2).1.1 (kdT TT j) j ((a, dp + 1), s.2).2 = s.2 from upd_id hM.ne.1 (by omega) (fun e => by omega)] at hs3
          refine ⟨j + 1, C, hs3, ?_, by omega, ?_, (x8.pre (te101 h23)).fre (te101 h27)⟩
          · rw [evs_step x1, evO_0 hM.eva, orE_none]
            exact m3
          · rw [ps_next x1, m1]
            show psS a 14 _ _ = _
            rw [hM.psa _ _ (Or.inr rfl), x4]
            unfold aftX
            rw [if_neg (by decide), if_pos rfl]
            show ((coX false (sX ++ (wX' ++ 13 :: W)) O').1.tail, (coX false (sX ++ (wX' ++ 13 :: W)) O').2, R) = _
            rw [co_all x5 x6 (Or.inr ⟨W, rfl⟩), ← x7]
            rfl
        · exact absurd e' z3
      · exact absurd e z
    · rw [e] at h29
      have := rc106 hW h29 hC hP hs (by
        have e13 := (kI 13 (by decide)).mp c13
        have hdp6 : 6 ≤ dp := by
          rcases Nat.lt_or_ge dp 6 with g | g
          · exact absurd (nI_lt g (by decide)) c6
          · exact g
        have hg : gu a u c dp (kdT TT i) = .inl 2 := by
          unfold gu
          rw [if_pos e13, if_pos hdp6]
        rw [hU, hg])
      exact absurd this.2.2.1 (by decide)
    · exact absurd c27 (nI_nlt (a := kdT TT i) (b := 27) e.1 (by omega))
    · exact absurd c36 (nI_nlt (a := 36) (b := kdT TT i) (by omega) (by decide))
    · have h27 : 27 ≤ kdT TT i := by
        rcases Nat.lt_or_ge (kdT TT i) 27 with g | g
        · exact absurd (nI_lt g (by decide)) c27
        · exact g
      have hg : gu a u c dp (kdT TT i) = .inr (a, dp) := by
        unfold gu
        rw [if_neg (by omega), if_pos ⟨h27, by omega⟩]
      obtain ⟨b1, b2, b3⟩ := rc108 h19
      rw [b3 5, p2] at h21
      obtain ⟨f1, f2, f3⟩ := rc101 (k := kdT TT i) hW h21 (hC.fr b1) (hP.same b3) hs (by omega) (fun _ => ⟨_, by rw [hU, hg]⟩) (fun e => absurd rfl e)
      rcases f3 with ⟨e', g1, g2, g3⟩ | ⟨e', g⟩
      · rw [show (27 : Int32) = nI 27 by decide] at h19
        have ek : nI (kdT TT i) - nI 27 = nI (kdT TT i - 27) := nI_subI h27
        rw [ek] at h19
        have em := em108 (k := 27) h19 hwr hN (by omega)
        refine ⟨i + 1, [(27, nI (kdT TT i - 27))], hup (a, dp) g2 (by omega) hg, by rw [evn]; exact g3, Nat.le_refl _, ?_, em.fre (te101 h21)⟩
        rw [hs1]
        unfold uniX
        rw [if_neg (by omega), if_pos ⟨h27, by omega⟩]
      · subst e'
        exact absurd e no01))) rfl
def wI (w : List Nat) : Int32 := match w with
  | [] => 0
  | k :: _ => nI k
theorem wI_0 {w : List Nat} (h : sgW w) : wI w = 0 ↔ w = [] := by
  rcases h with rfl | rfl | rfl <;> decide
theorem wI_k {w : List Nat} (h : sgW w) (hn : ¬ w = []) : ∃ k, w = [k] ∧ wI w = nI k ∧ k < 10 := by
  rcases h with rfl | rfl | rfl
  · exact absurd rfl hn
  · exact ⟨5, rfl, rfl, by decide⟩
  · exact ⟨6, rfl, rfl, by decide⟩
/-- between the calls of expression -/
def exJ (TT : List Tk) (i a dp kk : Nat) (D : DT) (W : List Nat) (O : Cd) (R : PSr) (N : Nat) (σ0 σ : Sg) (y : Int32) : Prop := FRc σ0 σ ∧ ∃ j s w O' E, i < j ∧ kk < j ∧ pr TT j = .inr ((a, dp), D) ∧ PCo TT j (evs TT j) σ ∧ i + E.length + w.length ≤ j ∧ psT TT j = (s ++ (w ++ W), O', R) ∧ sgS s ∧ sgW w ∧ O ++ E = O' ++ enX s ∧ emX N E σ0 σ ∧ y = wI w
theorem aft_weak {k : Nat} {s w W : List Nat} {O' : Cd} {R : PSr} (hk : k = 5 ∨ k = 6) (hs : sgS s) (hw : sgW w) (hB : baX W) : aftX k (s ++ (w ++ W), O', R) = (k :: W, O' ++ (enX s ++ enX w), R) := by
  unfold aftX
  rw [if_pos (by omega), decide_eq_false (by omega)]
  show (k :: (coX false (s ++ (w ++ W)) O').1, (coX false (s ++ (w ++ W)) O').2, R) = _
  rw [co_all hs hw hB]
theorem aft_str {k : Nat} {s w W : List Nat} {O' : Cd} {R : PSr} (hk : k = 7 ∨ k = 8) (hs : sgS s) (hw : sgW w) (hB : baX W) : aftX k (s ++ (w ++ W), O', R) = (k :: (w ++ W), O' ++ enX s, R) := by
  unfold aftX
  rw [if_pos (by omega), decide_eq_true (by omega)]
  show (k :: (coX true (s ++ (w ++ W)) O').1, (coX true (s ++ (w ++ W)) O').2, R) = _
  rw [co_strong hs hw hB]
theorem expr_e {TT : List Tk} (hW : WT TT) : ∀ (n : Nat) (i a u c dp : Nat) (s : GSt) (σ σ1 : Sg) (W : List Nat) (O : Cd) (R : PSr) (N : Nat), exP TT i a u c dp s σ → exW TT i s σ W O R N → baX W → RCx PRG n 110 [.ref 15, .int (nI dp)] σ (some (.int 1)) σ1 → exO TT i a dp s.2 W O R N σ σ1 := by
  intro n
  induction n using Nat.strongRecOn with
  | _ n ih =>
    intro i a u c dp s σ σ1 W O R N hE hX hB h
    have hM := hE.1
    have hdp := hE.2.1
    have hC := hE.2.2.1
    have hN := hX.2.2.1
    have hNi := hX.2.2.2.1
    have hwr := hX.2.1
    refine h.of (Q := fun v0 σ' => v0 = some (.int 1) → exO TT i a dp s.2 W O R N σ σ') (fun d => ?_) rfl
    -- after a failure
    have dead : ∀ (m : Nat) (kk : Nat) (y : Int32) (σ2 : Sg), Pl PRG m d 110 11 [(0, .ref 15), (1, .int (nI dp)), (2, .int y), (3, .int (0 : Int32)), (4, .int (nI kk))] [] σ2 (fun v0 σ' => v0 = some (.int 1) → exO TT i a dp s.2 W O R N σ σ') := by
      intro m kk y σ2
      have f138 : ∀ (m2 : Nat) (σ3 : Sg), Pl PRG m2 d 110 138 [(3, .int (0 : Int32))] [] σ3 (fun v0 σ' => v0 = some (.int 1) → exO TT i a dp s.2 W O R N σ σ') := fun m2 σ3 => Pl.pos (fun m3 _ => p_110_138 σ3 0 (fun _ e => absurd e no01))
      have f128 : ∀ (m2 : Nat), Pl PRG m2 d 110 128 [(0, .ref 15), (2, .int y), (3, .int (0 : Int32))] [] σ2 (fun v0 σ' => v0 = some (.int 1) → exO TT i a dp s.2 W O R N σ σ') := fun m2 => Pl.pos (fun m3 _ => p_110_128 σ2 y 0 ⟨fun _ => f138 m3 σ2, fun _ σ3 _ => f138 m3 σ3⟩)
      exact Pl.pos (fun m1 _ => p_110_11 σ2 (nI dp) y 0 (nI kk) ⟨fun _ => f128 m1, fun _ => ⟨fun _ => f128 m1, fun c => absurd rfl c⟩⟩)
    -- the end
    have fin : ∀ (m : Nat) (y : Int32) (σ2 : Sg) (kk : Nat), exJ TT i a dp kk s.2 W O R N σ σ2 y → Pl PRG m d 110 128 [(0, .ref 15), (2, .int y), (3, .int (1 : Int32))] [] σ2 (fun v0 σ' => v0 = some (.int 1) → exO TT i a dp s.2 W O R N σ σ') := by
      intro m y σ2 kk hI
      obtain ⟨f1, j, s', w, O', E, j1, j2, j3, j4, j5, j6, j7, j8, j9, j10, rfl⟩ := hI
      refine Pl.pos (fun m2 _ => p_110_128 σ2 (wI w) 1 ⟨fun c => ?_, fun c σ3 h3 => ?_⟩)
      · have hw := (wI_0 j8).mp c
        refine Pl.pos (fun m3 _ => p_110_138 σ2 1 (fun _ _ => ⟨j, s', w, O', E, j3, j4, by omega, j6, j7, j8, ?_, j10⟩))
        rw [j9, hw]
        show O' ++ enX s' = O' ++ (enX s' ++ [])
        rw [List.append_nil]
      · obtain ⟨k, hk, hk2, hk3⟩ := wI_k j8 (fun e => c ((wI_0 j8).mpr e))
        obtain ⟨b1, b2, b3⟩ := rc108 h3
        rw [hk2] at h3
        rw [hk] at j5
        have j5' : i + E.length + 1 ≤ j := j5
        have hj4 := j4.2.2.1
        have em := em108 h3 (by rw [f1.2.2.1]; exact hwr) j10.1 (by omega)
        refine Pl.pos (fun m3 _ => p_110_138 σ3 1 (fun _ _ => ⟨j, s', w, O', E ++ [(k, 0)], j3, j4.same b3, by rw [List.length_append]; exact j5', j6, j7, j8, ?_, j10.app em⟩))
        rw [← List.append_assoc, j9, hk, List.append_assoc]
        rfl
    have loop : ∀ (m : Nat), m < n → ∀ (kk : Nat) (y : Int32) (σ2 : Sg), kk ≤ 400 → exJ TT i a dp kk s.2 W O R N σ σ2 y → Pl PRG m d 110 11 [(0, .ref 15), (1, .int (nI dp)), (2, .int y), (3, .int (1 : Int32)), (4, .int (nI kk))] [] σ2 (fun v0 σ' => v0 = some (.int 1) → exO TT i a dp s.2 W O R N σ σ') := by
      intro m
      induction m using Nat.strongRecOn with
      | _ m ihm =>
        intro hmn kk y σ2 hkk hI
        refine Pl.pos (fun m1 hm1 => p_110_11 σ2 (nI dp) y 1 (nI kk) ⟨fun c1 => fin m1 y σ2 kk hI, fun c1 => ⟨fun c2 => absurd c2 (by decide), fun _ => ?_⟩⟩)
        have hI0 := hI
        obtain ⟨f1, j, s', w, O', E, j1, j2, j3, j4, j5, j6, j7, j8, j9, j10, ey⟩ := hI
        have hkk4 : kk < 400 := nle_of (a := 400) (b := kk) (by decide) (by omega) c1
        have hkd := (kd_le hW j3).1
        have hj4 := j4.2.2.1
        rw [j4.2.1]
        refine ⟨fun _ => fin m1 y σ2 kk hI0, fun c3 => ⟨fun _ => fin m1 y σ2 kk hI0, fun c4 => ?_⟩⟩
        have h5 : 5 ≤ kdT TT j := by
          rcases Nat.lt_or_ge (kdT TT j) 5 with g | g
          · exact absurd (nI_lt g (by decide)) c3
          · exact g
        have h8 : kdT TT j ≤ 8 := by
          rcases Nat.lt_or_ge 8 (kdT TT j) with g | g
          · exact absurd (nI_lt g (by omega)) c4
          · exact g
        have kI : ∀ k, k ≤ 36 → (nI (kdT TT j) = nI k ↔ kdT TT j = k) := fun k hk => nI_eq (by omega) (by omega)
        have back : ∀ (m2 : Nat), m2 < m → ∀ (y2 : Int32) (σ3 : Sg), exJ TT i a dp (kk + 1) s.2 W O R N σ σ3 y2 → Pl PRG m2 d 110 122 [(0, .ref 15), (1, .int (nI dp)), (2, .int y2), (3, .int (1 : Int32)), (4, .int (nI kk))] [] σ3 (fun v0 σ' => v0 = some (.int 1) → exO TT i a dp s.2 W O R N σ σ') := fun m2 hm2 y2 σ3 hI3 => Pl.pos (fun m3 hm3 => p_110_122 σ3 (nI dp) y2 1 (nI kk) (by
          rw [nI_1]
          exact ihm m3 (by omega) (by omega) (kk + 1) y2 σ3 (by omega) hI3))
        have low : ∀ (m2 : Nat) (x6 : Int32) (σ3 : Sg), Pl PRG m2 d 110 102 [(0, .ref 15), (1, .int (nI dp)), (2, .int y), (4, .int (nI kk)), (5, .int (nI (kdT TT j))), (6, .int x6)] [] σ3 (fun v0 σ' => v0 = some (.int 1) → exO TT i a dp s.2 W O R N σ σ') := by
          intro m2 x6 σ3
          have b122 : ∀ (m3 : Nat) (y2 : Int32) (σ4 : Sg), Pl PRG m3 d 110 122 [(0, .ref 15), (1, .int (nI dp)), (2, .int y2), (3, .int (0 : Int32)), (4, .int (nI kk))] [] σ4 (fun v0 σ' => v0 = some (.int 1) → exO TT i a dp s.2 W O R N σ σ') := fun m3 y2 σ4 => Pl.pos (fun m4 _ => p_110_122 σ4 (nI dp) y2 0 (nI kk) (by
            rw [nI_1]
            exact dead m4 (kk + 1) y2 σ4))
          exact Pl.pos (fun m3 hm3 => p_110_102 σ3 (nI dp) y (nI kk) (nI (kdT TT j)) x6 ⟨fun _ σ4 _ => b122 m3 _ σ4, fun _ => b122 m3 _ σ3⟩)
        -- the sign is taken; E1 is what has been added, s1 ++ (w1 ++ W) what waits behind it
        have op : ∀ (m2 : Nat), m2 < m → ∀ (x6 : Int32) (σ3 : Sg) (E1 O1 : Cd) (W1 : List Nat), FRc σ σ3 → PCo TT j (evs TT j) σ3 → emX N E1 σ σ3 → N + E1.length ≤ j → psT TT (j + 1) = (kdT TT j :: W1, O1, R) → (∀ (m3 : Nat), m3 < m → ∀ (j' : Nat) (C' : Cd) (σ5 : Sg), FRc σ σ5 → pr TT j' = .inr ((a, dp), s.2) → PCo TT j' (evs TT j') σ5 → j + 1 + C'.length ≤ j' → psT TT j' = (kdT TT j :: W1, O1 ++ C', R) → emX N (E1 ++ C') σ σ5 → ((x6 = 0 → ∀ σ6, RCx PRG m3 108 [.ref 15, .int (nI (kdT TT j)), .int (0 : Int32)] σ5 none σ6 → Pl PRG m3 d 110 122 [(0, .ref 15), (1, .int (nI dp)), (2, .int y), (3, .int (1 : Int32)), (4, .int (nI kk))] [] σ6 (fun v0 σ' => v0 = some (.int 1) → exO TT i a dp s.2 W O R N σ σ')) ∧ (¬ x6 = 0 → Pl PRG m3 d 110 122 [(0, .ref 15), (1, .int (nI dp)), (2, .int (nI (kdT TT j))), (3, .int (1 : Int32)), (4, .int (nI kk))] [] σ5 (fun v0 σ' => v0 = some (.int 1) → exO TT i a dp s.2 W O R N σ σ')))) → Pl PRG m2 d 110 81 [(0, .ref 15), (1, .int (nI dp)), (2, .int y), (4, .int (nI kk)), (5, .int (nI (kdT TT j))), (6, .int x6)] [] σ3 (fun v0 σ' => v0 = some (.int 1) → exO TT i a dp s.2 W O R N σ σ') := by
          intro m2 hm2 x6 σ3 E1 O1 W1 g1 g3 gE gN gS go
          refine Pl.pos (fun m3 hm3 => p_110_81 σ3 (nI dp) y (nI kk) (nI (kdT TT j)) x6 (fun w2 σ4 h4 _ => ?_))
          obtain ⟨r, hr⟩ := hM.gsa (kdT TT j)
          have hga : ∀ len, gs a dp len (kdT TT j) = .inr (u, dp) := fun len => by
            rw [hr]
            unfold ga
            rw [if_pos ⟨h5, h8⟩]
          obtain ⟨l1, l2, l3⟩ := rc101 (k := kdT TT j) hW h4 (hC.fr g1) g3 j3 (by omega) (fun _ => ⟨(u, dp), hga _⟩) (fun e => absurd rfl e)
          refine ⟨fun z => low m3 x6 σ4, fun z w4 σ5 h5' hz4 => ⟨fun z => low m3 x6 σ5, fun z4 => ?_⟩⟩
          rcases l3 with ⟨e', q1, q2, q3⟩ | ⟨e', -⟩
          · have hs2 := pr_next (q := (u, dp)) j3 (hga _) q2
            rw [show updD ((a, dp), s.2).1.1 (kdT TT j) j ((a, dp), s.2).2 = s.2 from upd_id hM.ne.1 (by omega) (fun e => by omega)] at hs2
            have ev2 : evs TT (j + 1) = evs TT j := by rw [evs_step j3, evO_0 hM.eva, orE_none]
            rw [← ev2] at q3
            have e4 : w4 = 1 := by
              rcases hz4 with q | q
              · exact absurd q z4
              · exact q
            subst e4
            have hP2 : exP TT (j + 1) a u c dp ((u, dp), s.2) σ4 := ⟨hM, hdp, (hC.fr g1).fr l1, q3, hs2, hM.gsu _ _ _, hM.ne.2.1, hM.ne.2.2.2.1, hM.evu⟩
            have fk := (unit_c hW (n := m3) (fun m' hm' => expr_c hW m') (j + 1) a u c dp _ σ4 σ5 1 hP2 h5').1
            have em4 := gE.fre (te101 h4)
            obtain ⟨j', C', y1, y2, y3, y4, y5⟩ := unit_e hW (n := m3) (fun m' hm' => ih m' (by omega)) (j + 1) a u c dp _ σ4 σ5 (kdT TT j :: W1) O1 R (N + E1.length) hP2 ⟨fun v S => hM.psu _ v S, by rw [(g1.trans l1).2.2.1]; exact hwr, em4.1, by omega, gS⟩ h5'
            exact go m3 (by omega) j' C' σ5 ((g1.trans l1).trans fk) y1 y2 y3 y4 (em4.app y5)
          · exact absurd e' z
        have hps1 : psT TT (j + 1) = aftX (kdT TT j) (s' ++ (w ++ W), O', R) := by
          rw [ps_next j3, j6]
          exact hM.psa _ _ (Or.inl ⟨h5, h8⟩)
        -- a weak sign
        have weak : (kdT TT j = 5 ∨ kdT TT j = 6) → Pl PRG m1 d 110 59 [(0, .ref 15), (1, .int (nI dp)), (2, .int y), (4, .int (nI kk)), (5, .int (nI (kdT TT j)))] [] σ2 (fun v0 σ' => v0 = some (.int 1) → exO TT i a dp s.2 W O R N σ σ') := by
          intro hk
          have hps2 := hps1
          rw [aft_weak hk j7 j8 hB] at hps2
          have hkW : sgW [kdT TT j] := by
            rcases hk with e | e <;> rw [e]
            · exact Or.inr (Or.inl rfl)
            · exact Or.inr (Or.inr rfl)
          have go : ∀ (E1 : Cd) (σ3 : Sg), i + E1.length ≤ j → O ++ E1 = O' ++ (enX s' ++ enX w) → ∀ (m3 : Nat), m3 < m → ∀ (j' : Nat) (C' : Cd) (σ5 : Sg), FRc σ σ5 → pr TT j' = .inr ((a, dp), s.2) → PCo TT j' (evs TT j') σ5 → j + 1 + C'.length ≤ j' → psT TT j' = (kdT TT j :: W, (O' ++ (enX s' ++ enX w)) ++ C', R) → emX N (E1 ++ C') σ σ5 → (((1 : Int32) = 0 → ∀ σ6, RCx PRG m3 108 [.ref 15, .int (nI (kdT TT j)), .int (0 : Int32)] σ5 none σ6 → Pl PRG m3 d 110 122 [(0, .ref 15), (1, .int (nI dp)), (2, .int y), (3, .int (1 : Int32)), (4, .int (nI kk))] [] σ6 (fun v0 σ' => v0 = some (.int 1) → exO TT i a dp s.2 W O R N σ σ')) ∧ (¬ (1 : Int32) = 0 → Pl PRG m3 d 110 122 [(0, .ref 15), (1, .int (nI dp)), (2, .int (nI (kdT TT j))), (3, .int (1 : Int32)), (4, .int (nI kk))] [] σ5 (fun v0 σ' => v0 = some (.int 1) → exO TT i a dp s.2 W O R N σ σ'))) := by
            intro E1 σ3 hl1 hO m3 hm3 j' C' σ5 x1 x2 x3 x4 x5 x6
            refine ⟨fun e => absurd e (by decide), fun _ => back m3 hm3 _ σ5 ⟨x1, j', [], [kdT TT j], _, E1 ++ C', by omega, by omega, x2, x3, ?_, x5, Or.inl rfl, hkW, ?_, x6, rfl⟩⟩
            · rw [List.length_append]
              show i + (E1.length + C'.length) + 1 ≤ j'
              omega
            · rw [← List.append_assoc, hO]
              show _ = (O' ++ (enX s' ++ enX w)) ++ C' ++ []
              rw [List.append_nil]
          refine Pl.pos (fun m2 hm2 => p_110_59 σ2 (nI dp) y (nI kk) (nI (kdT TT j)) ⟨fun cy => ?_, fun cy σ3 h3 => ?_⟩)
          · rw [ey] at cy
            have hw := (wI_0 j8).mp cy
            have hO : O ++ E = O' ++ (enX s' ++ enX w) := by
              rw [j9, hw]
              show O' ++ enX s' = O' ++ (enX s' ++ [])
              rw [List.append_nil]
            exact op m2 (by omega) 1 σ2 E _ W f1 j4 j10 (by omega) hps2 (go E σ2 (by omega) hO)
          · obtain ⟨b1, b2, b3⟩ := rc108 h3
            rw [ey] at cy h3
            obtain ⟨k, hk1, hk2, hk3⟩ := wI_k j8 (fun e => cy ((wI_0 j8).mpr e))
            rw [hk2] at h3
            have j5' : i + E.length + 1 ≤ j := by rw [hk1] at j5; exact j5
            have em := em108 h3 (by rw [f1.2.2.1]; exact hwr) j10.1 (by omega)
            have hl : (E ++ [(k, (0 : Int32))]).length = E.length + 1 := by rw [List.length_append]; rfl
            have hO : O ++ (E ++ [(k, (0 : Int32))]) = O' ++ (enX s' ++ enX w) := by
              rw [← List.append_assoc, j9, hk1, List.append_assoc]
              rfl
            exact op m2 (by omega) 1 σ3 (E ++ [(k, 0)]) _ W (f1.trans b1) (j4.same b3) (j10.app em) (by rw [hl]; omega) hps2 (go _ σ3 (by rw [hl]; omega) hO)
        refine ⟨fun c5 => weak (Or.inl ((kI 5 (by decide)).mp c5)), fun c5 => ⟨fun c6 => weak (Or.inr ((kI 6 (by decide)).mp c6)), fun c6 => ?_⟩⟩
        have hk : kdT TT j = 7 ∨ kdT TT j = 8 := by
          have q5 : ¬ kdT TT j = 5 := fun e => c5 ((kI 5 (by decide)).mpr e)
          have q6 : ¬ kdT TT j = 6 := fun e => c6 ((kI 6 (by decide)).mpr e)
          omega
        have hps2 := hps1
        rw [aft_str hk j7 j8 hB] at hps2
        have hkS : sgS [kdT TT j] := by
          rcases hk with e | e <;> rw [e]
          · exact Or.inr (Or.inl rfl)
          · exact Or.inr (Or.inr rfl)
        refine op m1 (by omega) 0 σ2 E (O' ++ enX s') (w ++ W) f1 j4 j10 (by omega) hps2 (fun m3 hm3 j' C' σ5 x1 x2 x3 x4 x5 x6 => ⟨fun _ σ6 h6 => ?_, fun e => absurd rfl e⟩)
        obtain ⟨b1, b2, b3⟩ := rc108 h6
        have x3' := x3.2.2.1
        have hl : (E ++ C').length = E.length + C'.length := List.length_append
        have em := em108 h6 (by rw [x1.2.2.1]; exact hwr) x6.1 (by rw [hl]; omega)
        refine back m3 hm3 _ σ6 ⟨x1.trans b1, j', [kdT TT j], w, (O' ++ enX s') ++ C', (E ++ C') ++ [(kdT TT j, 0)], by omega, by omega, x2, x3.same b3, ?_, x5, hkS, j8, ?_, x6.app em, ey⟩
        · rw [List.length_append, hl]
          show i + (E.length + C'.length + 1) + w.length ≤ j'
          omega
        · rw [← List.append_assoc, ← List.append_assoc, j9]
          rfl
    refine Pl.pos (fun m hmn => p_110_0 σ (nI dp) (fun w2 σ2 h2 hz => ?_))
    rcases hz with rfl | rfl
    · exact dead m 0 0 σ2
    · have fk := (unit_c hW (n := m) (fun m' hm' => expr_c hW m') i a u c dp s σ σ2 1 hE h2).1
      have lt := (unit_c hW (n := m) (fun m' hm' => expr_c hW m') i a u c dp s σ σ2 1 hE h2).2.2
      obtain ⟨j, C, y1, y2, y3, y4, y5⟩ := unit_e hW (n := m) (fun m' hm' => ih m' (by omega)) i a u c dp s σ σ2 W O R N hE hX h2
      have hij : i < j := by
        rcases lt with ⟨-, j', q1, q2, q3, -⟩ | ⟨e, -⟩
        · have := q3.1
          rw [y2.1] at this
          have ejj : j = j' := (nI_eq (by have := y2.2.2.1; omega) (by have := q3.2.2.1; omega)).mp this
          omega
        · exact absurd e (by decide)
      refine loop m (by omega) 0 0 σ2 (by omega) ⟨fk, j, [], [], O ++ C, C, hij, by omega, y1, y2, y3, y4, Or.inl rfl, Or.inl rfl, ?_, y5, rfl⟩
      show O ++ C = O ++ C ++ []
      rw [List.append_nil]
