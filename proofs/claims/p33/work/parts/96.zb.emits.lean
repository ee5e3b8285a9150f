/-! expressions, literals, conditions of the reference -/
theorem MO.af {TT : List Tk} (hW : WT TT) {iE : Nat} (hG : gtX TT iE) {i a u c dp : Nat} {D : DT} (hM : MO a u c) (hs : pr TT i = .inr ((a, dp), D)) : afX dp (psT TT i) := by
  obtain ⟨-, -, -, h3, -, h5⟩ := ps_ok hW i _ (hG.ev hs) hs
  rcases hM with ⟨rfl, -, -⟩ | ⟨rfl, -, -⟩ | ⟨rfl, -, -⟩ | ⟨rfl, -, -⟩
  · exact h3 (Or.inl rfl)
  · exact (h5 (Or.inl rfl)).1
  · exact h3 (Or.inr rfl)
  · exact (h5 (Or.inr rfl)).1
theorem rsX.push {a w : Nat} {W : List Nat} {O : Cd} {σ : Sg} {x : Int32} (h : rsX a W O σ) (hw : w = 13 ∨ (5 ≤ w ∧ w ≤ 8)) (hx : x = nI (rk w)) (hi : inR (σ.1 97 41) 64 = true) : rsX a (w :: W) O (s1 (s1 σ 122 (σ.1 97 41).toNatClampNeg x) 97 41 ((σ.1 97 41) + (1 : Int32))) := by
  obtain ⟨h1, h2, h3, h4, h5, h6, h7⟩ := h
  have hi' := inR_lo hi
  rw [h1, nI_toInt (by omega)] at hi'
  rw [h1, nI_clamp (by omega), nI_1]
  have hl : (w :: W).length = W.length + 1 := rfl
  refine ⟨by rw [s1_on, hl], ⟨?_, h2.fr (fun j hj => by rw [s1_off (by omega), s1_off (by omega)])⟩, by rw [s1_off (by omega), s1_off (by omega)]; exact h3, h4.fr (fun j _ _ => ⟨by rw [s1_off (by omega), s1_off (by omega)], by rw [s1_off (by omega), s1_off (by omega)]⟩), fun y hy => ?_, h6, by rw [hl]; omega⟩
  · rw [s1_off (by omega), s1_on]; exact hx
  · rcases List.mem_cons.mp hy with e | e
    · rw [e]; exact hw
    · exact h5 y e
def epR (TT : List Tk) (i a a0 : Nat) (D : DT) (R : PSr) (σ σ1 : Sg) : Prop := FRx a0 σ σ1 ∧ ∃ j, i < j ∧ pr TT j = .inr ((a, 0), D) ∧ PRo TT j (evs TT j) 0 σ1 ∧ ¬ (5 ≤ kdT TT j ∧ kdT TT j ≤ 8) ∧ (psT TT j).2.2 = R ∧ cgX σ1 a0 (finX (psT TT j)) ∧ σ1.1 97 37 = nI (a0 + (finX (psT TT j)).length) ∧ a0 + (finX (psT TT j)).length ≤ 840
theorem expr_re {TT : List Tk} (hW : WT TT) {iE : Nat} (hG : gtX TT iE) {n i a u c a0 : Nat} {s : GSt} {σ σ1 : Sg} {R : PSr} (hw : wantR TT i a u c 0 s) (hR : RQ TT σ) (hP : PRo TT i (evs TT i) 0 σ) (hN : wnR TT i s [] [] R) (h37 : σ.1 97 37 = nI a0) (ha0 : a0 ≤ 840) (h : RCx PRG n 199 [.ref 97] σ none σ1) : epR TT i a a0 s.2 R σ σ1 := by
  have hM := hw.1
  refine h.by (Q := fun _ σ' => epR TT i a a0 s.2 R σ σ') (fun m d => ?_)
  have main : ∀ (m2 : Nat), (∀ (σ2 : Sg) (j dp : Nat) (s' : GSt) (W : List Nat) (O : Cd), i ≤ j → FRr σ σ2 → FRx a0 σ σ2 → wantR TT j a u c dp s' → s'.2 = s.2 → PRo TT j (evs TT j) dp σ2 → wnR TT j s' W O R → rsX a0 W O σ2 → Pl PRG m2 d 199 23 [(0, .ref 97), (1, .int (nI 0))] [] σ2 (fun _ σ' => epR TT i a a0 s.2 R σ σ')) ∧ (∀ (σ2 : Sg) (j dp : Nat) (W : List Nat) (O : Cd), i < j → FRr σ σ2 → FRx a0 σ σ2 → dp ≤ 6 → pr TT j = .inr ((a, dp), s.2) → PRo TT j (evs TT j) dp σ2 → psT TT j = (W, O, R) → rsX a0 W O σ2 → Pl PRG m2 d 199 96 [(0, .ref 97), (1, .int (nI 0))] [] σ2 (fun _ σ' => epR TT i a a0 s.2 R σ σ')) := by
    intro m2
    induction m2 using Nat.strongRecOn with
    | _ m2 ih =>
      refine ⟨fun σ2 j dp s' W O hij g1 gx hw' hD g3 hn' hr => ?_, fun σ2 j dp W O hij g1 gx hdp hsj g3 hS hr => ?_⟩
      · refine Pl.pos (fun m3 hm3 => p_199_23 σ2 (nI 0) (fun w2 σ3 h3 _ => ?_))
        obtain ⟨rfl, hw2⟩ := rc189 (b := 13) hW h3 (hR.fr g1) g3 hw'.2.2.1 (by decide)
        refine ⟨fun z σ4 h4 => ?_, fun z => ?_⟩
        · rcases hw2 with ⟨-, n13⟩ | ⟨e, -⟩
          · obtain ⟨k1, k2⟩ := unit_r hW hw' (hR.fr g1) g3 n13 h4
            obtain ⟨x1, j', e, x2, x3, x4, x5, x6⟩ := unit_re hW hG hw' (hR.fr g1) g3 n13 hn' hr h4
            rw [hD] at x3
            exact ⟨fun _ => (ih m3 (by omega)).2 σ4 j' dp W (O ++ [e]) (by omega) (g1.trans k1) (gx.trans x1) hw'.2.1 x3 x4 x5 x6, fun c => absurd (by rw [x4.2.2.1]; decide) c⟩
          · rw [e] at z; exact absurd z (by decide)
        · rcases hw2 with ⟨e, -⟩ | ⟨-, e13⟩
          · exact absurd e z
          · have hs' := hw'.2.2.1
            have hdp' := hw'.2.1
            rw [g3.2.2.2.2]
            refine ⟨fun c6 σ4 h4 => ?_, fun c6 => ?_⟩
            · have e6 : dp = 6 := (nI_eq (b := 6) (by omega) (by decide)).mp c6
              have hg : gu a u c dp (kdT TT j) = .inl 2 := by
                unfold gu
                rw [if_pos e13, if_pos (by omega)]
              obtain ⟨k1, k2⟩ := rc190 (f := 2) hW h4 (hR.fr g1) g3 (stop_f hs' (by rw [hw'.2.2.2.1]; exact hg)) (by decide)
              exact (hG.no k2).elim
            · have n6 : ¬ dp = 6 := fun e => c6 (by rw [e]; rfl)
              have hg : gu a u c dp (kdT TT j) = .inr (u, dp + 1) := by
                unfold gu
                rw [if_pos e13, if_neg (by omega)]
              refine Pl.pos (fun m4 hm4 => p_199_46 σ3 (nI 0) (fun σ4 h4 hi => ?_))
              have g4 : PRo TT j (evs TT j) (dp + 1) (s1 σ3 97 12 ((σ3.1 97 12) + (1 : Int32))) := by
                obtain ⟨q1, q2, q3, q4, q5⟩ := g3
                exact ⟨by rw [s1_off (by omega)]; exact q1, q2, by rw [s1_off (by omega)]; exact q3, q4.of (by rw [s1_off (by omega)]) (by rw [s1_off (by omega)]), by rw [s1_on, q5, nI_1]⟩
              have F := g1.put (j := 12) (x := (σ3.1 97 12) + (1 : Int32)) (by unfold mfR; omega)
              have T4 := ((FRt.refl σ3).put (j := 12) (x := (σ3.1 97 12) + (1 : Int32)) (by decide)).trans (te192 h4)
              obtain ⟨k1, k2⟩ := rc192 hW h4 (hR.fr F) g4 hs' (by rw [hw'.2.2.2.1]; exact hg)
              rcases k2 with ⟨c1, c2⟩ | g
              · have hs2 := pr_next (q := (u, dp + 1)) hs' (by rw [hw'.2.2.2.1]; exact hg) c1
                rw [upd_id hw'.2.2.2.2.1 (by omega) (fun e => hw'.2.2.2.2.2.1 e.1)] at hs2
                have ev2 : evs TT (j + 1) = evs TT j := by rw [evs_step hs', evO_0 hw'.2.2.2.2.2.2, orE_none]
                rw [← ev2] at c2
                refine (ih m4 (by omega)).1 _ (j + 1) (dp + 1) ((u, dp + 1), s'.2) (13 :: W) O (by omega) (((F.trans k1).arr (by omega)).put (by unfold mfR; omega)) (((gx.trans T4.x).p122).put (by omega)) ⟨hM, by omega, hs2, hM.gsu _ _ _, hM.ne.2.1, hM.ne.2.2.2.1, hM.evu⟩ hD (c2.same (((sameR.refl σ4).put (by omega)).put (by omega))) ⟨fun v S => hM.psu _ v S, ?_⟩ ((hr.t T4).push (Or.inl rfl) (by decide) hi)
                rw [ps_next hs', hn'.1, hn'.2]
                unfold uniX
                rw [if_pos e13]
              · exact (hG.no g).elim
      · have hkd := (kd_le hW hsj).1
        have hRj := hR.fr g1
        have hatj := RQ_at hW hRj hsj g3.2.1
        have haf := hM.af hW hG hsj
        rw [hS] at haf
        -- behind a unit
        have at145 : ∀ (m3 : Nat), m3 < m2 → (kdT TT j = 14 → dp = 0) → Pl PRG m3 d 199 145 [(0, .ref 97), (1, .int (nI 0))] [] σ2 (fun _ σ' => epR TT i a a0 s.2 R σ σ') := by
          intro m3 hm3 h14
          have at181 : ∀ (m4 : Nat), m4 < m2 → (5 ≤ kdT TT j ∧ kdT TT j ≤ 8) → Pl PRG m4 d 199 181 [(0, .ref 97), (1, .int (nI 0))] [] σ2 (fun _ σ' => epR TT i a a0 s.2 R σ σ') := by
            intro m4 hm4 hop
            refine Pl.pos (fun m5 hm5 => p_199_181 σ2 (nI 0) ?_)
            have fin : ∀ (b : Bool) (σ6 : Sg), b = decide (7 ≤ kdT TT j) → RCx PRG m5 198 [.ref 97, .int (b2i b)] σ2 none σ6 → (inR (σ6.1 97 11) 403 = true → (inR (σ6.1 97 41) 64 = true → (∀ σ8, RCx PRG m5 192 [.ref 97] (s1 (s1 σ6 122 (σ6.1 97 41).toNatClampNeg (σ6.1 100 (σ6.1 97 11).toNatClampNeg)) 97 41 ((σ6.1 97 41) + (1 : Int32))) none σ8 → Pl PRG m5 d 199 12 [(0, .ref 97), (1, .int (nI 0)), (2, .int (1 : Int32))] [] σ8 (fun _ σ' => epR TT i a a0 s.2 R σ σ')))) := by
              intro b σ6 hb h6 _ hi σ8 h8
              obtain ⟨t1, t2⟩ := rc198 h6
              obtain ⟨y1, y2, y3⟩ := re198 h6 hr
              have F : FRr σ (s1 (s1 σ6 122 (σ6.1 97 41).toNatClampNeg (σ6.1 100 (σ6.1 97 11).toNatClampNeg)) 97 41 ((σ6.1 97 41) + (1 : Int32))) := ((g1.trans t1).arr (by omega)).put (by unfold mfR; omega)
              have S : sameR σ2 (s1 (s1 σ6 122 (σ6.1 97 41).toNatClampNeg (σ6.1 100 (σ6.1 97 11).toNatClampNeg)) 97 41 ((σ6.1 97 41) + (1 : Int32))) := (t2.put (by omega)).put (by omega)
              have e11 : σ6.1 97 11 = nI j := (y3 11 (by decide) (by decide)).trans g3.1
              have ek : σ6.1 100 (σ6.1 97 11).toNatClampNeg = nI (rk (kdT TT j)) := by
                rw [e11, nI_clamp (by have := g3.2.1; omega), y2.2.1 100 j (by omega) (by omega)]
                exact hatj.1
              obtain ⟨r, hr'⟩ := hM.gsa (kdT TT j)
              have hga : ∀ len, gs a dp len (kdT TT j) = .inr (u, dp) := fun len => by
                rw [hr']; unfold ga; rw [if_pos hop]
              obtain ⟨k1, k2⟩ := rc192 hW h8 (hR.fr F) (g3.same S) hsj (hga _)
              rcases k2 with ⟨c1, c2⟩ | g
              · have hs2 := pr_next (q := (u, dp)) hsj (hga _) c1
                rw [show updD ((a, dp), s.2).1.1 (kdT TT j) j ((a, dp), s.2).2 = s.2 from upd_id hM.ne.1 (by omega) (fun e => by omega)] at hs2
                have ev2 : evs TT (j + 1) = evs TT j := by rw [evs_step hsj, evO_0 hM.eva, orE_none]
                rw [← ev2] at c2
                have hS2 : psT TT (j + 1) = (kdT TT j :: (coX b W O).1, (coX b W O).2, R) := by
                  rw [ps_next hsj, hS]
                  show psS a _ _ _ = _
                  rw [hM.psa _ _ (Or.inl hop), hb]
                  unfold aftX
                  rw [if_pos hop]
                have hr8 := ((y1.push (Or.inr hop) ek hi)).t (te192 h8)
                have gx8 : FRx a0 σ σ8 := (((gx.trans y2).p122).put (by omega)).trans (te192 h8).x
                refine Pl.pos (fun m6 hm6 => p_199_12 σ8 (nI 0) 1 ⟨fun c => absurd c (by decide), fun _ => ⟨fun _ => (ih m6 (by omega)).1 σ8 (j + 1) dp ((u, dp), s.2) _ _ (by omega) (F.trans k1) gx8 ⟨hM, hdp, hs2, hM.gsu _ _ _, hM.ne.2.1, hM.ne.2.2.2.1, hM.evu⟩ rfl c2 ⟨fun v S => hM.psu _ v S, hS2⟩ hr8, fun c => absurd c2.2.2.1 c⟩⟩)
              · exact (hG.no g).elim
            intro w2 σ3 h3 _
            obtain ⟨rfl, e2⟩ := rc189 (b := 7) hW h3 hRj g3 hsj (by decide)
            refine ⟨fun z w6 σ5 h5 _ => ?_, fun z σ6 h6 => fin true σ6 ?_ h6⟩
            · obtain ⟨rfl, e6⟩ := rc189 (b := 8) hW h5 hRj g3 hsj (by decide)
              refine ⟨fun z6 σ6 h6 => fin false σ6 ?_ h6, fun z6 σ6 h6 => fin true σ6 ?_ h6⟩
              · have q7 : ¬ kdT TT j = 7 := by rcases e2 with ⟨-, e⟩ | ⟨e, -⟩; exact e; rw [e] at z; exact absurd z (by decide)
                have q8 : ¬ kdT TT j = 8 := by rcases e6 with ⟨-, e⟩ | ⟨e, -⟩; exact e; rw [e] at z6; exact absurd z6 (by decide)
                rw [decide_eq_false (by omega)]
              · have q8 : kdT TT j = 8 := by rcases e6 with ⟨e, -⟩ | ⟨-, e⟩; exact absurd e z6; exact e
                rw [decide_eq_true (by omega)]
            · have q7 : kdT TT j = 7 := by rcases e2 with ⟨e, -⟩ | ⟨-, e⟩; exact absurd e z; exact e
              rw [decide_eq_true (by omega)]
          refine Pl.pos (fun m4 hm4 => p_199_145 σ2 (nI 0) (fun w2 σ3 h3 _ => ?_))
          obtain ⟨rfl, e2⟩ := rc189 (b := 5) hW h3 hRj g3 hsj (by decide)
          refine ⟨fun z2 w4 σ4 h4 _ => ?_, fun z2 => at181 m4 (by omega) (by rcases e2 with ⟨e, -⟩ | ⟨-, e⟩; exact absurd e z2; omega)⟩
          obtain ⟨rfl, e4⟩ := rc189 (b := 6) hW h4 hRj g3 hsj (by decide)
          refine ⟨fun z4 w6 σ5 h5 _ => ?_, fun z4 => at181 m4 (by omega) (by rcases e4 with ⟨e, -⟩ | ⟨-, e⟩; exact absurd e z4; omega)⟩
          obtain ⟨rfl, e6⟩ := rc189 (b := 7) hW h5 hRj g3 hsj (by decide)
          refine ⟨fun z6 w8 σ6 h6 _ => ?_, fun z6 => at181 m4 (by omega) (by rcases e6 with ⟨e, -⟩ | ⟨-, e⟩; exact absurd e z6; omega)⟩
          obtain ⟨rfl, e8⟩ := rc189 (b := 8) hW h6 hRj g3 hsj (by decide)
          refine ⟨fun z8 => ?_, fun z8 => at181 m4 (by omega) (by rcases e8 with ⟨e, -⟩ | ⟨-, e⟩; exact absurd e z8; omega)⟩
          have nop : ¬ (5 ≤ kdT TT j ∧ kdT TT j ≤ 8) := by
            have q2 : ¬ kdT TT j = 5 := by rcases e2 with ⟨-, e⟩ | ⟨e, -⟩; exact e; rw [e] at z2; exact absurd z2 (by decide)
            have q4 : ¬ kdT TT j = 6 := by rcases e4 with ⟨-, e⟩ | ⟨e, -⟩; exact e; rw [e] at z4; exact absurd z4 (by decide)
            have q6 : ¬ kdT TT j = 7 := by rcases e6 with ⟨-, e⟩ | ⟨e, -⟩; exact e; rw [e] at z6; exact absurd z6 (by decide)
            have q8 : ¬ kdT TT j = 8 := by rcases e8 with ⟨-, e⟩ | ⟨e, -⟩; exact e; rw [e] at z8; exact absurd z8 (by decide)
            omega
          rw [g3.2.2.2.2]
          refine ⟨fun c0 => ?_, fun c0 σ9 h9 => ?_⟩
          · have d0 : dp = 0 := by
              have := (nI_leI (a := dp) (b := 0) (by omega) (by decide)).mp c0
              omega
            subst d0
            refine Pl.pos (fun m5 _ => p_199_204 _ (fun σ7 h7 => ?_))
            obtain ⟨t1, t2⟩ := rc198 h7
            obtain ⟨y1, y2, y3⟩ := re198 (b := false) h7 hr
            obtain ⟨q1, q2, q3, q4, q5, q6, q7⟩ := y1
            have ef : finX (psT TT j) = (coX false W O).2 := by
              unfold finX
              rw [hS]
            refine ⟨gx.trans y2, j, hij, hsj, g3.same t2, nop, by rw [hS], by rw [ef]; exact q4, by rw [ef]; exact q3, by rw [ef]; exact q6⟩
          · have dpos : ¬ dp = 0 := fun e => c0 (by rw [e]; decide)
            obtain ⟨r, hr'⟩ := hM.gsa (kdT TT j)
            have hga : ∀ len, gs a dp len (kdT TT j) = .inl 1 := fun len => by
              rw [hr']; unfold ga
              rw [if_neg nop, if_neg (fun e => dpos (h14 e.1)), if_neg dpos]
            obtain ⟨k1, k2⟩ := rc190 (f := 1) hW h9 hRj g3 (stop_f hsj (hga _)) (by decide)
            exact (hG.no k2).elim
        refine Pl.pos (fun m3 hm3 => p_199_96 σ2 (nI 0) (fun w2 σ3 h3 _ => ?_))
        obtain ⟨rfl, hw2⟩ := rc189 (b := 14) hW h3 hRj g3 hsj (by decide)
        refine ⟨fun z => at145 m3 (by omega) (fun e => ?_), fun z => ?_⟩
        · rcases hw2 with ⟨-, hn⟩ | ⟨e', -⟩
          · exact absurd e hn
          · rw [e'] at z; exact absurd z (by decide)
        · rcases hw2 with ⟨e, -⟩ | ⟨-, e14⟩
          · exact absurd e z
          · rw [g3.2.2.2.2]
            refine ⟨fun c0 => at145 m3 (by omega) (fun _ => ?_), fun c0 σ4 h4 σ5 h5 => ?_⟩
            · have := (nI_leI (a := dp) (b := 0) (by omega) (by decide)).mp c0
              omega
            · have dpos : 0 < dp := nle_of (by omega) (by decide) c0
              obtain ⟨t1, t2⟩ := rc198 h4
              obtain ⟨y1, y2, y3⟩ := re198 (b := false) h4 hr
              obtain ⟨dp', rfl⟩ : ∃ dp', dp = dp' + 1 := ⟨dp - 1, by omega⟩
              have e12 : (σ4.1 97 12) - (1 : Int32) = nI dp' := by
                rw [t2 12 (by decide) (by decide), g3.2.2.2.2, nI_pred]
              have g4 : PRo TT j (evs TT j) dp' (s1 (s1 σ4 97 41 ((σ4.1 97 41) - (1 : Int32))) 97 12 ((σ4.1 97 12) - (1 : Int32))) := by
                obtain ⟨q1, q2, q3, q4, q5⟩ := g3.same t2
                exact ⟨by rw [s1_off (by omega), s1_off (by omega)]; exact q1, q2, by rw [s1_off (by omega), s1_off (by omega)]; exact q3, q4.of (by rw [s1_off (by omega), s1_off (by omega)]) (by rw [s1_off (by omega), s1_off (by omega)]), by rw [s1_on]; exact e12⟩
              have F : FRr σ (s1 (s1 σ4 97 41 ((σ4.1 97 41) - (1 : Int32))) 97 12 ((σ4.1 97 12) - (1 : Int32))) := ((g1.trans t1).put (by unfold mfR; omega)).put (by unfold mfR; omega)
              -- an opening bracket is on top
              obtain ⟨B, hb, hco, -, -⟩ := out_ok haf
              obtain ⟨sX, wX', B', x1, x2, x3, x4⟩ := hb
              have hco' : coX false W O = (13 :: (sX ++ (wX' ++ B')), finX (W, O, R)) := by rw [← x3]; exact hco
              rw [hco'] at y1
              obtain ⟨q1, q2, q3, q4, q5, q6, q7⟩ := y1
              have hl : (13 :: (sX ++ (wX' ++ B'))).length = (sX ++ (wX' ++ B')).length + 1 := rfl
              have hr5 : rsX a0 (sX ++ (wX' ++ B')) (finX (W, O, R)) (s1 (s1 σ4 97 41 ((σ4.1 97 41) - (1 : Int32))) 97 12 ((σ4.1 97 12) - (1 : Int32))) := by
                refine ⟨?_, q2.2.fr (fun j _ => by rw [s1_off (by omega), s1_off (by omega)]), by rw [s1_off (by omega), s1_off (by omega)]; exact q3, q4.fr (fun j _ _ => ⟨by rw [s1_off (by omega), s1_off (by omega)], by rw [s1_off (by omega), s1_off (by omega)]⟩), fun y hy => q5 y (List.mem_cons_of_mem _ hy), q6, by rw [hl] at q7; omega⟩
                rw [s1_off (by omega), s1_on, q1, hl]
                exact tp_s _
              obtain ⟨r, hr'⟩ := hM.gsa (kdT TT j)
              have hga : ∀ len, gs a (dp' + 1) len (kdT TT j) = .inr (a, dp') := fun len => by
                rw [hr']; unfold ga
                rw [if_neg (by omega), if_pos ⟨e14, by omega⟩]
                rfl
              obtain ⟨k1, k2⟩ := rc192 hW h5 (hR.fr F) g4 hsj (hga _)
              rcases k2 with ⟨c1, c2⟩ | g
              · have hs2 := pr_next (q := (a, dp')) hsj (hga _) c1
                rw [show updD ((a, dp' + 1), s.2).1.1 (kdT TT j) j ((a, dp' + 1), s.2).2 = s.2 from upd_id hM.ne.1 (by omega) (fun e => by omega)] at hs2
                have ev2 : evs TT (j + 1) = evs TT j := by rw [evs_step hsj, evO_0 hM.eva, orE_none]
                rw [← ev2] at c2
                refine (ih m3 (by omega)).2 σ5 (j + 1) dp' (sX ++ (wX' ++ B')) (finX (W, O, R)) (by omega) (F.trans k1) ((((gx.trans y2).put (by omega)).put (by omega)).trans (te192 h5).x) (by omega) hs2 c2 ?_ (hr5.t (te192 h5))
                rw [ps_next hsj, hS, e14]
                show psS a 14 _ _ = _
                rw [hM.psa _ _ (Or.inr rfl)]
                unfold aftX
                rw [if_neg (by decide), if_pos rfl]
                show ((coX false W O).1.tail, (coX false W O).2, R) = _
                rw [hco']
                rfl
              · exact (hG.no g).elim
  refine p_199_0 σ (Pl.pos (fun m2 _ => p_199_12 _ _ _ ?_))
  have F := (FRr.refl σ).put (j := 41) (x := (0 : Int32)) (by unfold mfR; omega)
  have S := (sameR.refl σ).put (q := 97) (j := 41) (x := (0 : Int32)) (by omega)
  refine ⟨fun c => absurd c (by decide), fun _ => ⟨fun _ => ?_, fun c => absurd (by rw [s1_off (by omega)]; exact hP.2.2.1) c⟩⟩
  rw [hP.2.2.2.2]
  exact (main m2).1 _ i 0 s [] [] (Nat.le_refl i) F ((FRx.refl a0 σ).put (by omega)) hw rfl (hP.same S) hN ⟨s1_on, trivial, by rw [s1_off (by omega)]; exact h37, trivial, fun x hx => (by cases hx), ha0, (by decide)⟩
/-! literals -/
def ltB (c0 c : Nat) (σ : Sg) (i : Nat) (l : Lt) : Prop := ∃ a, c0 ≤ a ∧ a + l.2.2.2.1.length + l.2.2.2.2.length ≤ c ∧ σ.1 117 i = nI a ∧ σ.1 118 i = nI (a + l.2.2.2.1.length) ∧ σ.1 119 i = nI (a + l.2.2.2.1.length + l.2.2.2.2.length) ∧ cgX σ a l.2.2.2.1 ∧ cgX σ (a + l.2.2.2.1.length) l.2.2.2.2 ∧ σ.1 114 i = nI (l.2.2.1 - 9) ∧ σ.1 115 i = b2i l.2.1 ∧ σ.1 116 i = b2i l.1
theorem ltB.R {c0 c i : Nat} {σ : Sg} {l : Lt} (h : ltB c0 c σ i l) (hc : c ≤ 840) : ltR σ i l := by
  obtain ⟨a, h0, h1, h2⟩ := h
  exact ⟨a, by omega, h2⟩
theorem ltB.fr {c0 c c' i : Nat} {σ σ1 : Sg} {l : Lt} (h : ltB c0 c σ i l) (hc : c ≤ c') (h1 : ∀ x, c0 ≤ x → x < c → σ1.1 120 x = σ.1 120 x ∧ σ1.1 121 x = σ.1 121 x) (h2 : ∀ q, 114 ≤ q → q ≤ 119 → σ1.1 q i = σ.1 q i) : ltB c0 c' σ1 i l := by
  obtain ⟨a, k0, k1, k2, k3, k4, k5, k6, k7, k8, k9⟩ := h
  exact ⟨a, k0, by omega, (h2 117 (by decide) (by decide)).trans k2, (h2 118 (by decide) (by decide)).trans k3, (h2 119 (by decide) (by decide)).trans k4, k5.fr (fun j _ _ => h1 j (by omega) (by omega)), k6.fr (fun j _ _ => h1 j (by omega) (by omega)), (h2 114 (by decide) (by decide)).trans k7, (h2 115 (by decide) (by decide)).trans k8, (h2 116 (by decide) (by decide)).trans k9⟩
def lsB (c0 c : Nat) (σ : Sg) : Nat → List Lt → Prop
  | _, [] => True
  | i, l :: ls => ltB c0 c σ i l ∧ lsB c0 c σ (i + 1) ls
theorem lsB.fr {c0 c c' : Nat} {σ σ1 : Sg} (hc : c ≤ c') (h1 : ∀ x, c0 ≤ x → x < c → σ1.1 120 x = σ.1 120 x ∧ σ1.1 121 x = σ.1 121 x) : ∀ {ls : List Lt} {i : Nat}, lsB c0 c σ i ls → (∀ q x, 114 ≤ q → q ≤ 119 → i ≤ x → x < i + ls.length → σ1.1 q x = σ.1 q x) → lsB c0 c' σ1 i ls := by
  intro ls
  induction ls with
  | nil => intro i _ _; trivial
  | cons l ls ih =>
    intro i h h2
    have hl : (l :: ls).length = ls.length + 1 := rfl
    exact ⟨h.1.fr hc h1 (fun q a b => h2 q i a b (Nat.le_refl i) (by omega)), ih h.2 (fun q x a b hi hx => h2 q x a b (by omega) (by omega))⟩
theorem lsB.app {c0 c : Nat} {σ : Sg} {l : Lt} : ∀ {ls : List Lt} {i : Nat}, lsB c0 c σ i ls → ltB c0 c σ (i + ls.length) l → lsB c0 c σ i (ls ++ [l]) := by
  intro ls
  induction ls with
  | nil => intro i _ h; exact ⟨h, trivial⟩
  | cons x ls ih =>
    intro i h h'
    have hl : (x :: ls).length = ls.length + 1 := rfl
    rw [hl, show i + (ls.length + 1) = i + 1 + ls.length by omega] at h'
    exact ⟨h.1, ih h.2 h'⟩
theorem lsB.R {c0 c : Nat} {σ : Sg} (hc : c ≤ 840) : ∀ {ls : List Lt} {i : Nat}, lsB c0 c σ i ls → lsR σ i ls := by
  intro ls
  induction ls with
  | nil => intro i _; trivial
  | cons x ls ih => intro i h; exact ⟨h.1.R hc, ih h.2⟩
/-- what a literal, a condition may change -/
def FRl (c l : Nat) (σ σ1 : Sg) : Prop := σ1.2 = σ.2 ∧ (∀ q x, ¬ (q = 97 ∧ ((11 ≤ x ∧ x ≤ 16) ∨ x = 30 ∨ x = 37 ∨ x = 41)) → ¬ (114 ≤ q ∧ q ≤ 122) → σ1.1 q x = σ.1 q x) ∧ (∀ x, x < c → σ1.1 120 x = σ.1 120 x ∧ σ1.1 121 x = σ.1 121 x) ∧ ∀ q x, 114 ≤ q → q ≤ 119 → x < l → σ1.1 q x = σ.1 q x
theorem FRl.refl (c l : Nat) (σ : Sg) : FRl c l σ σ := ⟨rfl, fun _ _ _ _ => rfl, fun _ _ => ⟨rfl, rfl⟩, fun _ _ _ _ _ => rfl⟩
theorem FRl.trans {c l : Nat} {σ σ1 σ2 : Sg} (h : FRl c l σ σ1) (h' : FRl c l σ1 σ2) : FRl c l σ σ2 := ⟨h'.1.trans h.1, fun q x a b => (h'.2.1 q x a b).trans (h.2.1 q x a b), fun x hx => ⟨(h'.2.2.1 x hx).1.trans (h.2.2.1 x hx).1, (h'.2.2.1 x hx).2.trans (h.2.2.1 x hx).2⟩, fun q x a b hx => (h'.2.2.2 q x a b hx).trans (h.2.2.2 q x a b hx)⟩
theorem FRl.less {c l c' l' : Nat} {σ σ1 : Sg} (h : FRl c' l' σ σ1) (hc : c ≤ c') (hl : l ≤ l') : FRl c l σ σ1 := ⟨h.1, h.2.1, fun x hx => h.2.2.1 x (by omega), fun q x a b hx => h.2.2.2 q x a b (by omega)⟩
theorem FRx.l {c l : Nat} {σ σ1 : Sg} (h : FRx c σ σ1) : FRl c l σ σ1 := ⟨h.1, fun q x a b => h.2.1 q x (fun e => a ⟨e.1, by omega⟩) (by omega), h.2.2, fun q x a b _ => h.2.1 q x (by omega) (by omega)⟩
theorem FRt.l {c l : Nat} {σ σ1 : Sg} (h : FRt σ σ1) : FRl c l σ σ1 := (h.x (a := c)).l
def liB (TT : List Tk) (i b c0 c l : Nat) (D : DT) (o : Bool) (R3 : List Lt × List Lt × List (List Lt × List Lt)) (σ σ1 : Sg) : Prop := FRr σ σ1 ∧ FRl c l σ σ1 ∧ ∃ j lt c', i < j ∧ pr TT j = .inr ((b + 5, 0), D) ∧ PRo TT j (evs TT j) 0 σ1 ∧ ¬ (5 ≤ kdT TT j ∧ kdT TT j ≤ 8) ∧ lt.1 = o ∧ litX (psT TT j) = R3.1 ++ [lt] ∧ (psT TT j).2.2.2 = R3 ∧ c ≤ c' ∧ c' ≤ 840 ∧ σ1.1 97 37 = nI c' ∧ σ1.1 97 30 = nI (l + 1) ∧ l < 300 ∧ ltB c0 c' σ1 l lt
theorem b2i_nar (b : Bool) : vp_nar .boolean (b2i b) = b2i b := by cases b <;> decide
theorem lit_re {TT : List Tk} (hW : WT TT) {iE : Nat} (hG : gtX TT iE) {n i b c0 c l : Nat} {D : DT} {o : Bool} {R3 : List Lt × List Lt × List (List Lt × List Lt)} {σ σ1 : Sg} (hb : BO b) (hR : RQ TT σ) (hP : PRo TT i (evs TT i) 0 σ) (hs : pr TT i = .inr ((b, 0), D)) (hS : psT TT i = ([], [], c0X o, R3)) (h37 : σ.1 97 37 = nI c) (hc0 : c0 ≤ c) (hc : c ≤ 840) (h30 : σ.1 97 30 = nI l) (hl : l < 1000) (h : RCx PRG n 200 [.ref 97, .int (b2i o)] σ none σ1) : liB TT i b c0 c l D o R3 σ σ1 := by
  refine h.by (Q := fun _ σ' => liB TT i b c0 c l D o R3 σ σ') (fun m d => ?_)
  have loop : ∀ (m2 : Nat) (j : Nat) (nt : Bool) (σ2 : Sg), i ≤ j → FRr σ σ2 → FRt σ σ2 → PRo TT j (evs TT j) 0 σ2 → pr TT j = .inr ((b, 0), D) → psT TT j = ([], [], (o, nt, 0, []), R3) → Pl PRG m2 d 200 2 [(0, .ref 97), (1, .int (b2i o)), (2, .int (b2i nt))] [] σ2 (fun _ σ' => liB TT i b c0 c l D o R3 σ σ') := by
    intro m2
    induction m2 using Nat.strongRecOn with
    | _ m2 ih =>
      intro j nt σ2 hij g1 gt g3 hsj jS
      refine Pl.pos (fun m3 hm3 => p_200_2 σ2 (b2i o) (b2i nt) (fun w2 σ3 h3 _ => ?_))
      obtain ⟨rfl, hw2⟩ := rc189 (b := 25) hW h3 (hR.fr g1) g3 hsj (by decide)
      have e37 : σ3.1 97 37 = nI c := (gt.2 97 37 (by omega)).trans h37
      refine ⟨fun z σ4 h4 => ?_, fun z => ?_⟩
      · rcases hw2 with ⟨-, n25⟩ | ⟨e, -⟩
        · have hw1 : wantR TT j (b + 2) (b + 1) (b + 3) 0 ((b, 0), D) := ⟨hb.l, by omega, hsj, by show gs b 0 _ _ = _; rw [hb.gs0, if_neg n25], hb.ne.1, hb.ne.2, hb.ev⟩
          obtain ⟨k1, -⟩ := expr_r hW hw1 (hR.fr g1) g3 h4
          obtain ⟨x1, j', t1, t2, t3, t4, t5, t6, t7, t8⟩ := expr_re hW hG (R := ((o, nt, 0, []), R3)) hw1 (hR.fr g1) g3 ⟨fun v S => by show psS b _ _ _ = _; rw [hb.ps0, if_neg n25], jS⟩ e37 hc h4
          have F := g1.trans k1
          have hkd := (kd_le hW t2).1
          have hat := RQ_at hW (hR.fr F) t2 t3.2.1
          refine ⟨fun _ _ => ?_, fun c => absurd (by rw [t3.2.2.1]; decide) c⟩
          rw [t3.1, nI_clamp (by have := t3.2.1; omega), hat.1, e37]
          have hga : ∀ len, gs (b + 2) 0 len (kdT TT j') = if 9 ≤ kdT TT j' ∧ kdT TT j' ≤ 12 then .inr (b + 4, 0) else .inl 1 := fun len => by
            rw [hb.gs2]
            unfold ga
            rw [if_neg t4, if_neg (fun e => absurd e.2 (by decide)), if_pos rfl]
          have hrk : ∀ k, k < 37 → ((9 ≤ k ∧ k ≤ 12 ∧ nI (rk k) - (11 : Int32) = nI (k - 9) ∧ ¬ nI (rk k) - (11 : Int32) < 0 ∧ nI (rk k) - (11 : Int32) ≤ (3 : Int32)) ∨ (¬ (9 ≤ k ∧ k ≤ 12) ∧ ¬ (¬ nI (rk k) - (11 : Int32) < 0 ∧ nI (rk k) - (11 : Int32) ≤ (3 : Int32)))) := by decide +kernel
          have hk := hrk (kdT TT j') (by omega)
          have hy : 9 ≤ kdT TT j' ∧ kdT TT j' ≤ 12 := by
            by_cases hq : 9 ≤ kdT TT j' ∧ kdT TT j' ≤ 12
            · exact hq
            · have : stopAt TT j' 1 := stop_f t2 (by show gs (b + 2) 0 _ _ = _; rw [hga, if_neg hq])
              exact absurd (stop_one this hG.1).2 (by decide)
          have yes : ∀ x4, x4 = nI (kdT TT j' - 9) → Pl PRG m3 d 200 85 [(0, .ref 97), (1, .int (b2i o)), (2, .int (b2i nt)), (3, .int (nI c)), (4, .int x4)] [] σ4 (fun _ σ' => liB TT i b c0 c l D o R3 σ σ') := fun x4 hx4 => Pl.pos (fun m4 _ => p_200_85 σ4 (b2i o) (b2i nt) (nI c) x4 (fun σ5 h5 σ6 h6 => by
            obtain ⟨l1, l2⟩ := rc192 hW h5 (hR.fr F) t3 t2 (by show gs (b + 2) 0 _ _ = _; rw [hga, if_pos hy])
            rcases l2 with ⟨c1, c2⟩ | g
            · have hs2 := pr_next (q := (b + 4, 0)) t2 (by show gs (b + 2) 0 _ _ = _; rw [hga, if_pos hy]) c1
              rw [show updD ((b + 2, 0), D).1.1 (kdT TT j') j' ((b + 2, 0), D).2 = D from upd_id hb.l.ne.1 (by omega) (fun e => by omega)] at hs2
              have ev2 : evs TT (j' + 1) = evs TT j' := by rw [evs_step t2, evO_0 hb.l.eva, orE_none]
              rw [← ev2] at c2
              have hw3 : wantR TT (j' + 1) (b + 5) (b + 4) (b + 6) 0 ((b + 4, 0), D) := ⟨hb.r, by omega, hs2, hb.r.gsu _ _ _, hb.r.ne.2.1, hb.r.ne.2.2.2.1, hb.r.evu⟩
              have S2 : psT TT (j' + 1) = ([], [], (o, nt, kdT TT j', finX (psT TT j')), R3) := by
                rw [ps_next t2]
                show psS (b + 2) _ _ _ = _
                rw [hb.ps2 _ _ _ hy, t5]
              have q37 : σ5.1 97 37 = nI (c + (finX (psT TT j')).length) := ((te192 h5).2 97 37 (by omega)).trans t7
              obtain ⟨y1, -⟩ := expr_r hW hw3 (hR.fr (F.trans l1)) c2 h6
              obtain ⟨z1, j2, u1, u2, u3, u4, u5, u6, u7, u8⟩ := expr_re hW hG (R := ((o, nt, kdT TT j', finX (psT TT j')), R3)) hw3 (hR.fr (F.trans l1)) c2 ⟨fun v S => hb.r.psu _ v S, S2⟩ q37 t8 h6
              have F2 := (F.trans l1).trans y1
              have X5 : FRx c σ σ5 := (gt.x.trans x1).trans (te192 h5).x
              have X6 : FRx c σ σ6 := X5.trans (z1.less (Nat.le_add_right _ _))
              have q30 : σ6.1 97 30 = nI l := (X6.2.1 97 30 (by omega) (by omega)).trans h30
              refine ⟨fun _ hi _ _ _ _ _ => ?_, fun c => absurd (by rw [u3.2.2.1]; decide) c⟩
              have hi' := inR_lo hi
              rw [q30, nI_toInt (by omega)] at hi'
              rw [q30, nI_clamp (by omega), q37, u7, nI_1, hx4, b2i_nar, b2i_nar]
              refine ⟨((((((F2.arr (by omega)).arr (by omega)).arr (by omega)).arr (by omega)).arr (by omega)).arr (by omega)).put (by unfold mfR; omega), ?_, j2, (o, nt, kdT TT j', finX (psT TT j'), finX (psT TT j2)), c + (finX (psT TT j')).length + (finX (psT TT j2)).length, by omega, u2, u3.same ?_, u4, rfl, ?_, ?_, by omega, u8, ?_, s1_on, by omega, c, hc0, Nat.le_refl _, ?_, ?_, ?_, ?_, ?_, ?_, ?_, ?_⟩
              · refine ⟨X6.1, fun q x a b => ?_, fun x hx => ⟨?_, ?_⟩, fun q x a b hx => ?_⟩
                · rw [s1_off (fun e => a ⟨e.1, by omega⟩), s1_off (by omega), s1_off (by omega), s1_off (by omega), s1_off (by omega), s1_off (by omega), s1_off (by omega)]
                  exact X6.2.1 q x (fun e => a ⟨e.1, by omega⟩) (by omega)
                · rw [s1_off (by omega), s1_off (by omega), s1_off (by omega), s1_off (by omega), s1_off (by omega), s1_off (by omega), s1_off (by omega)]
                  exact (X6.2.2 x hx).1
                · rw [s1_off (by omega), s1_off (by omega), s1_off (by omega), s1_off (by omega), s1_off (by omega), s1_off (by omega), s1_off (by omega)]
                  exact (X6.2.2 x hx).2
                · rw [s1_off (by omega), s1_off (by omega), s1_off (by omega), s1_off (by omega), s1_off (by omega), s1_off (by omega), s1_off (by omega)]
                  exact X6.2.1 q x (by omega) (by omega)
              · exact (((((((sameR.refl _).put (by omega)).put (by omega)).put (by omega)).put (by omega)).put (by omega)).put (by omega)).put (by omega)
              · unfold litX
                have e3 : (psT TT j2).2.2 = ((o, nt, kdT TT j', finX (psT TT j')), R3) := u5
                rw [e3]
              · rw [show (psT TT j2).2.2.2 = (((o, nt, kdT TT j', finX (psT TT j')), R3) : PSr).2 by rw [u5]]
              · rw [s1_off (by omega), s1_off (by omega), s1_off (by omega), s1_off (by omega), s1_off (by omega), s1_off (by omega), s1_off (by omega)]
                exact u7
              · rw [s1_off (by omega), s1_off (by omega), s1_off (by omega), s1_on]
              · rw [s1_off (by omega), s1_off (by omega), s1_on]
              · rw [s1_off (by omega), s1_on]
              · refine (t6.fr (σ' := σ6) (fun j _ j2' => ?_)).fr (fun j _ _ => ⟨?_, ?_⟩)
                · obtain ⟨k5, k6⟩ := z1.2.2 j (by have : (finX (psT TT j')).length = (finX (psT TT j')).length := rfl; omega)
                  exact ⟨k5.trans ((te192 h5).2 120 j (by omega)), k6.trans ((te192 h5).2 121 j (by omega))⟩
                · rw [s1_off (by omega), s1_off (by omega), s1_off (by omega), s1_off (by omega), s1_off (by omega), s1_off (by omega), s1_off (by omega)]
                · rw [s1_off (by omega), s1_off (by omega), s1_off (by omega), s1_off (by omega), s1_off (by omega), s1_off (by omega), s1_off (by omega)]
              · refine u6.fr (fun j _ _ => ⟨?_, ?_⟩)
                · rw [s1_off (by omega), s1_off (by omega), s1_off (by omega), s1_off (by omega), s1_off (by omega), s1_off (by omega), s1_off (by omega)]
                · rw [s1_off (by omega), s1_off (by omega), s1_off (by omega), s1_off (by omega), s1_off (by omega), s1_off (by omega), s1_off (by omega)]
              · rw [s1_off (by omega), s1_off (by omega), s1_off (by omega), s1_off (by omega), s1_off (by omega), s1_off (by omega), s1_on]
              · rw [s1_off (by omega), s1_off (by omega), s1_off (by omega), s1_off (by omega), s1_off (by omega), s1_on]
              · rw [s1_off (by omega), s1_off (by omega), s1_off (by omega), s1_off (by omega), s1_on]
            · exact (hG.no g).elim))
          refine ⟨fun _ => ⟨fun c1 => ?_, fun c1 => ⟨fun c2 => ?_, fun c2 => ?_⟩⟩, fun c => absurd t3.2.2.1 c⟩
          · rcases hk with ⟨-, -, -, q1, -⟩ | ⟨q1, -⟩
            · exact absurd c1 q1
            · exact absurd hy q1
          · rcases hk with ⟨q0, q0', q9, q1, q2⟩ | ⟨q1, -⟩
            · exact yes _ q9
            · exact absurd hy q1
          · rcases hk with ⟨-, -, -, q1, q2⟩ | ⟨q1, -⟩
            · exact absurd q2 c2
            · exact absurd hy q1
        · rw [e] at z; exact absurd z (by decide)
      · rcases hw2 with ⟨e, -⟩ | ⟨-, e25⟩
        · exact absurd e z
        · have hga : ∀ len, gs b 0 len (kdT TT j) = .inr (b, 0) := fun len => by rw [hb.gs0, if_pos e25]
          have go : ∀ (σ5 : Sg), RCx PRG m3 192 [.ref 97] σ3 none σ5 → Pl PRG m3 d 200 2 [(0, .ref 97), (1, .int (b2i o)), (2, .int (b2i (!nt)))] [] σ5 (fun _ σ' => liB TT i b c0 c l D o R3 σ σ') := by
            intro σ5 h5
            obtain ⟨k1, k2⟩ := rc192 hW h5 (hR.fr g1) g3 hsj (hga _)
            rcases k2 with ⟨c1, c2⟩ | g
            · have hs2 := pr_next (q := (b, 0)) hsj (hga _) c1
              rw [show updD ((b, 0), D).1.1 (kdT TT j) j ((b, 0), D).2 = D from upd_id hb.ne.1 (by omega) (fun e => by omega)] at hs2
              have ev2 : evs TT (j + 1) = evs TT j := by rw [evs_step hsj, evO_0 hb.ev, orE_none]
              rw [← ev2] at c2
              refine ih m3 (by omega) (j + 1) (!nt) σ5 (by omega) (g1.trans k1) (gt.trans (te192 h5)) c2 hs2 ?_
              rw [ps_next hsj]
              show psS b _ _ _ = _
              rw [hb.ps0, if_pos e25, jS]
            · exact (hG.no g).elim
          refine ⟨fun cx σ5 h5 => ?_, fun cx σ5 h5 => ?_⟩
          · have := go σ5 h5
            rw [b2i_0.mp cx] at this
            exact this
          · have := go σ5 h5
            have nt1 : nt = true := by
              cases hn : nt with
              | true => rfl
              | false => rw [hn] at cx; exact absurd rfl cx
            rw [nt1] at this
            exact this
  exact p_200_0 σ (b2i o) (loop m i false σ (Nat.le_refl i) (FRr.refl σ) (FRt.refl σ) hP hs hS)
