/-! read, by the reference -/
theorem rk_15 : ∀ k, k < 37 → ((rk k = 20 ↔ k = 15) ∧ (rk k = 21 ↔ k = 16) ∧ (rk k = 22 ↔ k = 17) ∧ rk k < 42) := by decide +kernel
section Tell
variable {TT : List Tk} {i sd d : Nat}
theorem dd120 : ∀ (m : Nat) (x1 x3 : Int32) (σ : Sg), FAr TT σ → Pl PRG m d 203 120 [(0, .ref 97), (1, .int x1), (3, .int x3)] [] σ (fun _ σ' => onR TT i sd σ') := fun m x1 x3 σ h => Pl.pos (fun m2 _ => p_203_120 σ x1 x3 (fun σ1 h1 _ _ => by
  obtain ⟨k1, k2⟩ := rd193 h1 h
  exact t213 m2 _ (Or.inr (k2.same (((sameR.refl σ1).put (by omega)).put (by omega))))))
theorem dd90 : ∀ (m : Nat) (x1 x2 x3 : Int32) (σ : Sg), FAr TT σ → Pl PRG m d 203 90 [(0, .ref 97), (1, .int x1), (2, .int x2), (3, .int x3)] [] σ (fun _ σ' => onR TT i sd σ') := fun m x1 x2 x3 σ h => Pl.pos (fun m2 _ => p_203_90 σ x1 x2 x3 (dd120 m2 x1 x3 σ h))
end Tell
theorem TIr.pk {TT : List Tk} {j sd : Nat} {D : DT} {o : Option Nat} {σ σ1 : Sg} (hR : RQ TT σ1) (hP : PRo TT j (evs TT j) 0 σ1) (hs : pr TT j = .inr ((0, 0), (D.1, D.2.1, D.2.2.1, o, D.2.2.2.2))) (hF : FRr σ σ1) (hN : NMr TT D σ) (h20 : σ.1 97 20 = nI D.2.2.1.length) (hl6 : D.2.2.1.length ≤ 6) (hsd : sd < 2) (h19 : σ.1 97 19 = nI sd) (hTR : TRr TT D sd σ) (hCU : CUr TT D sd σ) (hnm : nmK TT D) {x y : Int32} (hx : PKr TT (D.1, D.2.1, D.2.2.1, o, D.2.2.2.2) sd (s1 (s1 σ1 106 sd x) 107 sd y)) : TIr TT j (D.1, D.2.1, D.2.2.1, o, D.2.2.2.2) sd (s1 (s1 σ1 106 sd x) 107 sd y) := by
  refine ⟨?_, hP.same (((sameR.refl σ1).put (by omega)).put (by omega)), hs, ?_, ?_, hl6, hsd, ?_, hx, ?_, ⟨?_, ?_⟩, hnm⟩
  · exact fun z t hz ht => by
      obtain ⟨p1, p2, p3, p4⟩ := hR z t hz ht
      exact ⟨by rw [s1_off (by omega), s1_off (by omega)]; exact p1, by rw [s1_off (by omega), s1_off (by omega)]; exact p2, fun e => by rw [s1_off (by omega), s1_off (by omega)]; exact p3 e, p4⟩
  · intro q e he
    show σ1.2 105 q = _
    rw [hF.1]; exact hN q e he
  · rw [s1_off (by omega), s1_off (by omega), hF.2 97 20 (by unfold mfR; omega) (by omega)]; exact h20
  · rw [s1_off (by omega), s1_off (by omega), hF.2 97 19 (by unfold mfR; omega) (by omega)]; exact h19
  · unfold TRr at hTR ⊢
    cases hp : D.2.2.2.2 with
    | none => rw [hp] at hTR; simp only [hp]; rw [s1_off (by omega), s1_off (by omega), hF.2 108 sd (by omega) (by omega)]; exact hTR
    | some z => rw [hp] at hTR; simp only [hp]; rw [s1_off (by omega), s1_off (by omega), hF.2 108 sd (by omega) (by omega)]; exact hTR
  · rw [s1_off (by omega), s1_off (by omega), hF.2 109 sd (by omega) (by omega)]; exact hCU.1
  · intro q e he
    rw [s1_off (by omega), s1_off (by omega), s1_off (by omega), s1_off (by omega), hF.2 110 _ (by omega) (by omega), hF.2 111 _ (by omega) (by omega)]
    exact hCU.2 q e he
theorem tell_r {TT : List Tk} (hW : WT TT) {n i sd : Nat} {D : DT} {σ σ1 : Sg} (hT : TIr TT i D sd σ) (hk0 : ¬ kdT TT i = 0) (h : RCx PRG n 203 [.ref 97] σ none σ1) : onR TT i sd σ1 := by
  have hT' := hT
  obtain ⟨hR, hP, hs, hN, h20, hl6, hsd, h19, hPK, hTR, hCU, hnm⟩ := hT
  have hat := RQ_at hW hR hs hP.2.1
  have hkd := (kd_le hW hs).1
  have hrk := rk_15 (kdT TT i) (by omega)
  refine h.by (Q := fun _ σ' => onR TT i sd σ') (fun m d => p_203_0 σ (fun _ => ?_))
  rw [hP.1, nI_clamp (by have := hP.2.1; omega), hat.1, nI_toInt (by omega)]
  refine ⟨fun c σ2 h2 => t213 m σ2 ?_, fun c σ2 h2 w4 σ3 h3 w6 σ5 h5 => ?_, fun c σ2 h2 w4 σ3 h3 _ σ5 h5 => t213 m σ5 ?_, fun c _ => ?_⟩
  · obtain ⟨k1, k2⟩ := rc190 (f := 1) hW h2 hR hP (stop_f hs (by
      show (if kdT TT i = 0 then _ else if kdT TT i = 15 then _ else if kdT TT i = 16 then _ else if kdT TT i = 17 then _ else _) = _
      rw [if_neg hk0, if_neg (fun e => by have := hrk.1.mpr e; omega), if_neg (fun e => by have := hrk.2.1.mpr e; omega), if_neg (fun e => by have := hrk.2.2.1.mpr e; omega)])) (by decide)
    exact Or.inr k2
  · have hk : kdT TT i = 15 := hrk.1.mp (by omega)
    have g0 : ∀ len, gs 0 0 len (kdT TT i) = .inr (1, 0) := fun len => by rw [hk]; rfl
    obtain ⟨f1, f2⟩ := rc192 hW h2 hR hP hs (g0 _)
    rcases f2 with ⟨a2, a3⟩ | g
    · have hs1 := pr_next (q := (1, 0)) hs (g0 _) a2
      rw [show updD ((0, 0), D).1.1 (kdT TT i) i ((0, 0), D).2 = D by rw [hk]; rfl] at hs1
      have e1 : evs TT (i + 1) = evs TT i := by rw [evs_step hs]; exact orE_none _
      rw [← e1] at a3
      obtain ⟨b1, b2⟩ := rc194 (q := (2, 0)) hW h3 (hR.fr f1) a3 hs1 (fun e => if_pos e) (fun e => if_neg e) (fun x hx => (evs_lt hx).1)
      rcases b2 with ⟨ew4, c1, c2, c3⟩ | g
      · have hs2 := pr_next (q := (2, 0)) hs1 (if_pos c1) c2
        rw [show updD ((1, 0), D).1.1 (kdT TT (i + 1)) (i + 1) ((1, 0), D).2 = D from upd_id (m := 1) (by decide) (by omega) (fun e => absurd (show (1 : Nat) = 25 from e.1) (by decide))] at hs2
        have e2 : evs TT (i + 1 + 1) = orE (evs TT (i + 1)) (bif off (vlT TT (i + 1)) 1 4 then some (5, i + 1) else none) := by rw [evs_step hs1, evO_off (b := off (vlT TT (i + 1)) 1 4) rfl]
        rw [← e2] at c3
        obtain ⟨d1, d2⟩ := rc194 (q := (3, 0)) hW h5 ((hR.fr f1).fr b1) c3 hs2 (fun e => if_pos e) (fun e => if_neg e) (fun x hx => (evs_lt hx).1)
        have F := (f1.trans b1).trans d1
        rcases d2 with ⟨ew6, t1, t2, t3⟩ | g
        · have hs3 := pr_next (q := (3, 0)) hs2 (if_pos t1) t2
          rw [show updD ((2, 0), D).1.1 (kdT TT (i + 1 + 1)) (i + 1 + 1) ((2, 0), D).2 = D from upd_id (m := 2) (by decide) (by omega) (fun e => absurd (show (2 : Nat) = 25 from e.1) (by decide))] at hs3
          have e3 : evs TT (i + 1 + 1 + 1) = orE (evs TT (i + 1 + 1)) (bif off (vlT TT (i + 1 + 1)) 1 16 || badP (vlT TT (i + 1)) (vlT TT (i + 1 + 1)) then some (5, i + 1 + 1) else none) := by rw [evs_step hs2, evO_off (b := off (vlT TT (i + 1 + 1)) 1 16 || badP (vlT TT (i + 1)) (vlT TT (i + 1 + 1))) rfl]
          rw [ew4, ew6, c3.1]
          have at120 : ∀ (m2 : Nat) (σ6 : Sg), FRr σ σ6 → PRo TT (i + 1 + 1 + 1) (evs TT (i + 1 + 1 + 1)) 0 σ6 → Pl PRG m2 d 203 120 [(0, .ref 97), (1, .int (vlT TT (i + 1))), (3, .int (vlT TT (i + 1 + 1)))] [] σ6 (fun _ σ' => onR TT i sd σ') := by
            intro m2 σ6 g1 g3
            refine Pl.pos (fun m3 _ => p_203_120 σ6 _ _ (fun σ7 h7 _ _ => ?_))
            obtain ⟨l1, l2⟩ := rc193 (b := 4) (q := (0, 0)) hW h7 (hR.fr g1) g3 hs3 (by decide) (fun e => if_pos e) (fun e => if_neg e)
            have G := g1.trans l1
            have q19 : σ7.1 97 19 = nI sd := by rw [G.2 97 19 (by unfold mfR; omega) (by omega)]; exact h19
            rw [q19, nI_clamp (by omega)]
            refine t213 m3 _ ?_
            rcases l2 with ⟨u1, u2, u3⟩ | g
            · have hs4 := pr_next (q := (0, 0)) hs3 (if_pos u1) u2
              have eU : updD ((3, 0), D).1.1 (kdT TT (i + 1 + 1 + 1)) (i + 1 + 1 + 1) ((3, 0), D).2 = (D.1, D.2.1, D.2.2.1, some (i + 1), D.2.2.2.2) := by rw [u1]; rfl
              rw [eU] at hs4
              have e4 : evs TT (i + 1 + 1 + 1 + 1) = evs TT (i + 1 + 1 + 1) := by rw [evs_step hs3]; exact orE_none _
              rw [← e4] at u3
              exact Or.inl ⟨i + 1 + 1 + 1 + 1, _, by omega, TIr.pk (hR.fr G) u3 hs4 G hN h20 hl6 hsd h19 hTR hCU hnm ⟨by rw [s1_off (by omega), s1_on], by rw [s1_on]⟩⟩
            · exact Or.inr (g.same (((sameR.refl σ7).put (by omega)).put (by omega)))
          have skip : (off (vlT TT (i + 1)) 1 4 = true ∨ off (vlT TT (i + 1 + 1)) 1 16 = true) → Pl PRG m d 203 90 [(0, .ref 97), (1, .int (vlT TT (i + 1))), (2, .int (nI (i + 1 + 1))), (3, .int (vlT TT (i + 1 + 1)))] [] σ5 (fun _ σ' => onR TT i sd σ') := by
            intro hb
            refine Pl.pos (fun m2 _ => p_203_90 σ5 _ _ _ (at120 m2 σ5 F ?_))
            have : evs TT (i + 1 + 1 + 1) = orE (evs TT (i + 1 + 1)) (bif off (vlT TT (i + 1 + 1)) 1 16 then some (5, i + 1 + 1) else none) := by
              rw [e3]
              rcases hb with hb | hb
              · rw [e2, hb]
                cases evs TT (i + 1) <;> rfl
              · rw [hb]; rfl
            rw [this]
            exact t3
          have bad : badP (vlT TT (i + 1)) (vlT TT (i + 1 + 1)) = true → off (vlT TT (i + 1 + 1)) 1 16 = false → Pl PRG m d 203 114 [(0, .ref 97), (1, .int (vlT TT (i + 1))), (2, .int (nI (i + 1 + 1))), (3, .int (vlT TT (i + 1 + 1)))] [] σ5 (fun _ σ' => onR TT i sd σ') := by
            intro hb ho
            refine Pl.pos (fun m2 _ => p_203_114 σ5 _ _ _ (fun σ6 h6 => ?_))
            rw [ho] at t3
            have t4 : PRo TT (i + 1 + 1 + 1) (orE (evs TT (i + 1 + 1)) none) 0 σ5 := t3
            rw [orE_none] at t4
            obtain ⟨y1, y2, y3⟩ := rc191 (f := 5) hW h6 (hR.fr F) t4.2.2.2.1 t4.2.2.1 hs2 (by omega) (by decide) (fun x hx => Or.inl (evs_lt hx).1)
            refine at120 m2 σ6 (F.trans y1) ?_
            rw [e3, ho, hb]
            exact ⟨by rw [y3 11 (by decide) (by decide)]; exact t4.1, t4.2.1, by rw [y3 13 (by decide) (by decide)]; exact t4.2.2.1, y2, by rw [y3 12 (by decide) (by decide)]; exact t4.2.2.2.2⟩
          refine ⟨fun _ w8 σ7 h7 _ => ?_, fun c => absurd t3.2.2.1 c⟩
          obtain ⟨rfl, e8⟩ := rc195 h7
          refine ⟨fun z => skip (Or.inl (e8.mp z)), fun z w10 σ9 h9 _ => ?_⟩
          obtain ⟨rfl, e10⟩ := rc195 h9
          refine ⟨fun z2 => skip (Or.inr (e10.mp z2)), fun z2 => ?_⟩
          have o2 : off (vlT TT (i + 1 + 1)) 1 16 = false := by
            cases ho : off (vlT TT (i + 1 + 1)) 1 16 with
            | false => rfl
            | true => exact absurd (e10.mpr ho) z2
          refine ⟨fun c' => bad (by unfold badP; rw [decide_eq_true c']; rfl) o2, fun c' => ⟨fun c2' => at120 m _ F ?_, fun c2' => bad (by unfold badP; rw [decide_eq_false c2']; exact Bool.or_true _) o2⟩⟩
          have hb2 : badP (vlT TT (i + 1)) (vlT TT (i + 1 + 1)) = false := by
            unfold badP
            rw [decide_eq_false c', decide_eq_true c2']
            rfl
          rw [e3, hb2, Bool.or_false]
          exact t3
        · exact ⟨fun c => absurd c g.pos.2.2, fun _ => dd90 m _ _ _ σ5 g⟩
      · have e := rd194 h5 g
        subst e
        exact ⟨fun c => absurd c g.pos.2.2, fun _ => dd90 m _ _ _ _ g⟩
    · have e := rd194 h3 g
      subst e
      have e := rd194 h5 g
      subst e
      exact ⟨fun c => absurd c g.pos.2.2, fun _ => dd90 m _ _ _ _ g⟩
  · have hk : kdT TT i = 16 := hrk.2.1.mp (by omega)
    have g0 : ∀ len, gs 0 0 len (kdT TT i) = .inr (4, 0) := fun len => by rw [hk]; rfl
    obtain ⟨f1, f2⟩ := rc192 hW h2 hR hP hs (g0 _)
    have q19 : σ2.1 97 19 = nI sd := by rw [f1.2 97 19 (by unfold mfR; omega) (by omega)]; exact h19
    rw [q19, nI_clamp (by omega)] at h5
    rcases f2 with ⟨a2, a3⟩ | g
    · have hs1 := pr_next (q := (4, 0)) hs (g0 _) a2
      rw [show updD ((0, 0), D).1.1 (kdT TT i) i ((0, 0), D).2 = D by rw [hk]; rfl] at hs1
      have e1 : evs TT (i + 1) = evs TT i := by rw [evs_step hs]; exact orE_none _
      rw [← e1] at a3
      obtain ⟨b1, b2⟩ := rc194 (q := (5, 0)) hW h3 (hR.fr f1) a3 hs1 (fun e => if_pos e) (fun e => if_neg e) (fun x hx => (evs_lt hx).1)
      rcases b2 with ⟨ew4, c1, c2, c3⟩ | g
      · have hs2 := pr_next (q := (5, 0)) hs1 (if_pos c1) c2
        rw [show updD ((4, 0), D).1.1 (kdT TT (i + 1)) (i + 1) ((4, 0), D).2 = D from upd_id (m := 4) (by decide) (by omega) (fun e => absurd (show (4 : Nat) = 25 from e.1) (by decide))] at hs2
        have e2 : evs TT (i + 1 + 1) = orE (evs TT (i + 1)) (bif off (vlT TT (i + 1)) 0 3 then some (5, i + 1) else none) := by rw [evs_step hs1, evO_off (b := off (vlT TT (i + 1)) 0 3) rfl]
        rw [← e2] at c3
        have F := f1.trans b1
        have hR2 : RQ TT (s1 σ3 108 sd w4) := fun z t hz ht => by
          obtain ⟨p1, p2, p3, p4⟩ := (hR.fr F) z t hz ht
          exact ⟨by rw [s1_off (by omega)]; exact p1, by rw [s1_off (by omega)]; exact p2, fun e => by rw [s1_off (by omega)]; exact p3 e, p4⟩
        obtain ⟨l1, l2⟩ := rc193 (b := 4) (q := (0, 0)) hW h5 hR2 (c3.same ((sameR.refl σ3).put (by omega))) hs2 (by decide) (fun e => if_pos e) (fun e => if_neg e)
        rcases l2 with ⟨u1, u2, u3⟩ | g
        · have hs4 := pr_next (q := (0, 0)) hs2 (if_pos u1) u2
          have eU : updD ((5, 0), D).1.1 (kdT TT (i + 1 + 1)) (i + 1 + 1) ((5, 0), D).2 = (D.1, D.2.1, D.2.2.1, D.2.2.2.1, some (i + 1)) := by rw [u1]; rfl
          rw [eU] at hs4
          have e4 : evs TT (i + 1 + 1 + 1) = evs TT (i + 1 + 1) := by rw [evs_step hs2]; exact orE_none _
          rw [← e4] at u3
          have G : ∀ q x, ¬ (q = 97 ∧ mfR x) → ¬ (112 ≤ q ∧ q ≤ 122) → ¬ q = 108 → σ5.1 q x = σ.1 q x := fun q x a b c' => by
            rw [l1.2 q x a b, s1_off (fun e => c' e.1)]
            exact F.2 q x a b
          have G2 : σ5.2 = σ.2 := l1.1.trans F.1
          refine Or.inl ⟨i + 1 + 1 + 1, _, by omega, hR2.fr l1, u3, hs4, ?_, ?_, hl6, hsd, ?_, ?_, ?_, ⟨?_, ?_⟩, hnm⟩
          · intro q e he
            rw [G2]; exact hN q e he
          · rw [G 97 20 (by unfold mfR; omega) (by omega) (by omega)]; exact h20
          · rw [G 97 19 (by unfold mfR; omega) (by omega) (by omega)]; exact h19
          · unfold PKr at hPK ⊢
            cases hp : D.2.2.2.1 with
            | none => rw [hp] at hPK; simp only [hp]; rw [G 106 sd (by omega) (by omega) (by omega), G 107 sd (by omega) (by omega) (by omega)]; exact hPK
            | some z => rw [hp] at hPK; simp only [hp]; rw [G 106 sd (by omega) (by omega) (by omega), G 107 sd (by omega) (by omega) (by omega)]; exact hPK
          · show σ5.1 108 sd = vlT TT (i + 1)
            rw [l1.2 108 sd (by omega) (by omega), s1_on]; exact ew4
          · rw [G 109 sd (by omega) (by omega) (by omega)]; exact hCU.1
          · intro q e he
            rw [G 110 _ (by omega) (by omega) (by omega), G 111 _ (by omega) (by omega) (by omega)]
            exact hCU.2 q e he
        · exact Or.inr g
      · obtain ⟨k1, k2⟩ := rd193 h5 (g.same ((sameR.refl σ3).put (by omega)))
        exact Or.inr k2
    · have e := rd194 h3 g
      subst e
      obtain ⟨k1, k2⟩ := rd193 h5 (g.same ((sameR.refl σ3).put (by omega)))
      exact Or.inr k2
  · have hk : kdT TT i = 17 := hrk.2.2.1.mp (by omega)
    rw [h19, nI_clamp (by omega), hCU.1]
    refine ⟨fun c6 σ2 h2 => ?_, fun c6 => Pl.pos (fun m2 _ => p_203_194 σ ⟨fun _ σ2 h2 => t213 m2 σ2 (cust_r hW hT' hk ?_ h2), fun c' => absurd hP.2.2.1 c'⟩)⟩
    · have e6 : D.2.2.1.length = 6 := (nI_eq (b := 6) (by omega) (by decide)).mp c6
      obtain ⟨k1, k2⟩ := rc190 (f := 2) hW h2 hR hP (stop_f hs (by
        rw [hk]
        show (if 6 ≤ D.2.2.1.length then _ else _) = _
        rw [if_pos (by omega)])) (by decide)
      exact Pl.pos (fun m2 _ => p_203_194 σ2 ⟨fun c' => absurd c' k2.pos.2.2, fun _ => t213 m2 σ2 (Or.inr k2)⟩)
    · have n6 : ¬ D.2.2.1.length = 6 := fun e => c6 (by rw [e]; rfl)
      omega
