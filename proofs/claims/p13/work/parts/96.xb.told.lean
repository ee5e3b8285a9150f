/-! what is told, by the reference -/
theorem rc195 {n : Nat} {x lo hi w : Int32} {σ σ1 : Sg} (h : RCx PRG n 195 [.int x, .int lo, .int hi] σ (some (.int w)) σ1) : σ1 = σ ∧ (w = 0 ↔ off x lo hi = true) := by
  have := h.by (Q := fun v s => s = σ ∧ ∃ w : Int32, v = some (.int w) ∧ (w = 0 ↔ off x lo hi = true)) (fun m d => p_195_0 σ x lo hi ⟨fun c => ⟨rfl, _, rfl, fun _ => by unfold off; rw [decide_eq_true c]; rfl, fun _ => rfl⟩, fun c => ⟨fun c2 => ⟨rfl, _, rfl, fun _ => by unfold off; rw [decide_eq_true c2, Bool.or_true], fun _ => rfl⟩, fun c2 => ⟨rfl, _, rfl, fun e => absurd e (by decide), fun e => by unfold off at e; rw [decide_eq_false c, decide_eq_false c2] at e; cases e⟩⟩⟩)
  obtain ⟨h1, w', h2, h3⟩ := this
  cases h2
  exact ⟨h1, h3⟩
/-- as FRr, but for one place of the customs' rows -/
def FKr (k : Nat) (σ σ1 : Sg) : Prop := σ1.2 = σ.2 ∧ ∀ q x, ¬ (q = 97 ∧ mfR x) → ¬ (112 ≤ q ∧ q ≤ 122) → ¬ (q = 110 ∧ x = k) → ¬ (q = 111 ∧ x = k) → σ1.1 q x = σ.1 q x
theorem FKr.fr {k : Nat} {σ σ1 σ2 : Sg} (h : FKr k σ σ1) (h' : FRr σ1 σ2) : FKr k σ σ2 := ⟨h'.1.trans h.1, fun q x a b c d => (h'.2 q x a b).trans (h.2 q x a b c d)⟩
theorem FKr.of {k : Nat} {σ σ1 : Sg} (h : FRr σ σ1) : FKr k σ σ1 := ⟨h.1, fun q x a b _ _ => h.2 q x a b⟩
theorem FKr.put {k r : Nat} {x : Int32} {σ σ1 : Sg} (h : FKr k σ σ1) (hr : r = 110 ∨ r = 111) : FKr k σ (s1 σ1 r k x) := ⟨h.1, fun q y a b c d => by rw [s1_off (fun e => by rcases hr with g | g; exact c ⟨e.1.trans g, e.2⟩; exact d ⟨e.1.trans g, e.2⟩)]; exact h.2 q y a b c d⟩
theorem RQ.fk {TT : List Tk} {k : Nat} {σ σ1 : Sg} (h : RQ TT σ) (hF : FKr k σ σ1) : RQ TT σ1 := fun m t hm ht => by
  obtain ⟨h1, h2, h3, h4⟩ := h m t hm ht
  exact ⟨by rw [hF.2 100 m (by omega) (by omega) (by omega) (by omega)]; exact h1, by rw [hF.2 101 m (by omega) (by omega) (by omega) (by omega)]; exact h2, fun e => by rw [hF.2 102 m (by omega) (by omega) (by omega) (by omega)]; exact h3 e, fun e => by rw [hF.1]; exact h4 e⟩
theorem tw_eq {TT : List Tk} (hW : WT TT) {i j : Nat} (hi : i < TT.length) (hj : j < TT.length) (h1 : kdT TT i = 2) (h2 : kdT TT j = 2) : n32T TT i = n32T TT j ↔ n27T TT i = n27T TT j := hW.2.2.2.1 _ (mem_at hi) _ (mem_at hj) h1 h2
section Told
variable {TT : List Tk} {i sd d : Nat}
theorem t213 : ∀ (m : Nat) (σ : Sg), onR TT i sd σ → Pl PRG m d 203 213 [] [] σ (fun _ σ' => onR TT i sd σ') := fun m σ hq => Pl.pos (fun m2 _ => p_203_213 σ hq)
/-! a custom, after a fault -/
theorem dd235 : ∀ (m : Nat) (x1 x2 : Int32) (σ : Sg), FAr TT σ → Pl PRG m d 202 235 [(0, .ref 97), (1, .int x1), (2, .int x2)] [] σ (fun _ σ' => onR TT i sd σ') := fun m x1 x2 σ h => Pl.pos (fun m2 _ => p_202_235 σ x1 x2 (fun _ σ1 h1 => by
  obtain ⟨k1, k2⟩ := rd193 h1 (h.same ((sameR.refl σ).put (by omega)))
  exact ⟨fun c => absurd c k2.pos.1, fun _ => Or.inr k2⟩))
theorem dd224 : ∀ (m : Nat) (x1 x2 : Int32) (σ : Sg), FAr TT σ → Pl PRG m d 202 224 [(0, .ref 97), (1, .int x1), (2, .int x2)] [] σ (fun _ σ' => onR TT i sd σ') := fun m x1 x2 σ h => Pl.pos (fun m2 _ => p_202_224 σ x1 x2 ⟨fun c => absurd c h.pos.2.2, fun _ => dd235 m2 x1 x2 σ h⟩)
theorem dd184 : ∀ (m : Nat) (x1 x2 : Int32) (σ : Sg), FAr TT σ → Pl PRG m d 202 184 [(0, .ref 97), (1, .int x1), (2, .int x2)] [] σ (fun _ σ' => onR TT i sd σ') := fun m x1 x2 σ h => Pl.pos (fun m2 _ => p_202_184 σ x1 x2 (fun _ _ w2 σ1 h1 _ => by
  have h' : FAr TT (s1 (s1 σ 113 ((2 : Int32) * x1).toNatClampNeg (σ.1 97 30)) 112 (((2 : Int32) * x1) + (1 : Int32)).toNatClampNeg (σ.1 97 30)) := h.same (((sameR.refl σ).put (by omega)).put (by omega))
  obtain ⟨rfl, rfl⟩ := rd189 h1 h'
  refine ⟨fun _ σ3 h3 => ?_, fun c => absurd rfl c⟩
  have e := rd190 h3 h'
  subst e
  exact dd224 m2 x1 x2 _ h'))
theorem dd129 : ∀ (m : Nat) (x1 x2 : Int32) (σ : Sg), FAr TT σ → Pl PRG m d 202 129 [(0, .ref 97), (1, .int x1), (2, .int x2)] [] σ (fun _ σ' => onR TT i sd σ') := fun m x1 x2 σ h => Pl.pos (fun m2 _ => p_202_129 σ x1 x2 ⟨fun c => absurd c h.pos.1, fun _ => Or.inr h⟩)
theorem dd124 : ∀ (m : Nat) (x1 x2 : Int32) (σ : Sg), FAr TT σ → Pl PRG m d 202 124 [(0, .ref 97), (1, .int x1), (2, .int x2)] [] σ (fun _ σ' => onR TT i sd σ') := fun m x1 x2 σ h => Pl.pos (fun m2 _ => p_202_124 σ x1 x2 (fun σ1 h1 => by
  have e := rd190 h1 h
  subst e
  exact dd129 m2 x1 x2 _ h))
theorem dd77 : ∀ (m : Nat) (x1 x2 : Int32) (σ : Sg), FAr TT σ → Pl PRG m d 202 77 [(0, .ref 97), (1, .int x1), (2, .int x2)] [] σ (fun _ σ' => onR TT i sd σ') := fun m x1 x2 σ h => Pl.pos (fun m2 _ => p_202_77 σ x1 x2 (fun w2 σ1 h1 _ => by
  have e := rd194 h1 h
  subst e
  have h' : FAr TT (s1 σ1 110 x1.toNatClampNeg w2) := h.same ((sameR.refl σ1).put (by omega))
  exact ⟨fun _ => dd124 m2 x1 x2 _ h', fun c => absurd h.pos.2.1 c⟩))
theorem dd34 : ∀ (m : Nat) (x1 x2 x3 : Int32) (σ : Sg), FAr TT σ → Pl PRG m d 202 34 [(0, .ref 97), (1, .int x1), (2, .int x2), (3, .int x3)] [] σ (fun _ σ' => onR TT i sd σ') := fun m x1 x2 x3 σ h => Pl.pos (fun m2 _ => p_202_34 σ x1 x2 x3 ⟨fun _ => dd77 m2 x1 x2 σ h, fun _ => ⟨fun c => absurd c h.pos.2.2, fun _ => dd77 m2 x1 x2 σ h⟩⟩)
end Told
theorem six {sd len : Nat} (hs : sd < 2) (hl : len ≤ 6) : (6 : Int32) * nI sd + nI len = nI (6 * sd + len) := by
  have : (6 : Int32) * nI sd = nI (6 * sd) := by
    have h : sd = 0 ∨ sd = 1 := by omega
    rcases h with rfl | rfl <;> decide
  rw [this, nI_add]
theorem cust_r {TT : List Tk} (hW : WT TT) {n i sd : Nat} {D : DT} {σ σ1 : Sg} (hT : TIr TT i D sd σ) (hk : kdT TT i = 17) (hl : D.2.2.1.length < 6) (h : RCx PRG n 202 [.ref 97] σ none σ1) : onR TT i sd σ1 := by
  obtain ⟨hR, hP, hs, hN, h20, hl6, hsd, h19, hPK, hTR, hCU, hnm⟩ := hT
  refine h.by (Q := fun _ σ' => onR TT i sd σ') (fun m d => p_202_0 σ (fun _ σ1 h1 σ2 h2 => ?_))
  rw [h19, nI_clamp (by omega), hCU.1, six hsd hl6]
  have hg0 : gs 0 0 D.2.2.1.length (kdT TT i) = .inr (6, 0) := by
    rw [hk]
    show (if 6 ≤ D.2.2.1.length then _ else _) = _
    rw [if_neg (by omega)]
  obtain ⟨f1, f2⟩ := rc192 hW h1 hR hP hs hg0
  rcases f2 with ⟨c1, c2⟩ | g
  · have hs1 := pr_next hs hg0 c1
    rw [show updD ((0, 0), D).1.1 (kdT TT i) i ((0, 0), D).2 = D by rw [hk]; rfl] at hs1
    have e1 : evs TT (i + 1) = evs TT i := by rw [evs_step hs]; exact orE_none _
    rw [← e1] at c2
    rw [c2.1]
    obtain ⟨b1, b2⟩ := rc193 (b := 2) hW h2 (hR.fr f1) c2 hs1 (by decide) (fun e => if_pos e) (fun e => if_neg e)
    rcases b2 with ⟨k2, c3, c4⟩ | g
    · have hs2 := pr_next (q := (7, 0)) hs1 (if_pos k2) c3
      rw [show updD ((6, 0), D).1.1 (kdT TT (i + 1)) (i + 1) ((6, 0), D).2 = (i + 1, D.2) from rfl] at hs2
      have hE : evs TT (i + 1 + 1) = orE (evs TT (i + 1)) (bif twice TT (i + 1) D.2.2.1 D.2.2.1.length then some (3, i + 1) else none) := by rw [evs_step hs1, evO_6]
      have hin := (tok_in hW hs1).1
      have k12 : 6 * sd + D.2.2.1.length < 12 := by omega
      -- the semicolon
      have semi : ∀ (m2 j j2 : Nat) (D2 : DT) (σ3 : Sg), i < j2 → D2 = (i + 1, j, D.2.2) → FKr (6 * sd + D.2.2.1.length) σ σ3 → pr TT j2 = .inr ((25, 0), D2) → PRo TT j2 (evs TT j2) 0 σ3 → ¬ (5 ≤ kdT TT j2 ∧ kdT TT j2 ≤ 8) → ¬ (kdT TT j2 = 23 ∨ kdT TT j2 = 24) → σ3.1 110 (6 * sd + D.2.2.1.length) = vlT TT (i + 1 + 1) → σ3.1 111 (6 * sd + D.2.2.1.length) = nI (kdT TT (i + 1 + 1 + 1) - 18) → Pl PRG m2 d 202 235 [(0, .ref 97), (1, .int (nI (6 * sd + D.2.2.1.length))), (2, .int (nI (i + 1)))] [] σ3 (fun _ σ' => onR TT i sd σ') := by
        intro m2 j j2 D2 σ3 hij hD2 F hsj g3 nop nao v1 v2
        subst hD2
        refine Pl.pos (fun m3 _ => p_202_235 σ3 _ _ (fun _ σ4 h4 => ?_))
        have F1 : FRr σ3 (s1 σ3 113 (((2 : Int32) * nI (6 * sd + D.2.2.1.length)) + (1 : Int32)).toNatClampNeg (σ3.1 97 30)) := (FRr.refl σ3).arr (by omega)
        have S1 : sameR σ3 (s1 σ3 113 (((2 : Int32) * nI (6 * sd + D.2.2.1.length)) + (1 : Int32)).toNatClampNeg (σ3.1 97 30)) := (sameR.refl σ3).put (by omega)
        have hg2 : ∀ len, gs 25 0 len (kdT TT j2) = if kdT TT j2 = 4 then .inr (0, 0) else .inl 1 := fun len => by
          show ga 25 24 0 (kdT TT j2) _ = _
          unfold ga
          rw [if_neg nop, if_neg (fun e => absurd e.2 (by decide)), if_pos rfl, if_neg nao]
        obtain ⟨l1, l2⟩ := rc193 (b := 4) (q := (0, 0)) hW h4 ((hR.fk F).fr F1) (g3.same S1) hsj (by decide) (fun e => by show gs 25 0 _ _ = _; rw [hg2, if_pos e]) (fun e => by show gs 25 0 _ _ = _; rw [hg2, if_neg e])
        rcases l2 with ⟨u1, u2, u3⟩ | g
        · have hse := pr_next (q := (0, 0)) hsj (by show gs 25 0 _ _ = _; rw [hg2, if_pos u1]) u2
          have eU2 : updD ((25, 0), ((i + 1, j, D.2.2) : DT)).1.1 (kdT TT j2) j2 ((25, 0), ((i + 1, j, D.2.2) : DT)).2 = (i + 1, j, D.2.2.1 ++ [(i + 1, j, j2)], D.2.2.2) := by rw [u1]; rfl
          rw [eU2] at hse
          have ev2 : evs TT (j2 + 1) = evs TT j2 := by rw [evs_step hsj, evO_0 (show evT TT ((25, 0), i + 1, j, D.2.2) j2 = 0 from rfl), orE_none]
          rw [← ev2] at u3
          have G := (F.fr F1).fr l1
          have ln : (D.2.2.1 ++ [(i + 1, j, j2)]).length = D.2.2.1.length + 1 := by simp
          have q19 : σ4.1 97 19 = nI sd := by rw [G.2 97 19 (by unfold mfR; omega) (by omega) (by omega) (by omega)]; exact h19
          have q20 : σ4.1 97 20 = nI D.2.2.1.length := by rw [G.2 97 20 (by unfold mfR; omega) (by omega) (by omega) (by omega)]; exact h20
          have q109 : σ4.1 109 sd = nI D.2.2.1.length := by rw [G.2 109 sd (by omega) (by omega) (by omega) (by omega)]; exact hCU.1
          have LL := F1.trans l1
          have q110 : ∀ x, σ4.1 110 x = σ3.1 110 x := fun x => LL.2 110 x (by omega) (by omega)
          have q111 : ∀ x, σ4.1 111 x = σ3.1 111 x := fun x => LL.2 111 x (by omega) (by omega)
          have nmv : σ4.2 103 (i + 1) = n27T TT (i + 1) := by
            have := (RQ_at hW ((hR.fk F).fr LL) hs1 (by omega)).2.2.2 k2
            exact this
          refine ⟨fun _ _ _ _ _ => ?_, fun c => absurd (by rw [u3.2.2.1]; decide) c⟩
          rw [q19, q20, nI_clamp (n := sd) (by omega), nI_clamp (n := D.2.2.1.length) (by omega), nI_clamp (n := i + 1) (by omega), q109, nmv, nI_1]
          refine Or.inl ⟨j2 + 1, (i + 1, j, D.2.2.1 ++ [(i + 1, j, j2)], D.2.2.2), by omega, ?_, ?_, hse, ?_, ?_, ?_, hsd, ?_, ?_, ?_, ⟨?_, ?_⟩, ?_⟩
          · exact fun x t hx ht => by
              obtain ⟨p1, p2, p3, p4⟩ := ((hR.fk F).fr LL) x t hx ht
              refine ⟨by rw [s1_off (by omega), s1_off (by omega)]; exact p1, by rw [s1_off (by omega), s1_off (by omega)]; exact p2, fun e => by rw [s1_off (by omega), s1_off (by omega)]; exact p3 e, fun e => ?_⟩
              show (if (103 : Nat) = 105 ∧ x = D.2.2.1.length then n27T TT (i + 1) else σ4.2 103 x) = _
              rw [if_neg (fun e => absurd e.1 (by decide))]
              exact p4 e
          · have S2 : sameR σ4 (s1 (s1 (s2 σ4 105 D.2.2.1.length (n27T TT (i + 1))) 97 20 (nI (D.2.2.1.length + 1))) 109 sd (nI (D.2.2.1.length + 1))) := fun y a b => by rw [s1_off (by omega), s1_off (by omega)]; rfl
            exact u3.same S2
          · intro q x hx
            have hx' : (D.2.2.1 ++ [(i + 1, j, j2)])[q]? = some x := hx
            show (if (105 : Nat) = 105 ∧ q = D.2.2.1.length then n27T TT (i + 1) else σ4.2 105 q) = _
            rcases Nat.lt_or_ge q D.2.2.1.length with g | g
            · rw [List.getElem?_append_left g] at hx'
              rw [if_neg (by omega), G.1]
              exact hN q x hx'
            · rw [List.getElem?_append_right g] at hx'
              have hq0 : q - D.2.2.1.length = 0 := by
                rcases Nat.eq_zero_or_pos (q - D.2.2.1.length) with z | z
                · exact z
                · rw [List.getElem?_eq_none (by simp; omega)] at hx'; cases hx'
              rw [hq0] at hx'
              cases hx'
              rw [if_pos ⟨rfl, by omega⟩]
          · rw [s1_off (by omega), s1_on]
            show _ = nI (D.2.2.1 ++ [(i + 1, j, j2)]).length
            rw [ln]
          · show (D.2.2.1 ++ [(i + 1, j, j2)]).length ≤ 6
            rw [ln]; omega
          · rw [s1_off (by omega), s1_off (by omega)]; exact q19
          · unfold PKr at hPK ⊢
            cases hp : D.2.2.2.1 with
            | none =>
              rw [hp] at hPK
              simp only [hp]
              rw [s1_off (by omega), s1_off (by omega), s1_off (by omega), s1_off (by omega)]
              show σ4.1 106 sd = 4 ∧ σ4.1 107 sd = 4
              rw [G.2 106 sd (by omega) (by omega) (by omega) (by omega), G.2 107 sd (by omega) (by omega) (by omega) (by omega)]
              exact hPK
            | some y =>
              rw [hp] at hPK
              simp only [hp]
              rw [s1_off (by omega), s1_off (by omega), s1_off (by omega), s1_off (by omega)]
              show σ4.1 106 sd = vlT TT y ∧ σ4.1 107 sd = vlT TT (y + 1)
              rw [G.2 106 sd (by omega) (by omega) (by omega) (by omega), G.2 107 sd (by omega) (by omega) (by omega) (by omega)]
              exact hPK
          · unfold TRr at hTR ⊢
            cases hp : D.2.2.2.2 with
            | none =>
              rw [hp] at hTR
              simp only [hp]
              rw [s1_off (by omega), s1_off (by omega)]
              show σ4.1 108 sd = -1
              rw [G.2 108 sd (by omega) (by omega) (by omega) (by omega)]
              exact hTR
            | some y =>
              rw [hp] at hTR
              simp only [hp]
              rw [s1_off (by omega), s1_off (by omega)]
              show σ4.1 108 sd = vlT TT y
              rw [G.2 108 sd (by omega) (by omega) (by omega) (by omega)]
              exact hTR
          · rw [s1_on]
            show _ = nI (D.2.2.1 ++ [(i + 1, j, j2)]).length
            rw [ln]
          · intro q x hx
            have hx' : (D.2.2.1 ++ [(i + 1, j, j2)])[q]? = some x := hx
            rw [s1_off (by omega), s1_off (by omega), s1_off (by omega), s1_off (by omega)]
            show σ4.1 110 (6 * sd + q) = _ ∧ σ4.1 111 (6 * sd + q) = _
            rcases Nat.lt_or_ge q D.2.2.1.length with g | g
            · rw [List.getElem?_append_left g] at hx'
              rw [G.2 110 _ (by omega) (by omega) (by omega) (by omega), G.2 111 _ (by omega) (by omega) (by omega) (by omega)]
              exact hCU.2 q x hx'
            · rw [List.getElem?_append_right g] at hx'
              have hq0 : q - D.2.2.1.length = 0 := by
                rcases Nat.eq_zero_or_pos (q - D.2.2.1.length) with z | z
                · exact z
                · rw [List.getElem?_eq_none (by simp; omega)] at hx'; cases hx'
              rw [hq0] at hx'
              cases hx'
              rw [show q = D.2.2.1.length by omega, q110, q111]
              exact ⟨v1, v2⟩
          · intro e he
            rcases List.mem_append.mp he with he | he
            · exact hnm e he
            · rw [List.mem_singleton] at he
              subst he
              exact ⟨k2, hin⟩
        · exact ⟨fun c => absurd c g.pos.1, fun _ => Or.inr g⟩
      -- says
      have says : ∀ (m2 j M : Nat) (σ3 : Sg), i < j → (¬ M = 6 ∧ ¬ M = 25) → FKr (6 * sd + D.2.2.1.length) σ σ3 → pr TT j = .inr ((M, 0), (i + 1, D.2)) → evT TT ((M, 0), (i + 1, D.2)) j = 0 → (∀ len, gs M 0 len (kdT TT j) = if kdT TT j = 22 then .inr (20, 0) else .inl 1) → PRo TT j (evs TT j) 0 σ3 → σ3.1 110 (6 * sd + D.2.2.1.length) = vlT TT (i + 1 + 1) → σ3.1 111 (6 * sd + D.2.2.1.length) = nI (kdT TT (i + 1 + 1 + 1) - 18) → Pl PRG m2 d 202 184 [(0, .ref 97), (1, .int (nI (6 * sd + D.2.2.1.length))), (2, .int (nI (i + 1)))] [] σ3 (fun _ σ' => onR TT i sd σ') := by
        intro m2 j M σ3 hij hM F hsj hev hg g3 v1 v2
        refine Pl.pos (fun m3 _ => p_202_184 σ3 _ _ (fun _ _ w2 σ4 h4 _ => ?_))
        have F1 : FRr σ3 (s1 (s1 σ3 113 ((2 : Int32) * nI (6 * sd + D.2.2.1.length)).toNatClampNeg (σ3.1 97 30)) 112 (((2 : Int32) * nI (6 * sd + D.2.2.1.length)) + (1 : Int32)).toNatClampNeg (σ3.1 97 30)) := ((FRr.refl σ3).arr (by omega)).arr (by omega)
        have S1 : sameR σ3 (s1 (s1 σ3 113 ((2 : Int32) * nI (6 * sd + D.2.2.1.length)).toNatClampNeg (σ3.1 97 30)) 112 (((2 : Int32) * nI (6 * sd + D.2.2.1.length)) + (1 : Int32)).toNatClampNeg (σ3.1 97 30)) := ((sameR.refl σ3).put (by omega)).put (by omega)
        obtain ⟨rfl, e4⟩ := rc189 (b := 22) hW h4 ((hR.fk F).fr F1) (g3.same S1) hsj (by decide)
        refine ⟨fun z σ5 h5 => ?_, fun z => ?_⟩
        · rcases e4 with ⟨-, n22⟩ | ⟨e, -⟩
          · obtain ⟨k1, k2⟩ := rc190 (f := 1) hW h5 ((hR.fk F).fr F1) (g3.same S1) (stop_f hsj (by show gs M 0 _ _ = _; rw [hg, if_neg n22])) (by decide)
            exact dd224 m3 _ _ σ5 k2
          · rw [e] at z; exact absurd z (by decide)
        · rcases e4 with ⟨e, -⟩ | ⟨-, e22⟩
          · exact absurd e z
          · refine Pl.pos (fun m4 _ => p_202_224 _ _ _ ⟨fun _ σ5 h5 => ?_, fun c => absurd (g3.same S1).2.2.1 c⟩)
            have eU : updD ((M, 0), ((i + 1, D.2) : DT)).1.1 (kdT TT j) j ((M, 0), ((i + 1, D.2) : DT)).2 = (i + 1, j, D.2.2) := by
              show updD M (kdT TT j) j (i + 1, D.2) = _
              unfold updD
              rw [if_neg hM.1, if_pos e22]
            obtain ⟨y1, y2⟩ := cond_r hW (b := 20) (Or.inr rfl) ((hR.fk F).fr F1) (g3.same S1) hsj (by show gs M 0 _ _ = _; rw [hg, if_pos e22]) eU hev h5
            have LL := F1.trans y1
            rcases y2 with ⟨j2, u1, u2, u3, u4, u5⟩ | g
            · exact semi m4 j j2 _ σ5 (by omega) rfl (F.fr LL) u2 u3 u4 u5 (by rw [LL.2 110 _ (by omega) (by omega)]; exact v1) (by rw [LL.2 111 _ (by omega) (by omega)]; exact v2)
            · exact dd235 m4 _ _ σ5 g
      -- the side and the kind
      have kinds : ∀ (m2 : Nat) (σ3 : Sg), FRr σ σ3 → PRo TT (i + 1 + 1) (evs TT (i + 1 + 1)) 0 σ3 → Pl PRG m2 d 202 77 [(0, .ref 97), (1, .int (nI (6 * sd + D.2.2.1.length))), (2, .int (nI (i + 1)))] [] σ3 (fun _ σ' => onR TT i sd σ') := by
        intro m2 σ3 g1 g3
        refine Pl.pos (fun m3 _ => p_202_77 σ3 _ _ (fun w2 σ4 h4 _ => ?_))
        rw [nI_clamp (by omega)]
        obtain ⟨b1', b2'⟩ := rc194 (q := (8, 0)) hW h4 (hR.fr g1) g3 hs2 (fun e => if_pos e) (fun e => if_neg e) (fun x hx => (evs_lt hx).1)
        have F : FKr (6 * sd + D.2.2.1.length) σ (s1 σ4 110 (6 * sd + D.2.2.1.length) w2) := (FKr.of (g1.trans b1')).put (Or.inl rfl)
        have S : sameR σ4 (s1 σ4 110 (6 * sd + D.2.2.1.length) w2) := (sameR.refl σ4).put (by omega)
        rcases b2' with ⟨ew, u1, u2, u3⟩ | g
        · have hs3 := pr_next (q := (8, 0)) hs2 (if_pos u1) u2
          rw [show updD ((7, 0), i + 1, D.2).1.1 (kdT TT (i + 1 + 1)) (i + 1 + 1) ((7, 0), i + 1, D.2).2 = (i + 1, D.2) from upd_id (m := 7) (by decide) (by omega) (fun e => absurd (show (7 : Nat) = 25 from e.1) (by decide))] at hs3
          have e3 : evs TT (i + 1 + 1 + 1) = orE (evs TT (i + 1 + 1)) (bif off (vlT TT (i + 1 + 1)) 0 2 then some (5, i + 1 + 1) else none) := by rw [evs_step hs2, evO_off (b := off (vlT TT (i + 1 + 1)) 0 2) rfl]
          rw [← e3] at u3
          have hkd := (kd_le hW hs3).1
          have hat := RQ_at hW (hR.fr (g1.trans b1')) hs3 u3.2.1
          have hrk := (by decide +kernel : ∀ k, k < 37 → ((18 ≤ k ∧ k ≤ 20) ↔ (¬ nI (rk k) < (23 : Int32) ∧ nI (rk k) ≤ (25 : Int32))) ∧ (18 ≤ k ∧ k ≤ 20 → nI (rk k) - (23 : Int32) = nI (k - 18))) (kdT TT (i + 1 + 1 + 1)) (by omega)
          have no : ¬ (18 ≤ kdT TT (i + 1 + 1 + 1) ∧ kdT TT (i + 1 + 1 + 1) ≤ 20) → Pl PRG m3 d 202 124 [(0, .ref 97), (1, .int (nI (6 * sd + D.2.2.1.length))), (2, .int (nI (i + 1)))] [] (s1 σ4 110 (6 * sd + D.2.2.1.length) w2) (fun _ σ' => onR TT i sd σ') := fun hn => Pl.pos (fun m4 _ => p_202_124 _ _ _ (fun σ5 h5 => by
            obtain ⟨k1, k2'⟩ := rc190 (f := 1) hW h5 (hR.fk F) (u3.same S) (stop_f hs3 (if_neg hn)) (by decide)
            exact dd129 m4 _ _ σ5 k2'))
          refine ⟨fun c => by rw [u3.2.2.1] at c; exact absurd c (by decide), fun _ _ => ?_⟩
          rw [u3.1, nI_clamp (by have := u3.2.1; omega), hat.1]
          refine ⟨fun c => no (fun e => (hrk.1.mp e).1 c), fun c _ => ⟨fun c2 => ?_, fun c2 => no (fun e => c2 (hrk.1.mp e).2)⟩⟩
          have hy : 18 ≤ kdT TT (i + 1 + 1 + 1) ∧ kdT TT (i + 1 + 1 + 1) ≤ 20 := hrk.1.mpr ⟨c, c2⟩
          refine Pl.pos (fun m4 _ => p_202_129 _ _ _ ⟨fun _ _ _ σ5 h5 _ w3 σ6 h6 _ => ?_, fun c => absurd (by rw [s1_off (by omega), u3.2.2.1]; decide) c⟩)
          have ek : (s1 σ4 110 (6 * sd + D.2.2.1.length) w2).1 100 ((s1 σ4 110 (6 * sd + D.2.2.1.length) w2).1 97 11).toNatClampNeg - (23 : Int32) = nI (kdT TT (i + 1 + 1 + 1) - 18) := by
            rw [s1_off (by omega), s1_off (by omega), u3.1, nI_clamp (by have := u3.2.1; omega), hat.1]
            exact hrk.2 hy
          rw [ek, nI_clamp (by omega)] at h5
          have F2 : FKr (6 * sd + D.2.2.1.length) σ (s1 (s1 σ4 110 (6 * sd + D.2.2.1.length) w2) 111 (6 * sd + D.2.2.1.length) (nI (kdT TT (i + 1 + 1 + 1) - 18))) := F.put (Or.inr rfl)
          have S2 : sameR σ4 (s1 (s1 σ4 110 (6 * sd + D.2.2.1.length) w2) 111 (6 * sd + D.2.2.1.length) (nI (kdT TT (i + 1 + 1 + 1) - 18))) := S.put (by omega)
          obtain ⟨l1, l2⟩ := rc192 (q := (9, 0)) hW h5 (hR.fk F2) (u3.same S2) hs3 (if_pos hy)
          rcases l2 with ⟨t1, t2⟩ | g
          · have hs4 := pr_next (q := (9, 0)) hs3 (if_pos hy) t1
            rw [show updD ((8, 0), i + 1, D.2).1.1 (kdT TT (i + 1 + 1 + 1)) (i + 1 + 1 + 1) ((8, 0), i + 1, D.2).2 = (i + 1, D.2) from upd_id (m := 8) (by decide) (by omega) (fun e => absurd (show (8 : Nat) = 25 from e.1) (by decide))] at hs4
            have e4 : evs TT (i + 1 + 1 + 1 + 1) = evs TT (i + 1 + 1 + 1) := by rw [evs_step hs3]; exact orE_none _
            rw [← e4] at t2
            have F3 : FRr σ5 (s1 σ5 112 ((2 : Int32) * nI (6 * sd + D.2.2.1.length)).toNatClampNeg (σ5.1 97 30)) := (FRr.refl σ5).arr (by omega)
            have S3 : sameR σ5 (s1 σ5 112 ((2 : Int32) * nI (6 * sd + D.2.2.1.length)).toNatClampNeg (σ5.1 97 30)) := (sameR.refl σ5).put (by omega)
            have LL := l1.trans F3
            have FF := F2.fr LL
            have V1 : ∀ σ7 : Sg, FRr (s1 (s1 σ4 110 (6 * sd + D.2.2.1.length) w2) 111 (6 * sd + D.2.2.1.length) (nI (kdT TT (i + 1 + 1 + 1) - 18))) σ7 → σ7.1 110 (6 * sd + D.2.2.1.length) = vlT TT (i + 1 + 1) ∧ σ7.1 111 (6 * sd + D.2.2.1.length) = nI (kdT TT (i + 1 + 1 + 1) - 18) := fun σ7 hf => ⟨by rw [hf.2 110 _ (by omega) (by omega), s1_off (by omega), s1_on]; exact ew, by rw [hf.2 111 _ (by omega) (by omega), s1_on]⟩
            obtain ⟨rfl, e6⟩ := rc189 (b := 21) hW h6 (hR.fk FF) (t2.same S3) hs4 (by decide)
            refine ⟨fun z => ?_, fun z σ8 h8 => ?_⟩
            · rcases e6 with ⟨-, n21⟩ | ⟨e, -⟩
              · have vv := V1 _ LL
                exact says m4 (i + 1 + 1 + 1 + 1) 9 _ (by omega) (by decide) FF hs4 rfl (fun len => if_neg n21) (t2.same S3) vv.1 vv.2
              · rw [e] at z; exact absurd z (by decide)
            · rcases e6 with ⟨e, -⟩ | ⟨-, e21⟩
              · exact absurd e z
              · obtain ⟨y1, y2⟩ := cond_r hW (b := 10) (Or.inl rfl) (hR.fk FF) (t2.same S3) hs4 (if_pos e21) (upd_id (m := 9) (by decide) (by omega) (fun e => absurd (show (9 : Nat) = 25 from e.1) (by decide))) rfl h8
                rcases y2 with ⟨j2, v1, v2, v3, v4, v5⟩ | g
                · have vv := V1 _ (LL.trans y1)
                  refine says m4 j2 15 σ8 (by omega) (by decide) (FF.fr y1) v2 rfl (fun len => ?_) v3 vv.1 vv.2
                  show ga 15 14 0 (kdT TT j2) _ = _
                  unfold ga
                  rw [if_neg v4, if_neg (fun e => absurd e.2 (by decide)), if_pos rfl, if_neg v5]
                · exact dd184 m4 _ _ σ8 g
          · have g' : FAr TT (s1 σ5 112 ((2 : Int32) * nI (6 * sd + D.2.2.1.length)).toNatClampNeg (σ5.1 97 30)) := g.same ((sameR.refl σ5).put (by omega))
            obtain ⟨rfl, rfl⟩ := rd189 h6 g'
            exact ⟨fun _ => dd184 m4 _ _ _ g', fun c => absurd rfl c⟩
        · have g' := g.same S
          exact ⟨fun _ => dd124 m3 _ _ _ g', fun c => absurd g.pos.2.1 c⟩
      -- the names ahead
      have loop : ∀ (m2 q : Nat) (σ3 : Sg), q ≤ D.2.2.1.length → FRr σ σ3 → PRo TT (i + 1 + 1) (orE (evs TT (i + 1)) (bif twice TT (i + 1) D.2.2.1 q then some (3, i + 1) else none)) 0 σ3 → Pl PRG m2 d 202 34 [(0, .ref 97), (1, .int (nI (6 * sd + D.2.2.1.length))), (2, .int (nI (i + 1))), (3, .int (nI q))] [] σ3 (fun _ σ' => onR TT i sd σ') := by
        intro m2
        induction m2 using Nat.strongRecOn with
        | _ m2 ih =>
          intro q σ3 hq g1 g3
          have q20 : σ3.1 97 20 = nI D.2.2.1.length := by rw [g1.2 97 20 (by unfold mfR; omega) (by omega)]; exact h20
          refine Pl.pos (fun m3 hm3 => p_202_34 σ3 _ _ _ ?_)
          rw [q20]
          refine ⟨fun c => ?_, fun c => ⟨fun _ _ _ => ?_, fun c2 => absurd g3.2.2.1 c2⟩⟩
          · have hq2 := (nI_leI (a := D.2.2.1.length) (b := q) (by omega) (by omega)).mp c
            have e : q = D.2.2.1.length := by omega
            rw [e, ← hE] at g3
            exact kinds m3 σ3 g1 g3
          · have hq2 : q < D.2.2.1.length := nle_of (by omega) (by omega) c
            have hx : D.2.2.1[q]? = some D.2.2.1[q] := List.getElem?_eq_getElem hq2
            have st := twice_s (TT := TT) (i := i + 1) hx
            have hmem : D.2.2.1[q] ∈ D.2.2.1 := List.getElem_mem hq2
            have nv : σ3.2 103 (i + 1) = n27T TT (i + 1) := (RQ_at hW (hR.fr g1) hs1 (by omega)).2.2.2 k2
            rw [nI_clamp (n := q) (by omega), nI_clamp (n := i + 1) (by omega), nv, g1.1, hN q _ hx]
            have next : ∀ (m4 : Nat), m4 < m2 → ∀ (σ5 : Sg), FRr σ σ5 → PRo TT (i + 1 + 1) (orE (evs TT (i + 1)) (bif twice TT (i + 1) D.2.2.1 (q + 1) then some (3, i + 1) else none)) 0 σ5 → Pl PRG m4 d 202 71 [(0, .ref 97), (1, .int (nI (6 * sd + D.2.2.1.length))), (2, .int (nI (i + 1))), (3, .int (nI q))] [] σ5 (fun _ σ' => onR TT i sd σ') := fun m4 hm4 σ5 q1 q2 => Pl.pos (fun m5 hm5 => p_202_71 σ5 _ _ _ (by
              rw [nI_1]
              exact ih m5 (by omega) (q + 1) σ5 (by omega) q1 q2))
            refine ⟨fun c2 σ5 h5 => next m3 (by omega) σ5 ?_ ?_, fun c2 => next m3 (by omega) σ3 g1 ?_⟩
            all_goals skip
            · have ee := (lg_cmp_eq _ _).mp c2
              obtain ⟨y1, y2, y3⟩ := rc191 (f := 3) hW h5 (hR.fr g1) g3.2.2.2.1 g3.2.2.1 hs1 (by omega) (by decide) (fun x hx' => by
                cases hv : evs TT (i + 1) with
                | some e =>
                  rw [hv] at hx'
                  cases hx'
                  exact Or.inl (evs_lt hv).1
                | none =>
                  rw [hv] at hx'
                  cases htw : twice TT (i + 1) D.2.2.1 q with
                  | true => rw [htw] at hx'; cases hx'; exact Or.inr ⟨rfl, Nat.le_refl _⟩
                  | false => rw [htw] at hx'; cases hx')
              exact g1.trans y1
            · have ee := (lg_cmp_eq _ _).mp c2
              obtain ⟨y1, y2, y3⟩ := rc191 (f := 3) hW h5 (hR.fr g1) g3.2.2.2.1 g3.2.2.1 hs1 (by omega) (by decide) (fun x hx' => by
                cases hv : evs TT (i + 1) with
                | some e =>
                  rw [hv] at hx'
                  cases hx'
                  exact Or.inl (evs_lt hv).1
                | none =>
                  rw [hv] at hx'
                  cases htw : twice TT (i + 1) D.2.2.1 q with
                  | true => rw [htw] at hx'; cases hx'; exact Or.inr ⟨rfl, Nat.le_refl _⟩
                  | false => rw [htw] at hx'; cases hx')
              rw [st, decide_eq_true ((tw_eq hW (hnm _ hmem).2 hin (hnm _ hmem).1 k2).mpr ee)]
              have := or_two (evs TT (i + 1)) (twice TT (i + 1) D.2.2.1 q) true (3, i + 1)
              rw [← this]
              exact ⟨by rw [y3 11 (by decide) (by decide)]; exact g3.1, g3.2.1, by rw [y3 13 (by decide) (by decide)]; exact g3.2.2.1, y2, by rw [y3 12 (by decide) (by decide)]; exact g3.2.2.2.2⟩
            · have ee : ¬ n32T TT D.2.2.1[q].1 = n32T TT (i + 1) := fun e => c2 ((lg_cmp_eq _ _).mpr ((tw_eq hW (hnm _ hmem).2 hin (hnm _ hmem).1 k2).mp e))
              rw [st, decide_eq_false ee, Bool.or_false]
              exact g3
      refine loop m 0 σ2 (by omega) (f1.trans b1) ?_
      show PRo TT (i + 1 + 1) (orE (evs TT (i + 1)) none) 0 σ2
      rw [orE_none]
      exact c4
    · exact dd34 m _ _ _ σ2 g
  · obtain ⟨k1, k2⟩ := rd193 h2 g
    exact dd34 m _ _ _ σ2 k2
