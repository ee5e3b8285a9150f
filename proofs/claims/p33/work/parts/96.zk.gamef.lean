/-! which customs apply to the cards of a game, which are lies: the reference -/
theorem and1_r : ∀ p, p < 4 → (nI p - nI p / 2 * 2 : Int32) = nI p &&& 1 := by decide
theorem lyF_set {PP : PPt} {V : Nat → Int32} {a set : Int32} : ∀ k, k ≤ 32 → lyF PP V (a &&& set) k = lyF PP V a k &&& set := by
  intro k
  induction k with
  | zero =>
    intro _
    show (0 : Int32) = 0 &&& set
    apply bt_ext
    intro i _
    rw [bt_and, bt_0, Bool.false_and]
  | succ k ih =>
    intro hk
    have ih' := ih (by omega)
    show (if (bt (a &&& set) k && !whB V (PP k).2) = true then lyF PP V (a &&& set) k ||| ((1 : Int32) <<< (nI k &&& 31)) else lyF PP V (a &&& set) k) = (if (bt a k && !whB V (PP k).2) = true then lyF PP V a k ||| ((1 : Int32) <<< (nI k &&& 31)) else lyF PP V a k) &&& set
    rw [bt_and, ih']
    cases ha : bt a k with
    | false => rw [Bool.false_and, Bool.false_and, if_neg (by decide), if_neg (by decide)]
    | true =>
      cases hw : whB V (PP k).2 with
      | true => rw [Bool.not_true, Bool.and_false, Bool.and_false, if_neg (by decide), if_neg (by decide)]
      | false =>
        rw [Bool.not_false, Bool.and_true, Bool.and_true, Bool.true_and, if_pos rfl]
        cases hs : bt set k with
        | true =>
          rw [if_pos rfl]
          apply bt_ext
          intro i hi
          rw [bt_and, bt_or, bt_or, bt_and, one_bt k (by omega) i hi]
          cases e : Nat.beq i k with
          | true =>
            have := Nat.eq_of_beq_eq_true e
            subst this
            rw [hs, Bool.or_true, Bool.or_true]; rfl
          | false => rw [Bool.or_false, Bool.or_false]
        | false =>
          rw [if_neg (by decide)]
          apply bt_ext
          intro i hi
          rw [bt_and, bt_and, bt_or, one_bt k (by omega) i hi]
          cases e : Nat.beq i k with
          | true =>
            have := Nat.eq_of_beq_eq_true e
            subst this
            rw [hs, Bool.and_false, Bool.and_false]
          | false => rw [Bool.or_false]
section Fg
variable {s r m n nc lv : Nat} {t x w ld set : Int32} {D C W K S : Nat → Int32} {PP : PPt} {σ σ1 : Sg}
theorem apF_hi {V : Nat → Int32} {kd sd : Int32} : ∀ k, k ≤ 32 → ∀ i, k ≤ i → bt (apF K S PP V kd sd k) i = false := by
  intro k
  induction k with
  | zero => intro _ i _; exact bt_0 i
  | succ k ih =>
    intro hk i hi
    show bt (if apB K S PP V kd sd k = true then apF K S PP V kd sd k ||| ((1 : Int32) <<< (nI k &&& 31)) else apF K S PP V kd sd k) i = false
    rcases Nat.lt_or_ge i 32 with g | g
    · split
      · rw [bt_or, ih (by omega) i (by omega), one_bt k (by omega) i g]
        cases e : Nat.beq i k with
        | true => have := Nat.eq_of_beq_eq_true e; omega
        | false => rfl
      · exact ih (by omega) i (by omega)
    · exact bt_big _ g
theorem al_bt : ∀ k, k < 7 → ∀ i, i < 32 → bt (((1 : Int32) <<< (nI k &&& 31)) - 1) i = decide (i < k) := by decide +kernel
theorem apF_al {V : Nat → Int32} {kd sd : Int32} (h6 : nc ≤ 6) : apF K S PP V kd sd nc &&& (((1 : Int32) <<< (nI nc &&& 31)) - 1) = apF K S PP V kd sd nc := by
  apply bt_ext
  intro i hi
  rw [bt_and, al_bt nc (by omega) i hi]
  rcases Nat.lt_or_ge i nc with g | g
  · rw [decide_eq_true g, Bool.and_true]
  · rw [apF_hi nc (by omega) i g, Bool.false_and]
def jM (s r : Nat) (t : Int32) (lv nc : Nat) (K S : Nat → Int32) (PP : PPt) (σ : Sg) : Prop := LR s r t lv σ ∧ cpR lv nc PP σ ∧ lcR lv nc K S σ
theorem rG.ja (h : rG D ld C W m σ) (hf : jA σ σ1) : rG D ld C W m σ1 := by
  obtain ⟨h1, h2, h3, h4, h5⟩ := h
  exact ⟨(hf.1 97 45 (by decide) (by decide) (by decide)).trans h1, (hf.1 97 47 (by decide) (by decide) (by decide)).trans h2, (hf.1 97 48 (by decide) (by decide) (by decide)).trans h3, fun p hp => (hf.1 125 p (by decide) (by decide) (by omega)).trans (h4 p hp), fun i hi => ⟨(hf.1 126 i (by decide) (by decide) (by omega)).trans (h5 i hi).1, (hf.1 127 i (by decide) (by decide) (by omega)).trans (h5 i hi).2⟩⟩
theorem jM.ja (h : jM s r t lv nc K S PP σ) (hf : jA σ σ1) : jM s r t lv nc K S PP σ1 := ⟨h.1.ja hf, h.2.1.ja hf, h.2.2.ja hf⟩
theorem m255 {i : Nat} (h : RCx PRG n 255 [.ref 97, .int (nI i), .int set] σ (some (.int w)) σ1) (hL : lOK s r t) (hM : jM s r t lv nc K S PP σ) (hP : gPP nc PP) (hG : rG D ld C W m σ) (hV : gV s r t D ld C W m) (hi : i < m) : jA σ σ1 ∧ w = apI r nc K S PP C W i &&& set ∧ ∀ j, j < 14 → σ1.1 123 j = vaX r (C i) (ldG r C i) (nI (i / 4)) (bfF r C W (W i) (suF r (C i)) i) j := by
  have hm := hV.2.1
  have hN := hL.2.2.2.2.1
  obtain ⟨w', ew, hq⟩ := h.by (Q := fun v s' => ∃ w : Int32, v = some (.int w) ∧ (jA σ s' ∧ w = apI r nc K S PP C W i &&& set ∧ ∀ j, j < 14 → s'.1 123 j = vaX r (C i) (ldG r C i) (nI (i / 4)) (bfF r C W (W i) (suF r (C i)) i) j)) (fun m2 d => p_255_0 σ (nI i) set (fun _ w2 σ2 h2 _ w4 σ4 h4 w6 σ6 h6 w8 σ8 h8 => by
    obtain ⟨rfl, rfl⟩ := m240 h2 hL hM.1 hG hV.2.2.1 hi (by omega)
    obtain ⟨rfl, rfl⟩ := m232 h4 hM.1 hG (by omega) (by omega)
    obtain ⟨rfl, rfl⟩ := m241 h6 hM.1 hG hi (by omega)
    rw [nI_clamp (n := i) (by omega), (hG.2.2.2.2 i hi).1, (hG.2.2.2.2 i hi).2, div_4 (by omega)] at h8
    obtain ⟨f8, e8, v8⟩ := m253 h8 hP hM.2.1 hM.2.2 hM.1
    obtain ⟨p, hp, ep⟩ := hV.2.2.2.2.1 i hi
    refine ⟨_, rfl, f8, ?_, v8⟩
    rw [e8]
    unfold apI
    rw [ep, and1_r p hp]))
  cases ew
  exact hq
/-- the sums of a card played -/
theorem m254g {i : Nat} {a hd : Int32} (h : RCx PRG n 254 [.ref 97, .int (a &&& set), .int (C i), .int hd] σ (some (.int w)) σ1) (hL : lOK s r t) (hM : jM s r t lv nc K S PP σ) (hP : gPP nc PP) (hV : gV s r t D ld C W m) (hi : i < m) (hv : ∀ j, j < 14 → σ.1 123 j = vaX r (C i) (ldG r C i) (nI (i / 4)) (bfF r C W (W i) (suF r (C i)) i) j) : jA σ σ1 ∧ w = lyF PP (vsX s r t (C i) (ldG r C i) (nI (i / 4)) (bfF r C W (W i) (suF r (C i)) i) hd) a nc &&& set := by
  obtain ⟨c, hc, ec⟩ := hV.2.2.1 i hi
  have h6 := hP.1
  have := hL.2.2.2.2.1
  rw [ec] at h hv ⊢
  obtain ⟨f, e⟩ := m254 h hP hM.2.1 hM.2.2 hL hM.1 hc (fun j hj => hv j (by omega))
  exact ⟨f, by rw [e, lyF_set nc (by omega)]⟩
/-- would it be a lie -/
theorem m300 {c p : Nat} (h : RCx PRG n 300 [.ref 97, .int (nI c), .int (((1 : Int32) <<< (nI nc &&& 31)) - 1)] σ (some (.int w)) σ1) (hL : lOK s r t) (hM : jM s r t lv nc K S PP σ) (hP : gPP nc PP) (hG : rG D ld C W m σ) (hV : gV s r t D ld C W m) (hc : c < s * r) (hp : p < 4) (ep : tnF (s * r) r t ld C W m = nI p) : jA σ σ1 ∧ w = lyF PP (vsX s r t (nI c) (ldG r C m) (nI (m / 4)) (bfF r C W (nI p) (suF r (nI c)) m) (hnF D C W p m)) (apF K S PP (vaX r (nI c) (ldG r C m) (nI (m / 4)) (bfF r C W (nI p) (suF r (nI c)) m)) (kdG r (nI c) (ldG r C m)) (nI p &&& 1) nc) nc := by
  have hm := hV.2.1
  have hN := hL.2.2.2.2.1
  have h6 := hP.1
  obtain ⟨w', ew, hq⟩ := h.by (Q := fun v s' => ∃ w : Int32, v = some (.int w) ∧ (jA σ s' ∧ w = lyF PP (vsX s r t (nI c) (ldG r C m) (nI (m / 4)) (bfF r C W (nI p) (suF r (nI c)) m) (hnF D C W p m)) (apF K S PP (vaX r (nI c) (ldG r C m) (nI (m / 4)) (bfF r C W (nI p) (suF r (nI c)) m)) (kdG r (nI c) (ldG r C m)) (nI p &&& 1) nc) nc)) (fun n1 d => p_300_0 σ (nI c) _ (fun w2 σ2 h2 w4 σ4 h4 => by
    obtain ⟨rfl, rfl⟩ := m230 h2 hL hM.1 hG hV
    rw [hG.2.2.1] at h4
    obtain ⟨rfl, rfl⟩ := m232 h4 hM.1 hG (Nat.le_refl m) (by omega)
    rw [ep]
    have loop : ∀ (n2 j : Nat), j ≤ m → Pl PRG n2 d 300 48 [(0, .ref 97), (1, .int (nI c)), (2, .int (((1 : Int32) <<< (nI nc &&& 31)) - 1)), (3, .int (nI p)), (4, .int (ldG r C m)), (5, .int (kdG r (nI c) (ldG r C m))), (6, .int (bfF r C W (nI p) (suF r (nI c)) j)), (7, .int (nI j))] [] σ4 (fun v s' => ∃ w : Int32, v = some (.int w) ∧ (jA σ4 s' ∧ w = lyF PP (vsX s r t (nI c) (ldG r C m) (nI (m / 4)) (bfF r C W (nI p) (suF r (nI c)) m) (hnF D C W p m)) (apF K S PP (vaX r (nI c) (ldG r C m) (nI (m / 4)) (bfF r C W (nI p) (suF r (nI c)) m)) (kdG r (nI c) (ldG r C m)) (nI p &&& 1) nc) nc)) := by
      intro n2
      induction n2 using Nat.strongRecOn with
      | _ n2 ih =>
        intro j hj
        refine Pl.pos (fun n3 h3 => p_300_48 σ4 (nI c) _ (nI p) _ _ _ (nI j) ?_)
        rw [hG.2.2.1]
        refine ⟨fun cc w6 σ6 h6' w8 σ8 h8 w10 σ10 h10 => ?_, fun cc => ?_⟩
        · have ek : j = m := by
            have := (nI_leI (a := m) (b := j) (by omega) (by omega)).mp cc
            omega
          subst ek
          rw [div_4 (by omega)] at h6'
          obtain ⟨f6, e6, v6⟩ := m253 h6' hP hM.2.1 hM.2.2 hM.1
          have M6 := hM.ja f6
          obtain ⟨rfl, rfl⟩ := m226 h8 (hG.ja f6) (by omega) hp
          obtain ⟨f10, e10⟩ := m254 h10 hP M6.2.1 M6.2.2 hL M6.1 hc (fun i hi => v6 i (by omega))
          refine ⟨_, rfl, f6.trans f10, ?_⟩
          rw [e10, e6, apF_al h6, and1_r p hp]
        · have hlt : j < m := nle_of (by omega) (by omega) cc
          have at100 : ∀ (n4 : Nat), n4 < n2 → ∀ y, y = bfF r C W (nI p) (suF r (nI c)) (j + 1) → Pl PRG n4 d 300 100 [(0, .ref 97), (1, .int (nI c)), (2, .int (((1 : Int32) <<< (nI nc &&& 31)) - 1)), (3, .int (nI p)), (4, .int (ldG r C m)), (5, .int (kdG r (nI c) (ldG r C m))), (6, .int y), (7, .int (nI j))] [] σ4 (fun v s' => ∃ w : Int32, v = some (.int w) ∧ (jA σ4 s' ∧ w = lyF PP (vsX s r t (nI c) (ldG r C m) (nI (m / 4)) (bfF r C W (nI p) (suF r (nI c)) m) (hnF D C W p m)) (apF K S PP (vaX r (nI c) (ldG r C m) (nI (m / 4)) (bfF r C W (nI p) (suF r (nI c)) m)) (kdG r (nI c) (ldG r C m)) (nI p &&& 1) nc) nc)) := fun n4 hn4 y hy => Pl.pos (fun n5 h5 => p_300_100 σ4 (nI c) _ (nI p) _ _ y (nI j) (by
            rw [hy, nI_1]
            exact ih n5 (by omega) (j + 1) (by omega)))
          rw [nI_clamp (n := j) (by omega), (hG.2.2.2.2 j hlt).1, (hG.2.2.2.2 j hlt).2]
          have u : bfF r C W (nI p) (suF r (nI c)) (j + 1) = if W j = nI p ∧ suF r (C j) = suF r (nI c) then rkG r (C j) else bfF r C W (nI p) (suF r (nI c)) j := rfl
          refine fun _ => ⟨fun c1 _ w8 σ8 h8 w10 σ10 h10 => ?_, fun c1 => at100 n3 (by omega) _ (by rw [u, if_neg (fun e => c1 e.1)])⟩
          obtain ⟨rfl, rfl⟩ := m212 h8 hM.1
          obtain ⟨rfl, rfl⟩ := m212 h10 hM.1
          refine ⟨fun c2 _ w12 σ12 h12 => ?_, fun c2 => at100 n3 (by omega) _ (by rw [u, if_neg (fun e => c2 e.2)])⟩
          rw [(hG.2.2.2.2 j hlt).1] at h12
          obtain ⟨rfl, rfl⟩ := m213 h12 hM.1
          exact at100 n3 (by omega) _ (by rw [u, if_pos ⟨c1, c2⟩])
    have kd : ∀ q, kdG r (nI c) (ldG r C m) = q → Pl PRG n1 d 300 48 [(0, .ref 97), (1, .int (nI c)), (2, .int (((1 : Int32) <<< (nI nc &&& 31)) - 1)), (3, .int (nI p)), (4, .int (ldG r C m)), (5, .int q), (6, .int (-1 : Int32)), (7, .int (0 : Int32))] [] σ4 (fun v s' => ∃ w : Int32, v = some (.int w) ∧ (jA σ4 s' ∧ w = lyF PP (vsX s r t (nI c) (ldG r C m) (nI (m / 4)) (bfF r C W (nI p) (suF r (nI c)) m) (hnF D C W p m)) (apF K S PP (vaX r (nI c) (ldG r C m) (nI (m / 4)) (bfF r C W (nI p) (suF r (nI c)) m)) (kdG r (nI c) (ldG r C m)) (nI p &&& 1) nc) nc)) := by
      intro q hq
      rw [← hq]
      exact loop n1 0 (Nat.zero_le _)
    refine ⟨fun c1 => kd 0 ?_, fun c1 w6 σ6 h6' => ?_⟩
    · unfold kdG
      rw [c1, if_neg (by decide)]
    · obtain ⟨rfl, rfl⟩ := m212 h6' hM.1
      have hge : 0 ≤ ldG r C m := by
        by_cases c4 : m % 4 = 0
        · exact absurd (if_pos c4) c1
        · obtain ⟨u, hu, eu⟩ := ld_ge hL hV.2.2.1 c4
          rw [eu]
          exact nI_pos' (by have := hL.2.1; omega)
      refine ⟨fun c2 => kd 1 ?_, fun c2 => kd 2 ?_⟩
      · unfold kdG
        rw [if_pos hge, if_pos c2]
      · unfold kdG
        rw [if_pos hge, if_neg c2]))
  cases ew
  exact hq
end Fg
