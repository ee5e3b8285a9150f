/-! read, the reference: all programs of a text without fault -/
def FRq (σ σ1 : Sg) : Prop := σ1.1 97 37 = σ.1 97 37 ∧ σ1.1 97 30 = σ.1 97 30 ∧ σ1.1 97 20 = σ.1 97 20 ∧ ∀ q x, 112 ≤ q → q ≤ 121 → σ1.1 q x = σ.1 q x
theorem FRq.refl (σ : Sg) : FRq σ σ := ⟨rfl, rfl, rfl, fun _ _ _ _ => rfl⟩
theorem FRq.trans {σ σ1 σ2 : Sg} (h : FRq σ σ1) (h' : FRq σ1 σ2) : FRq σ σ2 := ⟨h'.1.trans h.1, h'.2.1.trans h.2.1, h'.2.2.1.trans h.2.2.1, fun q x a b => (h'.2.2.2 q x a b).trans (h.2.2.2 q x a b)⟩
theorem FRt.q {σ σ1 : Sg} (h : FRt σ σ1) : FRq σ σ1 := ⟨h.2 97 37 (by omega), h.2 97 30 (by omega), h.2 97 20 (by omega), fun q x a b => h.2 q x (by omega)⟩
theorem FRq.put {σ σ1 : Sg} {q k : Nat} {x : Int32} (h : FRq σ σ1) (hq : (98 ≤ q ∧ q < 112) ∨ 122 ≤ q ∨ (q = 97 ∧ (k = 17 ∨ k = 18 ∨ k = 45 ∨ k = 48 ∨ k = 86))) : FRq σ (s1 σ1 q k x) := ⟨by rw [s1_off (by omega)]; exact h.1, by rw [s1_off (by omega)]; exact h.2.1, by rw [s1_off (by omega)]; exact h.2.2.1, fun q' y a b => by rw [s1_off (by omega)]; exact h.2.2.2 q' y a b⟩
theorem emR.q {TT : List Tk} {i j sd : Nat} {σ σ1 : Sg} (h : emR TT i sd σ) (hT : FRq σ σ1) (hs : (psT TT j).2.2.2.2.2 = (psT TT i).2.2.2.2.2) : emR TT j sd σ1 := h.fr hT.1 hT.2.1 (fun _ _ _ => ⟨fun x _ => ⟨hT.2.2.2 112 x (by omega) (by omega), hT.2.2.2 113 x (by omega) (by omega)⟩, fun x _ => ⟨hT.2.2.2 120 x (by omega) (by omega), hT.2.2.2 121 x (by omega) (by omega)⟩, fun q x a b _ => hT.2.2.2 q x (by omega) (by omega)⟩) hs
theorem te195 {n : Nat} {x lo hi : Int32} {v : Option Value} {σ σ1 : Sg} (h : RCx PRG n 195 [.int x, .int lo, .int hi] σ v σ1) : σ1 = σ :=
  h.by (Q := fun _ σ' => σ' = σ) (fun m d => p_195_0 σ x lo hi ⟨fun _ => rfl, fun _ => ⟨fun _ => rfl, fun _ => rfl⟩⟩)
theorem te203 {n : Nat} {v : Option Value} {σ σ1 : Sg} (h : RCx PRG n 203 [.ref 97] σ v σ1) (hk : ¬ (σ.1 100 (σ.1 97 11).toNatClampNeg).toInt = 22) : FRq σ σ1 := by
  refine h.by (Q := fun _ σ' => FRq σ σ') (fun m d => p_203_0 σ (fun _ => ?_))
  have fin : ∀ m σ2, FRq σ σ2 → Pl PRG m d 203 213 [] [] σ2 (fun _ σ' => FRq σ σ') := fun m σ2 hf => Pl.pos (fun m2 _ => p_203_213 σ2 hf)
  have w120 : ∀ m x y σ2, FRq σ σ2 → Pl PRG m d 203 120 [(0, .ref 97), (1, .int x), (3, .int y)] [] σ2 (fun _ σ' => FRq σ σ') := fun m x y σ2 hf => Pl.pos (fun m2 _ => p_203_120 σ2 x y (fun σ3 h3 _ _ => fin m2 _ (((hf.trans (te193 h3).q).put (by omega)).put (by omega))))
  have w90 : ∀ m x y z σ2, FRq σ σ2 → Pl PRG m d 203 90 [(0, .ref 97), (1, .int x), (2, .int y), (3, .int z)] [] σ2 (fun _ σ' => FRq σ σ') := fun m x y z σ2 hf => Pl.pos (fun m2 _ => p_203_90 σ2 x y z (w120 m2 x z σ2 hf))
  have w114 : ∀ m x y z σ2, FRq σ σ2 → Pl PRG m d 203 114 [(0, .ref 97), (1, .int x), (2, .int y), (3, .int z)] [] σ2 (fun _ σ' => FRq σ σ') := fun m x y z σ2 hf => Pl.pos (fun m2 _ => p_203_114 σ2 x y z (fun σ3 h3 => w120 m2 x z σ3 (hf.trans (te191 h3).q)))
  refine ⟨fun _ σ2 h2 => fin m σ2 (te190 h2).q, fun _ σ2 h2 w4 σ4 h4 w6 σ6 h6 => ?_, fun _ σ2 h2 w4 σ4 h4 _ σ6 h6 => ?_, fun c => absurd c hk⟩
  · have k6 := ((te192 h2).q.trans (te194 h4).q).trans (te194 h6).q
    refine ⟨fun _ w8 σ8 h8 _ => ?_, fun _ => w90 m _ _ _ σ6 k6⟩
    have e8 := te195 h8
    subst e8
    refine ⟨fun _ => w90 m _ _ _ _ k6, fun _ w10 σ10 h10 _ => ?_⟩
    have e10 := te195 h10
    subst e10
    exact ⟨fun _ => w90 m _ _ _ _ k6, fun _ => ⟨fun _ => w114 m _ _ _ _ k6, fun _ => ⟨fun _ => w120 m _ _ _ k6, fun _ => w114 m _ _ _ _ k6⟩⟩⟩
  · exact fin m σ6 ((((te192 h2).q.trans (te194 h4).q).put (by omega)).trans (te193 h6).q)
theorem tell_re {TT : List Tk} (hW : WT TT) {iE : Nat} (hG : gtX TT iE) {n i sd : Nat} {D : DT} {σ σ1 : Sg} (hT : TIr TT i D sd σ) (hk0 : ¬ kdT TT i = 0) (hE : emR TT i sd σ) (h : RCx PRG n 203 [.ref 97] σ none σ1) : ∃ j D', i < j ∧ TIr TT j D' sd σ1 ∧ emR TT j sd σ1 := by
  rcases tell_r hW hT hk0 h with ⟨j, D', hij, hT'⟩ | g
  · refine ⟨j, D', hij, hT', ?_⟩
    obtain ⟨hR, hP, hs, hN, h20, hl6, hsd, h19, hPK, hTR, hCU, hnm⟩ := hT
    have hat := RQ_at hW hR hs hP.2.1
    have hkd := (kd_le hW hs).1
    have hrk := rk_15 (kdT TT i) (by omega)
    by_cases h17 : kdT TT i = 17
    · have hl : D.2.2.1.length < 6 := by
        rcases Nat.lt_or_ge D.2.2.1.length 6 with g | g
        · exact g
        · exfalso
          have : stopAt TT i 2 := stop_f hs (by
            rw [h17]
            show (if 6 ≤ D.2.2.1.length then _ else _) = _
            rw [if_pos g])
          exact absurd (stop_one this hG.1).2 (by decide)
      have hc := h.by (Q := fun _ σ' => cuO TT i sd σ') (fun m d => p_203_0 σ (fun _ => by
        rw [hP.1, nI_clamp (by have := hP.2.1; omega), hat.1, nI_toInt (by omega)]
        have e22 : rk (kdT TT i) = 22 := hrk.2.2.1.mpr h17
        refine ⟨fun c => by omega, fun c => by omega, fun c => by omega, fun c _ => ?_⟩
        rw [h19, nI_clamp (by omega), hCU.1]
        refine ⟨fun c6 => ?_, fun c6 => Pl.pos (fun m2 _ => p_203_194 σ ⟨fun _ σ2 h2 => Pl.pos (fun m3 _ => p_203_213 σ2 (cust_re hW hG ⟨hR, hP, hs, hN, h20, hl6, hsd, h19, hPK, hTR, hCU, hnm⟩ h17 hl hE h2)), fun c' => absurd hP.2.2.1 c'⟩)⟩
        exact absurd ((nI_eq (b := 6) (by omega) (by decide)).mp c6) (by omega)))
      obtain ⟨j2, x1, x2, x3⟩ := hc
      have ej : j2 = j := by
        have := x2.1
        rw [hT'.2.1.1] at this
        exact ((nI_eq (by have := hT'.2.1.2.1; omega) (by have := x2.2.1; omega)).mp this).symm
      subst ej
      exact x3
    · have hq := te203 h (by
        rw [hP.1, nI_clamp (by have := hP.2.1; omega), hat.1, nI_toInt (by omega)]
        have := hrk.2.2.1
        omega)
      refine hE.q hq (ps_same (by omega) hs hT'.2.2.1 ?_)
      have e20 := hT'.2.2.2.2.1
      rw [hq.2.2.1, h20] at e20
      exact (nI_eq (a := D.2.2.1.length) (b := D'.2.2.1.length) (by omega) (by have := hT'.2.2.2.2.2.1; omega)).mp e20
  · exact (hG.no g).elim
/-- read, of a text without fault -/
theorem read_re {n L lv iE : Nat} {w : Int32} {σ σ1 : Sg} {b : Nat → Int32} (hL : L ≤ 2000) (h0 : σ.1 97 2 = nI L) (hb : ∀ i, i < L → σ.1 98 i &&& 255 = b i) (hk : KWr σ) (hlv : σ.1 97 18 = nI lv) (hl2 : lv < 2) (hG : gtX (toks b L (L + 1) 0) iE) (h : RCx PRG n 204 [.ref 97] σ (some (.int w)) σ1) : emR (toks b L (L + 1) 0) iE (1 - lv) σ1 ∧ σ1.1 97 18 = nI (1 - lv) := by
  have hW : WT (toks b L (L + 1) 0) := toks_WT hL
  generalize hT : toks b L (L + 1) 0 = TT at hW hG ⊢
  refine h.by (Q := fun _ σ' => emR TT iE (1 - lv) σ' ∧ σ'.1 97 18 = nI (1 - lv)) (fun m d => p_204_0 σ ?_)
  rw [h0]
  have main : ∀ (m2 : Nat) (σ2 : Sg) (i : Nat) (D : DT), TIr TT i D (1 - lv) σ2 → emR TT i (1 - lv) σ2 → Pl PRG m2 d 204 144 [(0, .ref 97)] [] σ2 (fun _ σ' => emR TT iE (1 - lv) σ' ∧ σ'.1 97 18 = nI (1 - lv)) := by
    intro m2
    induction m2 using Nat.strongRecOn with
    | _ m2 ih =>
      intro σ2 i D hT2 hE
      refine Pl.pos (fun m3 hm3 => p_204_144 σ2 ⟨fun _ w2 σ3 h3 _ => ?_, fun c => absurd hT2.2.1.2.2.1 c⟩)
      obtain ⟨rfl, e3⟩ := rc189 (b := 0) hW h3 hT2.1 hT2.2.1 hT2.2.2.1 (by decide)
      refine ⟨fun z σ4 h4 => ?_, fun z => ?_⟩
      · rcases e3 with ⟨-, n0⟩ | ⟨e, -⟩
        · obtain ⟨j, D', j1, j2, j3⟩ := tell_re hW hG hT2 n0 hE h4
          exact ih m3 (by omega) σ4 j D' j2 j3
        · rw [e] at z; exact absurd z (by decide)
      · rcases e3 with ⟨e, -⟩ | ⟨-, hk0⟩
        · exact absurd e z
        · obtain ⟨hR, hP, hs, hN, h20, hl6, hsd, h19, hPK, hTR, hCU, hnm⟩ := hT2
          have st : stopAt TT i 0 := stop_f hs (by rw [hk0]; rfl)
          obtain ⟨ei, -⟩ := stop_one st hG.1
          subst ei
          have e15 : σ3.1 97 15 = 0 := by
            have p4 := hP.2.2.2.1
            rw [hG.2] at p4
            exact p4
          have z : (0 : Int32) ≤ 0 := by decide
          refine Pl.pos (fun m4 _ => p_204_166 σ3 ?_)
          rw [hP.2.2.1, e15]
          refine ⟨fun _ => ⟨fun _ => ⟨fun _ => ⟨fun _ => ⟨hE.q ?_ rfl, ?_⟩, fun c => absurd z c⟩, fun c => absurd z c⟩, fun c => absurd z c⟩, fun c => absurd z c⟩
          · exact (((((((FRq.refl σ3).put (by omega)).put (by omega)).put (by omega)).put (by omega)).put (by omega)).put (by omega)).put (by omega)
          · iterate 5 rw [s1_off (by omega)]
            rw [s1_on]; exact h19
  have loop : ∀ (m2 k : Nat) (σ2 : Sg), k ≤ L → σ2.1 97 4 = nI L → (∀ j, σ2.1 98 j = σ.1 98 j) → (∀ j, j < k → σ2.1 99 j &&& 255 = σ.1 98 j &&& 255) → KWr σ2 → rO lv σ σ2 → Pl PRG m2 d 204 10 [(0, .ref 97), (1, .int (nI k))] [] σ2 (fun _ σ' => emR TT iE (1 - lv) σ' ∧ σ'.1 97 18 = nI (1 - lv)) := by
    intro m2
    induction m2 with
    | zero => intro k σ2 _ _ _ _ _ _; exact Pl.zero
    | succ m2 ih =>
      intro k σ2 hkL h4 h98 h99 hk2 hO
      refine p_204_10 σ2 (nI k) ?_
      rw [h4]
      refine ⟨fun c σ3 h3 => ?_, fun c _ _ => ?_⟩
      · have hk' : k = L := by
          have := (nI_leI (a := L) (b := k) (by omega) (by omega)).mp c
          omega
        subst hk'
        have hO3 : rO lv σ σ3 := (hO.put (c := 97) (j := 2) (y := 0) (by unfold rIn; omega)).trans (frC h3)
        have e18 : σ3.1 97 18 = nI lv := (hO3 97 18 (Or.inr (Or.inr (Or.inr (Or.inr ⟨rfl, by omega⟩))))).trans hlv
        obtain ⟨hR, hk3⟩ := rc188 (b := b) (L := k) h3 ⟨hL, by rw [s1_off (by omega)]; exact h4, fun i hi => by rw [s1_off (by omega)]; exact (h99 i hi).trans (hb i hi)⟩ (fun j hj => hk2 j hj)
        rw [hT] at hR
        have esd : (1 : Int32) - σ3.1 97 18 = nI (1 - lv) := by rw [e18]; exact nI_subI (a := 1) (b := lv) (by omega)
        intro _ _ _ _
        have hsd : 1 - lv < 2 := by omega
        have m150 : (150 : Int32) * nI (1 - lv) = nI (150 * (1 - lv)) := by
          rcases (show lv = 0 ∨ lv = 1 by omega) with rfl | rfl <;> decide
        have m420 : (420 : Int32) * nI (1 - lv) = nI (420 * (1 - lv)) := by
          rcases (show lv = 0 ∨ lv = 1 by omega) with rfl | rfl <;> decide
        rw [esd, nI_clamp (by omega), m150, m420]
        refine main m2 _ 0 (0, 0, [], none, none) ⟨?_, ⟨?_, by omega, ?_, ?_, ?_⟩, rfl, ?_, ?_, by show (0 : Nat) ≤ 6; decide, hsd, ?_, ⟨?_, ?_⟩, ?_, ⟨?_, ?_⟩, ?_⟩ ⟨420 * (1 - lv), 150 * (1 - lv), ⟨s1_on, Nat.le_refl _⟩, by omega, ⟨?_, Nat.le_refl _⟩, by omega, fun q dd hd => ?_⟩
        · exact fun z t hz ht => by
            obtain ⟨p1, p2, p3, p4⟩ := hR z t hz ht
            refine ⟨?_, ?_, fun e => ?_, p4⟩
            · iterate 12 rw [s1_off (by omega)]
              exact p1
            · iterate 12 rw [s1_off (by omega)]
              exact p2
            · iterate 12 rw [s1_off (by omega)]
              exact p3 e
        · iterate 11 rw [s1_off (by omega)]
          exact s1_on
        · iterate 9 rw [s1_off (by omega)]
          exact s1_on
        · show (s1 _ 97 37 _).1 97 15 = 0
          iterate 8 rw [s1_off (by omega)]
          exact s1_on
        · iterate 10 rw [s1_off (by omega)]
          exact s1_on
        · intro q e he
          cases q <;> cases he
        · iterate 6 rw [s1_off (by omega)]
          exact s1_on
        · iterate 7 rw [s1_off (by omega)]
          exact s1_on
        · iterate 5 rw [s1_off (by omega)]
          exact s1_on
        · iterate 4 rw [s1_off (by omega)]
          exact s1_on
        · show (s1 _ 97 37 _).1 108 (1 - lv) = -1
          iterate 3 rw [s1_off (by omega)]
          exact s1_on
        · iterate 2 rw [s1_off (by omega)]
          exact s1_on
        · intro q e he
          cases q <;> cases he
        · intro e he
          cases he
        · rw [s1_off (by omega)]
          exact s1_on
        · have hd' : ([] : List (List Lt × List Lt))[q]? = some dd := hd
          cases hd'
      · have hk' : k < L := nle_of (by omega) (by omega) c
        rw [nI_clamp (by omega), nI_1]
        refine ih (k + 1) _ (by omega) (by rw [s1_off (by omega)]; exact h4) (fun j => by rw [s1_off (by omega)]; exact h98 j) (fun j hj => ?_) (fun j hj => hk2 j hj) (hO.put (by unfold rIn; omega))
        by_cases e : j = k
        · subst e
          rw [s1_on, nar_255, h98]
        · rw [s1_off (fun h => e h.2)]
          exact h99 j (by omega)
  exact loop m 0 _ (by omega) s1_on (fun j => by rw [s1_off (by omega)]) (fun j hj => absurd hj (Nat.not_lt_zero _)) (fun j hj => hk j hj) ((rO.refl σ).put (by unfold rIn; omega))
