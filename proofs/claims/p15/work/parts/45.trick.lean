/-! trick -/
def mu (a : Nat → Int) : Nat → Int
  | 0 => (5 - a 0) * 512
  | 1 => (5 - a 0) * 512 + (5 - a 1) * 64
  | 2 => (5 - a 0) * 512 + (5 - a 1) * 64 + (5 - a 2) * 8
  | _ => (5 - a 0) * 512 + (5 - a 1) * 64 + (5 - a 2) * 8 + (5 - a 3)
theorem mu_pos {a : Nat → Int} (h : ∀ j, j ≤ 3 → a j ≤ 3) (l : Nat) : 1 ≤ mu a l := by
  have h0 := h 0 (by omega)
  have h1 := h 1 (by omega)
  have h2 := h 2 (by omega)
  have h3 := h 3 (by omega)
  unfold mu
  split <;> omega
/-- at l it goes on: the place at l moves up -/
theorem mu_up {a b : Nat → Int} {l : Nat} (hl : l ≤ 3) (h : ∀ j, ¬ j = l → b j = a j) (hb : a l < b l) : mu b l < mu a l := by
  have h0 := h 0
  have h1 := h 1
  have h2 := h 2
  have h3 := h 3
  have : l = 0 ∨ l = 1 ∨ l = 2 ∨ l = 3 := by omega
  rcases this with rfl | rfl | rfl | rfl <;> unfold mu <;> simp at * <;> omega
theorem mu_down {a : Nat → Int} {l : Nat} (hl : l + 1 ≤ 3) (h : ∀ j, j ≤ 3 → a j ≤ 3) : mu a l < mu a (l + 1) := by
  have h1 := h 1 (by omega)
  have h2 := h 2 (by omega)
  have h3 := h 3 (by omega)
  have : l = 0 ∨ l = 1 ∨ l = 2 := by omega
  rcases this with rfl | rfl | rfl <;> unfold mu <;> simp <;> omega
theorem mu_push {a b c : Nat → Int} {l : Nat} (hl : l + 1 ≤ 3) (h : ∀ j, ¬ j = l → b j = a j) (hb : a l < b l) (hc : ∀ j, ¬ j = l + 1 → c j = b j) (hc1 : c (l + 1) = -1) : mu c (l + 1) < mu a l := by
  have h0 := h 0
  have h1 := h 1
  have h2 := h 2
  have c0 := hc 0
  have c1 := hc 1
  have c2 := hc 2
  have : l = 0 ∨ l = 1 ∨ l = 2 := by omega
  rcases this with rfl | rfl | rfl <;> unfold mu <;> simp at * <;> omega
/-- whoever is to lay a card has one -/
def HC (n : Nat) (σ : Sg) : Prop := ∀ j : Nat, j ≤ 3 → (σ.1 97 69).toInt ≤ j → ∃ k : Nat, (k : Int) < (σ.1 137 (plr n j)).toInt ∧ bt (σ.1 139 (plr n j)) k = true
def tInv (n l : Nat) (σ0 σ : Sg) : Prop :=
  (∀ j : Nat, j < l → 0 ≤ (σ.1 142 j).toInt ∧ ((σ0.1 97 69).toInt ≤ j → bt (σ0.1 139 (plr n j)) (σ.1 142 j).toNatClampNeg = true)) ∧
  (∀ j : Nat, j ≤ l → (j : Int) < (σ0.1 97 69).toInt → (σ.1 142 j).toInt ≤ 0) ∧
  (∀ j : Nat, j ≤ l → -1 ≤ (σ.1 143 j).toInt ∧ (σ.1 143 j).toInt ≤ bnd0 n σ0) ∧
  (HC n σ0 → 0 ≤ (σ.1 142 l).toInt → 0 ≤ (σ.1 143 l).toInt)
def trP (n : Nat) (σ0 : Sg) (w : Int32) (σ' : Sg) : Prop := Gl mdTrick σ0 σ' ∧ -1 ≤ w.toInt ∧ w.toInt ≤ bnd0 n σ0 ∧ (HC n σ0 → 0 ≤ w.toInt)
theorem dec_ex {x2 : Int32} {l : Nat} (h2 : x2.toInt = (l : Int)) (h : 1 ≤ l) (hl : l ≤ 3) : (x2 + (-1 : Int32)).toInt = ((l - 1 : Nat) : Int) ∧ inR ((x2 + (-1 : Int32)) + (1 : Int32)) 4 = true ∧ ((x2 + (-1 : Int32)) + (1 : Int32)).toNatClampNeg = l := by
  have e1 : (x2 + (-1 : Int32)).toInt = ((l - 1 : Nat) : Int) := by
    rw [add_lit (k := -1) h2 (by decide) (by unfold FL; omega) (by unfold FH; omega)]; omega
  have e2 : ((x2 + (-1 : Int32)) + (1 : Int32)).toInt = (l : Int) := by
    rw [add_lit (k := 1) e1 (by decide) (by unfold FL; omega) (by unfold FH; omega)]; omega
  exact ⟨e1, inR_ok (by rw [e2]; clear e1 e2; omega) (by rw [e2]; clear e1 e2; omega), cn_of e2⟩
theorem bnd0_nn {n : Nat} {σ : Sg} : 0 ≤ bnd0 n σ := by
  unfold bnd0
  split <;> omega
theorem trick_go {d : Nat} {x1 : Int32} {σ0 : Sg} {n : Nat} (h1 : x1.toInt = (n : Int)) (hn : n ≤ 3) (hp : pkOK σ0) (hT : TB σ0) (hm : mk15 σ0) : ∀ (m l : Nat) (x2 : Int32) (σ : Sg), x2.toInt = (l : Int) → l ≤ 3 → Gl mdTrick σ0 σ → tInv n l σ0 σ → (mu (fun j => (σ.1 142 j).toInt) l).toNat ≤ m → Rn PRG (d + 1 + 1 + 1) 278 16 [(0, .ref 97), (1, .int x1), (2, .int x2)] [] σ (fun v σ' => ∃ w : Int32, v = some (.int w) ∧ trP n σ0 w σ') := by
  have atr : ∀ {σ : Sg}, typed TYP σ → ∀ j, j ≤ 3 → -1 ≤ (σ.1 142 j).toInt ∧ (σ.1 142 j).toInt ≤ 3 := fun ht j hj => tyA ht (q := 142) (κ := 98) (k := j) (a := 0) (b := 3) (lo := -1) (hi := 3) rfl rfl (by omega) (by omega)
  have three : (3 : Int32).toInt = 3 := by decide
  intro m
  induction m with
  | zero =>
    intro l x2 σ h2 hl hG hI hmu
    have := mu_pos (a := fun j => (σ.1 142 j).toInt) (fun j hj => (atr hG.1 j hj).2) l
    omega
  | succ m ih =>
    intro l x2 σ h2 hl hG hI hmu
    obtain ⟨i1, i2, i3, i4⟩ := hI
    have k97 : ∀ k, σ.1 97 k = σ0.1 97 k := fun k => hG.get (q := 97) (κ := 12) rfl rfl
    have k139 : ∀ k, σ.1 139 k = σ0.1 139 k := fun k => hG.get (q := 139) (κ := 95) rfl rfl
    have k137 : ∀ k, σ.1 137 k = σ0.1 137 k := fun k => hG.get (q := 137) (κ := 93) rfl rfl
    have k107 : ∀ k, σ.1 107 k = σ0.1 107 k := fun k => hG.get (q := 107) (κ := 63) rfl rfl
    have hps : pkOK σ := by unfold pkOK; rw [k97, k107]; exact hp
    have mup := mu_pos (a := fun j => (σ.1 142 j).toInt) (fun j hj => (atr hG.1 j hj).2) l
    have fall : ∀ z : Int, z < mu (fun j => (σ.1 142 j).toInt) l → z.toNat ≤ m := by
      intro z hz
      generalize mu (fun j => (σ.1 142 j).toInt) l = M at hmu mup hz
      omega
    clear hmu mup
    refine w_278_16 σ x1 x2 ⟨_, nextCard_OK hG.1 hps h2 h1 hl hn (by rw [k97]; exact i2 l (Nat.le_refl _)), fun w2 σ1 hq => ?_⟩
    obtain ⟨q1, q2, q3, q4⟩ := hq
    have hG1 : Gl mdTrick σ0 σ1 := hG.trans q1 rfl
    have e97 : ∀ k, σ1.1 97 k = σ0.1 97 k := fun k => hG1.get (q := 97) (κ := 12) rfl rfl
    have e139 : ∀ k, σ1.1 139 k = σ0.1 139 k := fun k => hG1.get (q := 139) (κ := 95) rfl rfl
    have e107 : ∀ k, σ1.1 107 k = σ0.1 107 k := fun k => hG1.get (q := 107) (κ := 63) rfl rfl
    have e136 : ∀ k, σ1.1 136 k = σ0.1 136 k := fun k => hG1.get (q := 136) (κ := 92) rfl rfl
    rw [k97, k139, k137] at q4
    refine ⟨fun c => ?_, fun c => ?_⟩
    · rcases q4 with ⟨-, a1, a2⟩ | ⟨h, -⟩
      · have hat : HC n σ0 → 0 ≤ (σ.1 142 l).toInt := by
          intro hc
          have := atr hG.1 l hl
          by_cases hm1 : (σ.1 142 l).toInt = -1
          · obtain ⟨b1, b2⟩ := a2 hm1
            obtain ⟨k, c1, c2⟩ := hc l hl b1
            rw [b2 k c1] at c2
            cases c2
          · omega
        refine ⟨fun hx => ?_, fun hx => ?_⟩
        · have h0 : l = 0 := by rw [hx] at h2; have : (0 : Int32).toInt = 0 := rfl; omega
          subst h0
          have := i3 0 (Nat.le_refl _)
          exact ⟨_, rfl, hG1, by rw [q3]; exact this.1, by rw [q3]; exact this.2, fun hc => by rw [q3]; exact i4 hc (hat hc)⟩
        · have hl0 : 1 ≤ l := by
            apply Nat.pos_of_ne_zero
            intro h0
            apply hx
            subst h0
            exact Int32.toInt_inj.mp h2
          obtain ⟨e1, hin, hcn⟩ := dec_ex h2 hl0 hl
          rw [hcn]
          refine ⟨hin, _, takes_OK hG1.1 e1 (Nat.le_trans (Nat.sub_le _ _) hl), fun σ3 hq3 => ?_⟩
          obtain ⟨t1, t2, t3, t4⟩ := hq3
          have a142 : ∀ j, σ3.1 142 j = σ.1 142 j := fun j => by
            rw [t2]
            by_cases hj : j = l
            · rw [hj]; exact a1
            · exact q2 j hj
          refine ih (l - 1) _ σ3 e1 (by omega) (hG1.trans t1 rfl) ⟨fun j hj => ?_, fun j hj => ?_, fun j hj => ?_, fun hc _ => ?_⟩ ?_
          · rw [a142]; exact i1 j (by omega)
          · rw [a142]; exact i2 j (by omega)
          · by_cases hjl : j = l - 1
            · subst hjl
              rcases t4 with t4 | ⟨t4, -⟩
              · rw [t4, q3]; exact i3 l (Nat.le_refl _)
              · rw [t4, q3]; exact i3 _ (by omega)
            · rw [t3 j hjl, q3]; exact i3 j (by omega)
          · rcases t4 with t4 | ⟨t4, t5⟩
            · rw [t4, q3]; exact i4 hc (hat hc)
            · rw [t4]
              have := i3 (l - 1) (by omega)
              rw [← q3] at this
              omega
          · have hm2 := mu_down (a := fun j => (σ.1 142 j).toInt) (l := l - 1) (by omega) (fun j hj => (atr hG.1 j hj).2)
            rw [show l - 1 + 1 = l by omega] at hm2
            have : (fun j => (σ3.1 142 j).toInt) = (fun j => (σ.1 142 j).toInt) := by funext j; rw [a142]
            rw [this]
            exact fall _ hm2
      · rw [c] at h
        exact absurd h (by decide)
    · rcases q4 with ⟨h, -⟩ | ⟨-, a1, a2, a3, a4⟩
      · exact absurd h c
      have s1' : ∀ j : Nat, j ≤ l → 0 ≤ (σ1.1 142 j).toInt ∧ ((σ0.1 97 69).toInt ≤ j → bt (σ0.1 139 (plr n j)) (σ1.1 142 j).toNatClampNeg = true) := by
        intro j hj
        by_cases hjl : j = l
        · subst hjl; exact ⟨a2, a4⟩
        · rw [q2 j hjl]; exact i1 j (by omega)
      have s2' : ∀ j : Nat, j ≤ l → (j : Int) < (σ0.1 97 69).toInt → (σ1.1 142 j).toInt ≤ 0 := by
        intro j hj hy
        by_cases hjl : j = l
        · subst hjl; rw [a3 hy]; omega
        · rw [q2 j hjl]; exact i2 j hj hy
      refine ⟨fun c3 => ?_, fun c3 => ?_⟩
      · rw [Int32.le_iff_toInt_le, h2, three] at c3
        have hl3 : l = 3 := by omega
        subst hl3
        have hp1 : pkOK σ1 := by unfold pkOK; rw [e97, e107]; exact hp
        have hT1 : TB σ1 := fun i hi => by rw [e136]; exact hT i hi
        have hm1 : mk15 σ1 := fun p hp => by rw [e139]; exact hm p hp
        have hb1 : bnd0 n σ1 = bnd0 n σ0 := by unfold bnd0; rw [e97, e139]
        have hpl : plr n (lvl n 0) = 0 := by unfold plr lvl; omega
        have hl0 : lvl n 0 ≤ 3 := by unfold lvl; omega
        refine ⟨_, worth_OK hG1.1 hp1 hT1 hm1 h1 hn (fun hy => ?_), fun w5 σ4 hq4 => ?_⟩
        · rw [e97] at hy
          have := s1' (lvl n 0) hl0
          rw [hpl] at this
          rw [e139]
          exact ⟨this.1, this.2 hy⟩
        obtain ⟨rfl, b1, b2⟩ := hq4
        rw [hb1] at b2
        refine ⟨_, takes_OK (l := 3) hG1.1 (by decide) (by omega), fun σ6 hq6 => ?_⟩
        obtain ⟨t1, t2, t3, t4⟩ := hq6
        have f3 : 0 ≤ (σ6.1 143 3).toInt ∧ (σ6.1 143 3).toInt ≤ bnd0 n σ0 := by
          rcases t4 with t4 | ⟨t4, t5⟩
          · rw [t4]; exact ⟨b1, b2⟩
          · rw [t4]
            have := i3 3 (Nat.le_refl _)
            rw [← q3] at this
            omega
        refine ih 3 x2 σ6 h2 (by omega) (hG1.trans t1 rfl) ⟨fun j hj => ?_, fun j hj => ?_, fun j hj => ?_, fun _ _ => f3.1⟩ ?_
        · rw [t2]; exact s1' j (by omega)
        · rw [t2]; exact s2' j hj
        · by_cases hj3 : j = 3
          · subst hj3; omega
          · rw [t3 j hj3, q3]; exact i3 j hj
        · have hm2 := mu_up (a := fun j => (σ.1 142 j).toInt) (b := fun j => (σ4.1 142 j).toInt) (l := 3) (by omega) (fun j hj => by rw [q2 j hj]) a1
          have : (fun j => (σ6.1 142 j).toInt) = (fun j => (σ4.1 142 j).toInt) := by funext j; rw [t2]
          rw [this]
          exact fall _ hm2
      · rw [Int32.le_iff_toInt_le, h2, three] at c3
        have e1 : (x2 + (1 : Int32)).toInt = ((l + 1 : Nat) : Int) := by
          rw [add_lit (k := 1) h2 (by decide) (by unfold FL; omega) (by unfold FH; omega)]; push_cast; rfl
        have hin : inR (x2 + (1 : Int32)) 4 = true := inR_ok (by omega) (by omega)
        rw [cn_of e1]
        refine ⟨hin, hin, ?_⟩
        have g2 : Gl mdTrick σ0 (s1 σ1 142 (l + 1) (-1 : Int32)) := wrG (κ := 98) (a := 0) (b := 3) (vl := -1) (vh := -1) rfl rfl hG1 rfl (Nat.zero_le _) (by omega) (by decide) (by decide)
        have g3 := wrG (x := (-1 : Int32)) (q := 143) (k := l + 1) (κ := 99) (a := 0) (b := 3) (vl := -1) (vh := -1) rfl rfl g2 rfl (Nat.zero_le _) (by omega) (by decide) (by decide)
        have r142 : ∀ j, ¬ j = l + 1 → (s1 (s1 σ1 142 (l + 1) (-1 : Int32)) 143 (l + 1) (-1 : Int32)).1 142 j = σ1.1 142 j := fun j hj => by
          rw [s1_off (by omega), s1_off (fun h => hj h.2)]
        have r142' : (s1 (s1 σ1 142 (l + 1) (-1 : Int32)) 143 (l + 1) (-1 : Int32)).1 142 (l + 1) = -1 := by
          rw [s1_off (by omega)]; exact s1_on
        have r143 : ∀ j, ¬ j = l + 1 → (s1 (s1 σ1 142 (l + 1) (-1 : Int32)) 143 (l + 1) (-1 : Int32)).1 143 j = σ.1 143 j := fun j hj => by
          rw [s1_off (fun h => hj h.2), s1_off (by omega), q3]
        have m1 : (-1 : Int32).toInt = -1 := by decide
        refine ih (l + 1) _ _ e1 (by omega) g3 ⟨fun j hj => ?_, fun j hj hy => ?_, fun j hj => ?_, fun _ h => ?_⟩ ?_
        · rw [r142 j (by omega)]; exact s1' j (by omega)
        · by_cases hjl : j = l + 1
          · subst hjl; rw [r142', m1]; omega
          · rw [r142 j hjl]; exact s2' j (by omega) hy
        · by_cases hjl : j = l + 1
          · subst hjl
            rw [s1_on, m1]
            have := bnd0_nn (n := n) (σ := σ0)
            omega
          · rw [r143 j hjl]; exact i3 j (by omega)
        · rw [r142', m1] at h; omega
        · have hm2 := mu_push (a := fun j => (σ.1 142 j).toInt) (b := fun j => (σ1.1 142 j).toInt) (c := fun j => ((s1 (s1 σ1 142 (l + 1) (-1 : Int32)) 143 (l + 1) (-1 : Int32)).1 142 j).toInt) (l := l) (by omega) (fun j hj => by rw [q2 j hj]) a1 (fun j hj => by rw [r142 j hj]) (by rw [r142', m1])
          exact fall _ hm2
theorem trick_OK {d : Nat} {x1 : Int32} {σ : Sg} {n : Nat} (ht : typed TYP σ) (h1 : x1.toInt = (n : Int)) (hn : n ≤ 3) (hp : pkOK σ) (hT : TB σ) (hm : mk15 σ) : OkI PRG (d + 1 + 1 + 1) 278 [.ref 97, .int x1] σ (trP n σ) := by
  have g1 : Gl mdTrick σ (s1 σ 142 0 (-1 : Int32)) := wrG (κ := 98) (a := 0) (b := 3) (vl := -1) (vh := -1) rfl rfl (Gl.refl ht) rfl (Nat.zero_le _) (by omega) (by decide) (by decide)
  have g2 := wrG (x := (-1 : Int32)) (q := 143) (k := 0) (κ := 99) (a := 0) (b := 3) (vl := -1) (vh := -1) rfl rfl g1 rfl (Nat.zero_le _) (by omega) (by decide) (by decide)
  have m1 : (-1 : Int32).toInt = -1 := by decide
  have r142 : (s1 (s1 σ 142 0 (-1 : Int32)) 143 0 (-1 : Int32)).1 142 0 = -1 := by rw [s1_off (by omega)]; exact s1_on
  have r143 : (s1 (s1 σ 142 0 (-1 : Int32)) 143 0 (-1 : Int32)).1 143 0 = -1 := s1_on
  refine ⟨M_278, rfl, Nat.le_of_ble_eq_true rfl, w_278_0 σ x1 (trick_go h1 hn hp hT hm _ 0 0 _ rfl (by omega) g2 ⟨fun j hj => absurd hj (by omega), fun j hj _ => ?_, fun j hj => ?_, fun _ h => ?_⟩ (Nat.le_refl _))⟩
  · have : j = 0 := by omega
    subst this
    rw [r142, m1]; omega
  · have : j = 0 := by omega
    subst this
    rw [r143, m1]
    have := bnd0_nn (n := n) (σ := σ)
    omega
  · rw [r142, m1] at h; omega
