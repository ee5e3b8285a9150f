/-! lots: what must hold -/
set_option maxRecDepth 100000 in
theorem w_220_0 {d : Nat} {Q : Option Value → Sg → Prop} (σ : Sg) (x0 x1 : Int32) (h : Q (some (.int ((((x0 ^^^ x1) * (1103515245 : Int32)) + (12345 : Int32)) ^^^ (ush (((x0 ^^^ x1) * (1103515245 : Int32)) + (12345 : Int32)) (15 : Int32))))) σ) : Rn PRG d 220 0 [(0, .int x0), (1, .int x1)] [] σ Q := by
  have hM : PRG[220]? = some M_220 := rfl
  refine Rn.seg (pc' := 18) (ls' := [(2, .int (((x0 ^^^ x1) * (1103515245 : Int32)) + (12345 : Int32))), (0, .int x0), (1, .int x1)]) (st' := [.int ((((x0 ^^^ x1) * (1103515245 : Int32)) + (12345 : Int32)) ^^^ (ush (((x0 ^^^ x1) * (1103515245 : Int32)) + (12345 : Int32)) (15 : Int32)))]) (σ' := σ) hM 13 rfl ?_
  exact Rn.ret hM rfl rfl h
set_option maxRecDepth 100000 in
theorem w_221_0 {d : Nat} {Q : Option Value → Sg → Prop} (σ : Sg) (x0 x1 x2 : Int32) (h : (∃ Qc : Int32 → Sg → Prop, OkI PRG d 220 [.int x0, .int (20 : Int32)] σ Qc ∧ ∀ w2 σ1, Qc w2 σ1 → (∃ Qc : Int32 → Sg → Prop, OkI PRG d 220 [.int w2, .int x1] σ1 Qc ∧ ∀ w4 σ3, Qc w4 σ3 → (¬ x2 = 0 ∧ Q (some (.int ((ush w4 (1 : Int32)) - (ush w4 (1 : Int32)) / x2 * x2))) σ3)))) : Rn PRG (d + 1) 221 0 [(0, .int x0), (1, .int x1), (2, .int x2)] [] σ Q := by
  have hM : PRG[221]? = some M_221 := rfl
  refine Rn.seg (pc' := 3) (ls' := [(0, .int x0), (1, .int x1), (2, .int x2)]) (st' := [.int (20 : Int32), .int x0]) (σ' := σ) hM 2 rfl ?_
  obtain ⟨Qc, hq, h⟩ := h
  refine Rn.cI hM rfl rfl (by decide) hq (fun w2 σ1 hw => ?_)
  replace h := h w2 σ1 hw
  refine Rn.seg (pc' := 7) (ls' := [(0, .int x0), (1, .int x1), (2, .int x2)]) (st' := [.int x1, .int w2]) (σ' := σ1) hM 1 rfl ?_
  obtain ⟨Qc, hq, h⟩ := h
  refine Rn.cI hM rfl rfl (by decide) hq (fun w4 σ3 hw => ?_)
  replace h := h w4 σ3 hw
  refine Rn.seg (pc' := 13) (ls' := [(0, .int x0), (1, .int x1), (2, .int x2)]) (st' := [.int x2, .int (ush w4 (1 : Int32))]) (σ' := σ3) hM 3 rfl ?_
  refine Rn.rm hM rfl h.1 ?_
  refine Rn.seg (pc' := 14) (ls' := [(0, .int x0), (1, .int x1), (2, .int x2)]) (st' := [.int ((ush w4 (1 : Int32)) - (ush w4 (1 : Int32)) / x2 * x2)]) (σ' := σ3) hM 0 rfl ?_
  exact Rn.ret hM rfl rfl h.2
/-! deal: a deal by lots -/
theorem mixed_OK {d : Nat} {x y : Int32} {σ : Sg} : OkI PRG d 220 [.int x, .int y] σ (fun _ σ' => σ' = σ) :=
  ⟨M_220, rfl, Nat.le_of_ble_eq_true rfl, w_220_0 σ x y ⟨_, rfl, rfl⟩⟩
theorem lot_OK {d n : Nat} {x y z : Int32} {σ : Sg} (hz : z.toInt = (n : Int)) (hn : 1 ≤ n) : OkI PRG (d + 1) 221 [.int x, .int y, .int z] σ (fun w σ' => σ' = σ ∧ 0 ≤ w.toInt ∧ w.toInt < (n : Int)) := by
  refine ⟨M_221, rfl, Nat.le_of_ble_eq_true rfl, w_221_0 σ x y z ⟨_, mixed_OK, fun w2 σ1 hq => ?_⟩⟩
  subst hq
  refine ⟨_, mixed_OK, fun w4 σ3 hq => ?_⟩
  subst hq
  have hu : 0 ≤ (ush w4 (1 : Int32)).toInt := by
    have := ushr_ex (x := w4) (y := (1 : Int32)) (k := 1) (by decide) (by omega)
    have h2 := tn_lt w4
    rw [tn_of (by rw [this]; omega)]
    omega
  refine ⟨fun h => ?_, _, rfl, rfl, ?_⟩
  · rw [h] at hz
    have : (0 : Int32).toInt = 0 := rfl
    omega
  · rw [rem_ex (by omega), hz, Int.tmod_eq_emod_of_nonneg hu]
    exact ⟨Int.emod_nonneg _ (by omega), Int.emod_lt_of_pos _ (by omega)⟩
def mdDl : List (Nat × Nat × Nat) := [(81, 0, 3), (84, 0, 15), (12, 45, 45), (12, 47, 48)]
def mdLots : List (Nat × Nat × Nat) := [(81, 0, 3), (84, 0, 15)]
/-- the row is a mixing of the cards -/
def PMx (N : Nat) (σ : Sg) : Prop := (∀ j, j < N → 0 ≤ (σ.1 128 j).toInt ∧ (σ.1 128 j).toInt < (N : Int)) ∧ (∀ i j, i < N → j < N → σ.1 128 i = σ.1 128 j → i = j)
theorem cnt_or {N c : Nat} {x y : Int32} (hc : c < N) (hN : N ≤ 16) (h0 : bt x c = false) (hy : y.toInt = (c : Int)) : cnt N (x ||| ((1 : Int32) <<< (y &&& 31))) = cnt N x + 1 := by
  unfold cnt
  have h1 := countP_one (p := bt (x ||| ((1 : Int32) <<< (y &&& 31)))) (k := c) (l := List.range N) List.nodup_range (List.mem_range.mpr hc)
  have hb : bt (x ||| ((1 : Int32) <<< (y &&& 31))) c = true := by
    rw [bt_or, bt_one hy (by omega) (by omega)]; simp
  rw [hb, if_pos rfl] at h1
  rw [h1]
  congr 1
  apply List.countP_congr
  intro i hi
  rw [List.mem_range] at hi
  rw [bt_or, bt_one hy (by omega) (by omega)]
  cases hbe : Nat.beq i c with
  | false => simp
  | true =>
    rw [Nat.eq_of_beq_eq_true hbe, h0]; simp
/-- the cards dealt out of the first i -/
def DI (N i : Nat) (σ : Sg) : Prop := ∀ p, p ≤ 3 → (∀ b, b < 32 → (bt (σ.1 125 p) b = true ↔ ∃ j : Nat, j < i ∧ j / (N / 4) = p ∧ (σ.1 128 j).toInt = (b : Int))) ∧ cnt N (σ.1 125 p) = min i (p * (N / 4) + N / 4) - min i (p * (N / 4))
theorem DI.dl {N : Nat} {σ : Sg} (hN : N = 4 ∨ N = 8 ∨ N = 12 ∨ N = 16) (hM : PMx N σ) (h : DI N N σ) : DL N (σ.1 125) := by
  refine ⟨fun p hp => ?_, fun p hp b hb => ?_, fun p q hp hq hne b hb => ?_⟩
  · rw [(h p hp).2]
    have : p = 0 ∨ p = 1 ∨ p = 2 ∨ p = 3 := by omega
    rcases hN with rfl | rfl | rfl | rfl <;> rcases this with rfl | rfl | rfl | rfl <;> decide
  · by_cases h32 : b < 32
    · cases hx : bt (σ.1 125 p) b with
      | false => rfl
      | true =>
        obtain ⟨j, h1, -, h3⟩ := ((h p hp).1 b h32).mp hx
        have := (hM.1 j h1).2
        omega
    · exact bt_big _ (by omega)
  · by_cases h32 : b < 32
    · cases hx : bt (σ.1 125 q) b with
      | false => rfl
      | true =>
        obtain ⟨j, h1, h2, h3⟩ := ((h p hp).1 b h32).mp hb
        obtain ⟨j', g1, g2, g3⟩ := ((h q hq).1 b h32).mp hx
        have := hM.2 j j' h1 g1 (Int32.toInt_inj.mp (by rw [h3, g3]))
        subst this
        exact absurd (h2.symm.trans g2) hne
    · exact bt_big _ (by omega)
section Lots
variable {d N : Nat} {σ0 : Sg}
theorem lots_99 (h : GI N σ0) : ∀ (m i : Nat) (x2 : Int32) (σ : Sg), i + m = N → x2.toInt = (i : Int) → Gl mdLots σ0 σ → PMx N σ → DI N i σ → Rn PRG (d + 1 + 1) 222 99 [(0, .ref 97), (2, .int x2)] [] σ (fun v σ' => ∃ w : Int32, v = some (.int w) ∧ GI N σ' ∧ ¬ σ'.1 97 45 = 0 ∧ Gl mdDl σ0 σ') := by
  obtain ⟨ht, hI, hP, hT, hS, hH⟩ := h
  have hN := hP.le
  have hPk : ∀ {σ : Sg}, Gl mdLots σ0 σ → pack N σ := fun hG => pack_of (hG.get (q := 97) (κ := 12) rfl rfl) (hG.get (q := 106) (κ := 62) rfl rfl) (hG.get (q := 107) (κ := 63) rfl rfl) hP
  intro m
  induction m with
  | zero =>
    intro i x2 σ hi h2 hG hM hD
    have : i = N := by omega
    subst this
    refine w_222_99 σ x2 ⟨_, cards_OK hG.1 (hPk hG), fun w2 σ1 hq => ?_⟩
    obtain ⟨rfl, hw⟩ := hq
    refine ⟨fun _ => ⟨_, starts_OK, fun σ3 hq => ⟨_, rfl, ?_⟩⟩, fun c => absurd (by rw [le_i hw h2]; omega) c⟩
    rw [hq]
    refine ⟨start_GI hG.1 (hI.keep hG rfl) (hPk hG) (hT.keep hG rfl) (hH.keep hN.2 hG rfl) (hD.dl hP.1 hM), by rw [s1_off (by omega), s1_off (by omega), s1_on]; decide, ?_⟩
    have k1 := wrG (x := (1 : Int32)) (q := 97) (k := 45) (κ := 12) (a := 45) (b := 45) (vl := 0) (vh := 1) rfl rfl (hG.mono rfl : Gl mdDl σ0 σ1) rfl (Nat.le_refl _) (Nat.le_refl _) (by decide) (by decide)
    have k2 := wrG (x := (0 : Int32)) (q := 97) (k := 47) (κ := 12) (a := 47) (b := 47) (vl := 0) (vh := 3) rfl rfl k1 rfl (Nat.le_refl _) (Nat.le_refl _) (by decide) (by decide)
    exact wrG (x := (0 : Int32)) (q := 97) (k := 48) (κ := 12) (a := 48) (b := 48) (vl := 0) (vh := 16) rfl rfl k2 rfl (Nat.le_refl _) (Nat.le_refl _) (by decide) (by decide)
  | succ m ih =>
    intro i x2 σ hi h2 hG hM hD
    have hiN : i < N := by omega
    refine w_222_99 σ x2 ⟨_, cards_OK hG.1 (hPk hG), fun w2 σ1 hq => ?_⟩
    obtain ⟨rfl, hw⟩ := hq
    refine ⟨fun c => ?_, fun c => ⟨_, handSize_OK hG.1 (hPk hG), fun w5 σ4 hq => ?_⟩⟩
    · rw [le_i hw h2] at c; omega
    obtain ⟨rfl, hw5⟩ := hq
    clear c
    have hx2 : (x2 + (1 : Int32)).toInt = ((i + 1 : Nat) : Int) := by
      rw [add_lit (k := 1) h2 (by decide) (by unfold FL; omega) (by unfold FH; omega)]; push_cast; rfl
    have hh1 : 1 ≤ N / 4 := by omega
    have hq3 : i / (N / 4) ≤ 3 := by
      rcases hP.1 with rfl | rfl | rfl | rfl <;> omega
    have ed : (x2 / w5).toInt = ((i / (N / 4) : Nat) : Int) := by
      rw [div_ex (by rw [hw5]; omega), h2, hw5, Int.tdiv_eq_ediv_of_nonneg (by omega)]
      exact (Int.natCast_ediv _ _).symm
    generalize hqd : i / (N / 4) = q at ed hq3
    have hne : ¬ w5 = 0 := fun h => by
      rw [h] at hw5
      have : (0 : Int32).toInt = 0 := rfl
      omega
    have hinq : inR (x2 / w5) 4 = true := inR_ok (by rw [ed]; omega) (by rw [ed]; omega)
    have hin2 : inR x2 16 = true := inR_ok (by omega) (by omega)
    rw [cn_of ed, cn_of h2]
    refine ⟨hne, hinq, hin2, hinq, ?_⟩
    clear ed hinq
    have hrow := hM.1 i hiN
    have hrc : (σ4.1 128 i).toInt = (((σ4.1 128 i).toInt.toNat : Nat) : Int) := by omega
    have hd := tyA hG.1 (q := 125) (κ := 81) (k := q) (a := 0) (b := 3) (lo := 0) (hi := 65535) rfl rfl (by omega) (by omega)
    have hor := or_16 hd (card_rg hrow.1 (by omega))
    have g : Gl mdLots σ0 (s1 σ4 125 q ((σ4.1 125 q) ||| ((1 : Int32) <<< ((σ4.1 128 i) &&& 31)))) := wrG (κ := 81) (a := 0) (b := 3) (vl := 0) (vh := 65535) rfl rfl hG rfl (Nat.zero_le _) hq3 hor.1 hor.2
    have e128 : ∀ j, (s1 σ4 125 q ((σ4.1 125 q) ||| ((1 : Int32) <<< ((σ4.1 128 i) &&& 31)))).1 128 j = σ4.1 128 j := fun j => s1_off (by omega)
    refine ih (i + 1) _ _ (by omega) hx2 g ?_ (fun p hp => ?_)
    · unfold PMx
      simp only [e128]
      exact hM
    · by_cases hpq : p = q
      · subst hpq
        rw [s1_on]
        refine ⟨fun b hb => ?_, ?_⟩
        · rw [bt_or, Bool.or_eq_true, (hD p hp).1 b hb, bt_one hrc (by omega) hb]
          simp only [e128]
          constructor
          · rintro (⟨j, a1, a2, a3⟩ | hbe)
            · exact ⟨j, by omega, a2, a3⟩
            · have := Nat.eq_of_beq_eq_true hbe
              exact ⟨i, by omega, hqd, by omega⟩
          · rintro ⟨j, a1, a2, a3⟩
            by_cases hj : j = i
            · subst hj
              refine Or.inr ?_
              have : b = (σ4.1 128 j).toInt.toNat := by omega
              rw [this]; simp
            · exact Or.inl ⟨j, by omega, a2, a3⟩
        · have hb0 : bt (σ4.1 125 p) (σ4.1 128 i).toInt.toNat = false := by
            cases hx : bt (σ4.1 125 p) (σ4.1 128 i).toInt.toNat with
            | false => rfl
            | true =>
              obtain ⟨j, a1, a2, a3⟩ := ((hD p hp).1 _ (by omega)).mp hx
              have := hM.2 j i (by omega) hiN (Int32.toInt_inj.mp (by rw [a3]; omega))
              omega
          rw [cnt_or (by omega) hN.2 hb0 hrc, (hD p hp).2]
          have hp4 : p = 0 ∨ p = 1 ∨ p = 2 ∨ p = 3 := by omega
          rcases hP.1 with rfl | rfl | rfl | rfl <;> rcases hp4 with rfl | rfl | rfl | rfl <;> simp only [Nat.reduceDiv, Nat.reduceMul, Nat.reduceAdd] at hqd ⊢ <;> omega
      · rw [s1_off (fun e => hpq e.2)]
        refine ⟨fun b hb => ?_, ?_⟩
        · rw [(hD p hp).1 b hb]
          simp only [e128]
          constructor
          · rintro ⟨j, a1, a2, a3⟩
            exact ⟨j, by omega, a2, a3⟩
          · rintro ⟨j, a1, a2, a3⟩
            by_cases hj : j = i
            · subst hj; exact absurd (a2.symm.trans hqd) hpq
            · exact ⟨j, by omega, a2, a3⟩
        · rw [(hD p hp).2]
          have hp4 : p = 0 ∨ p = 1 ∨ p = 2 ∨ p = 3 := by omega
          rcases hP.1 with rfl | rfl | rfl | rfl <;> rcases hp4 with rfl | rfl | rfl | rfl <;> simp only [Nat.reduceDiv, Nat.reduceMul, Nat.reduceAdd] at hqd ⊢ <;> omega
theorem lots_79 (h : GI N σ0) : ∀ (m k : Nat) (x2 : Int32) (σ : Sg), k + m = 4 → x2.toInt = (k : Int) → Gl mdLots σ0 σ → PMx N σ → (∀ p, p < k → σ.1 125 p = 0) → Rn PRG (d + 1 + 1) 222 79 [(0, .ref 97), (2, .int x2)] [] σ (fun v σ' => ∃ w : Int32, v = some (.int w) ∧ GI N σ' ∧ ¬ σ'.1 97 45 = 0 ∧ Gl mdDl σ0 σ') := by
  have four : (4 : Int32).toInt = 4 := by decide
  have fin : ∀ σ : Sg, Gl mdLots σ0 σ → PMx N σ → (∀ p, p < 4 → σ.1 125 p = 0) → Rn PRG (d + 1 + 1) 222 99 [(0, .ref 97), (2, .int (0 : Int32))] [] σ (fun v σ' => ∃ w : Int32, v = some (.int w) ∧ GI N σ' ∧ ¬ σ'.1 97 45 = 0 ∧ Gl mdDl σ0 σ') := by
    intro σ hG hM hz
    refine lots_99 h N 0 0 σ (by omega) rfl hG hM (fun p hp => ?_)
    rw [hz p (by omega)]
    refine ⟨fun b hb => ⟨fun hx => (by rw [bt_0] at hx; cases hx), fun ⟨j, hj, _⟩ => absurd hj (by omega)⟩, ?_⟩
    have : ∀ m, cnt m 0 = 0 := by
      intro m
      induction m with
      | zero => rfl
      | succ m ih => rw [cnt_succ, ih, bt_0]; simp
    rw [this]; simp
  intro m
  induction m with
  | zero =>
    intro k x2 σ hk h2 hG hM hz
    have : k = 4 := by omega
    subst this
    exact w_222_79 σ x2 ⟨fun _ => fin σ hG hM hz, fun c => absurd (by rw [le_i four h2]; omega) c⟩
  | succ m ih =>
    intro k x2 σ hk h2 hG hM hz
    have hx2 : (x2 + (1 : Int32)).toInt = ((k + 1 : Nat) : Int) := by
      rw [add_lit (k := 1) h2 (by decide) (by unfold FL; omega) (by unfold FH; omega)]; push_cast; rfl
    refine w_222_79 σ x2 ⟨fun c => ?_, fun c => ⟨inR_ok (by clear hx2; omega) (by clear hx2; omega), ?_⟩⟩
    · rw [le_i four h2] at c; omega
    rw [cn_of h2]
    refine ih (k + 1) _ _ (by omega) hx2 (wrG (κ := 81) (a := 0) (b := 3) (vl := 0) (vh := 0) rfl rfl hG rfl (Nat.zero_le _) (by omega) (by decide) (by decide)) ?_ (fun p hp => ?_)
    · have e128 : ∀ j, (s1 σ 125 k 0).1 128 j = σ.1 128 j := fun j => s1_off (by omega)
      unfold PMx
      simp only [e128]
      exact hM
    · by_cases hpk : p = k
      · subst hpk; exact s1_on
      · rw [s1_off (fun e => hpk e.2)]; exact hz p (by omega)
theorem lots_30 {x1 : Int32} (h : GI N σ0) : ∀ (m : Nat) (x2 : Int32) (σ : Sg), x2.toInt = (m : Int) → m < N → Gl mdLots σ0 σ → PMx N σ → Rn PRG (d + 1 + 1) 222 30 [(0, .ref 97), (1, .int x1), (2, .int x2)] [] σ (fun v σ' => ∃ w : Int32, v = some (.int w) ∧ GI N σ' ∧ ¬ σ'.1 97 45 = 0 ∧ Gl mdDl σ0 σ') := by
  have hN := h.2.2.1.le
  intro m
  induction m with
  | zero =>
    intro x2 σ h2 hm hG hM
    exact w_222_30 σ x1 x2 ⟨fun _ => lots_79 h 4 0 0 σ rfl rfl hG hM (fun p hp => absurd hp (by omega)), fun c => absurd (by rw [le_i (b := 0) h2 rfl]; omega) c⟩
  | succ m ih =>
    intro x2 σ h2 hm hG hM
    refine w_222_30 σ x1 x2 ⟨fun c => ?_, fun c => ?_⟩
    · rw [le_i (b := 0) h2 rfl] at c; omega
    clear c
    have hx2 : (x2 + (1 : Int32)).toInt = ((m + 1 + 1 : Nat) : Int) := by
      rw [add_lit (k := 1) h2 (by decide) (by unfold FL; omega) (by unfold FH; omega)]; push_cast; rfl
    refine ⟨_, lot_OK hx2 (by omega), fun w2 σ1 hq => ?_⟩
    obtain ⟨rfl, a, b⟩ := hq
    clear hx2
    have hxm : (x2 + (-1 : Int32)).toInt = (m : Int) := by
      rw [add_lit (k := -1) h2 (by decide) (by unfold FL; omega) (by unfold FH; omega)]; push_cast; omega
    have hw : w2.toInt = ((w2.toInt.toNat : Nat) : Int) := by clear hxm; omega
    have hin2 : inR x2 16 = true := inR_ok (by clear hxm; omega) (by clear hxm; omega)
    have hinw : inR w2 16 = true := inR_ok a (by clear hxm; omega)
    rw [cn_of h2, cn_of hw]
    refine ⟨hin2, hinw, hin2, hinw, ?_⟩
    have hjN : w2.toInt.toNat < N := by clear hxm; omega
    generalize w2.toInt.toNat = j at *
    have r1 := hM.1 (m + 1) hm
    have r2 := hM.1 j hjN
    have g1 : Gl mdLots σ0 (s1 σ1 128 (m + 1) (σ1.1 128 j)) := wrG (κ := 84) (a := 0) (b := 15) (vl := 0) (vh := 15) rfl rfl hG rfl (Nat.zero_le _) (by clear hxm; omega) r2.1 (by clear hxm; omega)
    have g2 := wrG (x := σ1.1 128 (m + 1)) (q := 128) (k := j) (κ := 84) (a := 0) (b := 15) (vl := 0) (vh := 15) rfl rfl g1 rfl (Nat.zero_le _) (by clear hxm; omega) r1.1 (by clear hxm; omega)
    have vj : (s1 (s1 σ1 128 (m + 1) (σ1.1 128 j)) 128 j (σ1.1 128 (m + 1))).1 128 j = σ1.1 128 (m + 1) := s1_on
    have vm : ¬ (m + 1) = j → (s1 (s1 σ1 128 (m + 1) (σ1.1 128 j)) 128 j (σ1.1 128 (m + 1))).1 128 (m + 1) = σ1.1 128 j := fun hne => by rw [s1_off (fun e => hne e.2), s1_on]
    have vo : ∀ k, ¬ k = m + 1 → ¬ k = j → (s1 (s1 σ1 128 (m + 1) (σ1.1 128 j)) 128 j (σ1.1 128 (m + 1))).1 128 k = σ1.1 128 k := fun k h1 h2 => by rw [s1_off (fun e => h2 e.2), s1_off (fun e => h1 e.2)]
    -- each place of the new row holds what a place of the old one held
    have sw : ∀ k, k < N → ∃ k', k' < N ∧ (s1 (s1 σ1 128 (m + 1) (σ1.1 128 j)) 128 j (σ1.1 128 (m + 1))).1 128 k = σ1.1 128 k' ∧ ((k = j ∧ k' = m + 1) ∨ (k = m + 1 ∧ ¬ m + 1 = j ∧ k' = j) ∨ (¬ k = j ∧ ¬ k = m + 1 ∧ k' = k)) := by
      intro k hk
      by_cases h1 : k = j
      · exact ⟨m + 1, hm, by rw [h1]; exact vj, Or.inl ⟨h1, rfl⟩⟩
      · by_cases h2 : k = m + 1
        · exact ⟨j, hjN, by rw [h2]; exact vm (fun e => h1 (h2.trans e)), Or.inr (Or.inl ⟨h2, fun e => h1 (h2.trans e), rfl⟩)⟩
        · exact ⟨k, hk, vo k h2 h1, Or.inr (Or.inr ⟨h1, h2, rfl⟩)⟩
    refine ih _ _ hxm (by clear hxm; omega) g2 ⟨fun k hk => ?_, fun i k hi hk he => ?_⟩
    · obtain ⟨k', b1, b2, -⟩ := sw k hk
      rw [b2]; exact hM.1 k' b1
    · obtain ⟨i', c1, c2, c3⟩ := sw i hi
      obtain ⟨k', b1, b2, b3⟩ := sw k hk
      rw [c2, b2] at he
      have := hM.2 i' k' c1 b1 he
      clear hxm
      omega
theorem lots_2 {x1 : Int32} (h : GI N σ0) : ∀ (m k : Nat) (x2 : Int32) (σ : Sg), k + m = N → x2.toInt = (k : Int) → Gl mdLots σ0 σ → (∀ j, j < k → (σ.1 128 j).toInt = (j : Int)) → Rn PRG (d + 1 + 1) 222 2 [(0, .ref 97), (1, .int x1), (2, .int x2)] [] σ (fun v σ' => ∃ w : Int32, v = some (.int w) ∧ GI N σ' ∧ ¬ σ'.1 97 45 = 0 ∧ Gl mdDl σ0 σ') := by
  have hP := h.2.2.1
  have hN := hP.le
  have one : (1 : Int32).toInt = 1 := by decide
  have hPk : ∀ {σ : Sg}, Gl mdLots σ0 σ → pack N σ := fun hG => pack_of (hG.get (q := 97) (κ := 12) rfl rfl) (hG.get (q := 106) (κ := 62) rfl rfl) (hG.get (q := 107) (κ := 63) rfl rfl) hP
  intro m
  induction m with
  | zero =>
    intro k x2 σ hk h2 hG hr
    have : k = N := by omega
    subst this
    refine w_222_2 σ x1 x2 ⟨_, cards_OK hG.1 (hPk hG), fun w2 σ1 hq => ?_⟩
    obtain ⟨rfl, hw⟩ := hq
    refine ⟨fun _ => ⟨_, cards_OK hG.1 (hPk hG), fun w4 σ3 hq => ?_⟩, fun c => absurd (by rw [le_i hw h2]; omega) c⟩
    obtain ⟨rfl, hw4⟩ := hq
    have e : (w4 - (1 : Int32)).toInt = ((k - 1 : Nat) : Int) := by
      rw [sub_ex (by rw [hw4, one]; unfold FL; omega) (by rw [hw4, one]; unfold FH; omega), hw4, one]; omega
    refine lots_30 h (k - 1) _ σ3 e (by omega) hG ⟨fun j hj => ?_, fun i j hi hj he => ?_⟩
    · rw [hr j hj]; clear e; omega
    · have a := hr i hi
      have b := hr j hj
      rw [he] at a
      clear e
      omega
  | succ m ih =>
    intro k x2 σ hk h2 hG hr
    refine w_222_2 σ x1 x2 ⟨_, cards_OK hG.1 (hPk hG), fun w2 σ1 hq => ?_⟩
    obtain ⟨rfl, hw⟩ := hq
    refine ⟨fun c => ?_, fun c => ?_⟩
    · rw [le_i hw h2] at c; omega
    clear c
    have hx2 : (x2 + (1 : Int32)).toInt = ((k + 1 : Nat) : Int) := by
      rw [add_lit (k := 1) h2 (by decide) (by unfold FL; omega) (by unfold FH; omega)]; push_cast; rfl
    rw [cn_of h2]
    refine ⟨inR_ok (by clear hx2; omega) (by clear hx2; omega), ih (k + 1) _ _ (by omega) hx2 (wrG (κ := 84) (a := 0) (b := 15) (vl := 0) (vh := 15) rfl rfl hG rfl (Nat.zero_le _) (by clear hx2; omega) (by clear hx2; omega) (by clear hx2; omega)) (fun j hj => ?_)⟩
    by_cases hjk : j = k
    · subst hjk; rw [s1_on]; exact h2
    · rw [s1_off (fun e => hjk e.2)]; exact hr j (by omega)
theorem deal_D {x1 : Int32} (h : GI N σ0) : OkI PRG (d + 1 + 1) 222 [.ref 97, .int x1] σ0 (fun _ σ' => GI N σ' ∧ ¬ σ'.1 97 45 = 0 ∧ Gl mdDl σ0 σ') := by
  refine ⟨M_222, rfl, Nat.le_of_ble_eq_true rfl, w_222_0 σ0 x1 (lots_2 h N 0 0 σ0 (by omega) rfl (Gl.refl h.1) (fun j hj => absurd hj (by omega)))⟩
theorem deal_OK {x1 : Int32} (h : GI N σ0) : OkI PRG (d + 1 + 1) 222 [.ref 97, .int x1] σ0 (fun _ σ' => GI N σ') := (deal_D h).mono (fun _ _ h => h.1)
end Lots
