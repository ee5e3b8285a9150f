/-! had, sureOf, sure -/
theorem isPlayer_OK {d : Nat} {x : Int32} {σ : Sg} (ht : typed TYP σ) (hI : I2 σ) : OkI PRG (d + 1) 216 [.int x] σ (fun w σ' => Gl [] σ σ' ∧ I2 σ' ∧ (¬ w = 0 → 0 ≤ x.toInt ∧ x.toInt ≤ 3)) := by
  refine OkI.deep (OkI.mono ((c_216.lift2 rfl).atIm ht hI (avsC avF avsN) rfl rfl rfl) (fun w σ' h => ⟨h.1.mono rfl, h.2.1, fun hn => ?_⟩)) (show 1 ≤ d + 1 by omega)
  obtain ⟨y, h1, h2, h3⟩ := h.2.2.2 hn (0, 0, 3) List.mem_cons_self
  cases h1
  exact ⟨h2, h3⟩
theorem isCard_OK {d : Nat} {x : Int32} {σ : Sg} (ht : typed TYP σ) (hI : I2 σ) : OkI PRG (d + 1) 217 [.ref 97, .int x] σ (fun w σ' => Gl [] σ σ' ∧ I2 σ' ∧ (¬ w = 0 → 0 ≤ x.toInt ∧ x.toInt ≤ 15)) := by
  refine OkI.deep (OkI.mono ((c_217.lift2 rfl).atIm ht hI (avsC avM (avsC avF avsN)) rfl rfl rfl) (fun w σ' h => ⟨h.1.mono rfl, h.2.1, fun hn => ?_⟩)) (show 1 ≤ d + 1 by omega)
  obtain ⟨y, h1, h2, h3⟩ := h.2.2.2 hn (1, 0, 15) List.mem_cons_self
  cases h1
  exact ⟨h2, h3⟩
theorem had_go {x2 x3 : Int32} {σ0 : Sg} (h2 : 0 ≤ x2.toInt ∧ x2.toInt ≤ 3) : ∀ (m : Nat) (x5 : Int32) (σ : Sg), LSt σ → Gl mdCount σ0 σ → dlm σ ≤ m → Rn PRG (6 + 1) 267 58 [(0, .ref 97), (2, .int x2), (3, .int x3), (5, .int x5)] [] σ (fun v σ' => ∃ w : Int32, v = some (.int w) ∧ Gl mdCount σ0 σ' ∧ I2 σ') := by
  intro m
  induction m with
  | zero =>
    intro x5 σ hL hG hm
    refine w_267_58 σ x2 x3 x5 ⟨_, nextDeal_OK hL.1 hL.2.1 hL.2.2.1 hL.2.2.2, fun w2 σ1 hq => ⟨fun _ => ⟨_, rfl, hG.trans hq.1.1 rfl, hq.2⟩, fun hn => ?_⟩⟩
    have := (nd_LSt hL hq hn).2.2
    omega
  | succ m ih =>
    intro x5 σ hL hG hm
    refine w_267_58 σ x2 x3 x5 ⟨_, nextDeal_OK hL.1 hL.2.1 hL.2.2.1 hL.2.2.2, fun w2 σ1 hq => ⟨fun _ => ⟨_, rfl, hG.trans hq.1.1 rfl, hq.2⟩, fun hn => ⟨inR_ok h2.1 (by omega), ?_⟩⟩⟩
    obtain ⟨a1, a2, a3⟩ := nd_LSt hL hq hn
    exact ih _ σ1 a1 (hG.trans a2 rfl) (by omega)
theorem had_OK {x1 x2 x3 x4 : Int32} {σ : Sg} (ht : typed TYP σ) (hI : I2 σ) (hC : CG σ) : OkI PRG 7 267 [.ref 97, .int x1, .int x2, .int x3, .int x4] σ (fun _ σ' => Gl mdCount σ σ' ∧ I2 σ') := by
  obtain ⟨n, hn, hn16⟩ := played_rg ht
  refine ⟨M_267, rfl, Nat.le_of_ble_eq_true rfl, w_267_0 σ x1 x2 x3 x4 ⟨_, canAsk_OK (d := 3) ht hI, fun w2 σ1 hq => ?_⟩⟩
  obtain ⟨q1, q2, -, q3⟩ := hq
  refine ⟨fun _ => ⟨_, rfl, q1.mono rfl, q2⟩, fun hne => ?_⟩
  have hr := q3 hne
  refine ⟨_, isPlayer_OK (d := 5) q1.1 q2, fun w4 σ3 hq => ?_⟩
  obtain ⟨r1, r2, r3⟩ := hq
  have g3 : Gl [] σ σ3 := q1.trans r1 rfl
  refine ⟨fun _ => ⟨_, rfl, g3.mono rfl, r2⟩, fun hne2 => ⟨fun _ => ⟨_, rfl, g3.mono rfl, r2⟩, fun _ => ?_⟩⟩
  have hr2 := r3 hne2
  refine ⟨_, isCard_OK (d := 5) r1.1 r2, fun w6 σ5 hq => ?_⟩
  obtain ⟨s1', s2', s3'⟩ := hq
  have g5 : Gl [] σ σ5 := g3.trans s1' rfl
  refine ⟨fun _ => ⟨_, rfl, g5.mono rfl, s2'⟩, fun _ => ?_⟩
  have hin : inR x1 4 = true := inR_ok hr.1 (by omega)
  have hx1 : x1.toInt = ((x1.toInt.toNat : Nat) : Int) := by omega
  have hp3 : x1.toInt.toNat ≤ 3 := by omega
  obtain ⟨N, hP⟩ := s2'.1.2.2
  have e48 : σ5.1 97 48 = σ.1 97 48 := g5.get (q := 97) (κ := 12) rfl rfl
  have e126 : ∀ k, σ5.1 126 k = σ.1 126 k := fun k => g5.get (q := 126) (κ := 82) rfl rfl
  obtain ⟨g7, i7⟩ := tr_wr g5.1 s2' hp3
  refine ⟨hin, hin, ?_⟩
  rw [cn_of hx1]
  refine ⟨_, beginDeals_OK g7.1 i7 (pack_of (s1_off (by omega)) (s1_off (by omega)) (s1_off (by omega)) hP) hx1 hp3 (i := n) (by rw [e48]; exact hn) hn16 (fun k hk => by rw [s1_off (by omega), e126]; exact hC k (by omega)), fun σ7 hq => ?_⟩
  exact had_go hr2 _ 0 σ7 (bd_LSt hp3 hq) ((((g5.mono rfl : Gl mdCount σ σ5).trans g7 rfl)).trans hq.1 rfl) (Nat.le_refl _)
def mdSure : List (Nat × Nat × Nat) := [(12, 44, 44), (12, 53, 55), (12, 59, 61), (79, 0, 13), (80, 0, 399), (85, 0, 3), (86, 0, 2), (87, 0, 2), (88, 0, 2), (89, 0, 15), (90, 0, 3)]
theorem LSt.sure {σ : Sg} {k : Nat} {y : Int32} (h : LSt σ) (hk : k ≤ 3) : LSt (s1 σ 134 k y) ∧ dlm (s1 σ 134 k y) = dlm σ := by
  have g : Gl [(90, 0, 3)] σ (s1 σ 134 k y) := wrG (κ := 90) (a := 0) (b := 3) (vl := FL) (vh := FH) rfl rfl (Gl.refl h.1) rfl (Nat.zero_le _) hk (w_lo _) (w_hi _)
  have e97 : ∀ j, (s1 σ 134 k y).1 97 j = σ.1 97 j := fun j => s1_off (by omega)
  have e130 : ∀ j, (s1 σ 134 k y).1 130 j = σ.1 130 j := fun j => s1_off (by omega)
  have e132 : ∀ j, (s1 σ 134 k y).1 132 j = σ.1 132 j := fun j => s1_off (by omega)
  refine ⟨⟨g.1, h.2.1.keep g rfl, ?_, ?_⟩, ?_⟩
  · unfold apart3; rw [e130, e130, e130]; exact h.2.2.1
  · unfold DSt two lft; rw [e97, e97, e97, e132, e132]; exact h.2.2.2
  · unfold dlm; rw [e97, e97]
theorem sure_81 {x1 x4 : Int32} {σ : Sg} {Q : Option Value → Sg → Prop} (hQ : ∀ y : Int32, Q (some (.int y)) σ) : ∀ (m k : Nat) (x5 x6 : Int32), k + m = 4 → x6.toInt = (k : Int) → Rn PRG (6 + 1) 268 81 [(0, .ref 97), (1, .int x1), (4, .int x4), (5, .int x5), (6, .int x6)] [] σ Q := by
  have four : (4 : Int32).toInt = 4 := by decide
  intro m
  induction m with
  | zero =>
    intro k x5 x6 hk h6
    exact w_268_81 σ x1 x4 x5 x6 ⟨fun _ => hQ _, fun c => absurd (by rw [le_i four h6]; omega) c⟩
  | succ m ih =>
    intro k x5 x6 hk h6
    have hx6 : (x6 + (1 : Int32)).toInt = ((k + 1 : Nat) : Int) := by
      rw [add_lit (k := 1) h6 (by decide) (by unfold FL; omega) (by unfold FH; omega)]; push_cast; rfl
    have hin : inR x6 4 = true := inR_ok (by clear hx6; omega) (by clear hx6; omega)
    exact w_268_81 σ x1 x4 x5 x6 ⟨fun _ => hQ _, fun _ => ⟨fun _ => ih (k + 1) _ _ (by omega) hx6, fun _ => ⟨fun _ => ih (k + 1) _ _ (by omega) hx6, fun _ => ⟨hin, ih (k + 1) _ _ (by omega) hx6⟩⟩⟩⟩
theorem sure_20 {x1 x4 : Int32} {σ0 : Sg} {B : Nat} {Q : Option Value → Sg → Prop} (K : ∀ σ', LSt σ' → dlm σ' = B → Gl mdSure σ0 σ' → Rn PRG (6 + 1) 268 10 [(0, .ref 97), (1, .int x1), (4, .int (1 : Int32))] [] σ' Q) : ∀ (m k : Nat) (x5 : Int32) (σ : Sg), k + m = 4 → x5.toInt = (k : Int) → LSt σ → dlm σ = B → Gl mdSure σ0 σ → Rn PRG (6 + 1) 268 20 [(0, .ref 97), (1, .int x1), (4, .int x4), (5, .int x5)] [] σ Q := by
  have four : (4 : Int32).toInt = 4 := by decide
  intro m
  induction m with
  | zero =>
    intro k x5 σ hk h5 hL hB hG
    exact w_268_20 σ x1 x4 x5 ⟨fun _ => K σ hL hB hG, fun c => absurd (by rw [le_i four h5]; omega) c⟩
  | succ m ih =>
    intro k x5 σ hk h5 hL hB hG
    have hx5 : (x5 + (1 : Int32)).toInt = ((k + 1 : Nat) : Int) := by
      rw [add_lit (k := 1) h5 (by decide) (by unfold FL; omega) (by unfold FH; omega)]; push_cast; rfl
    have hin : inR x5 4 = true := inR_ok (by clear hx5; omega) (by clear hx5; omega)
    have next : ∀ y : Int32, Rn PRG (6 + 1) 268 20 [(0, .ref 97), (1, .int x1), (4, .int x4), (5, .int (x5 + (1 : Int32)))] [] (s1 σ 134 k y) Q := by
      intro y
      obtain ⟨a, b⟩ := hL.sure (k := k) (y := y) (by clear hx5; omega)
      exact ih (k + 1) _ _ (by omega) hx5 a (by rw [b]; exact hB) (wrG (κ := 90) (a := 0) (b := 3) (vl := FL) (vh := FH) rfl rfl hG rfl (Nat.zero_le _) (by clear hx5; omega) (w_lo _) (w_hi _))
    refine w_268_20 σ x1 x4 x5 ⟨fun _ => K σ hL hB hG, fun _ => ?_⟩
    rw [cn_of h5]
    exact ⟨fun _ => ⟨hin, hin, next _⟩, fun _ => ⟨hin, hin, hin, next _⟩⟩
theorem sure_10 {x1 : Int32} {σ0 : Sg} : ∀ (m : Nat) (x4 : Int32) (σ : Sg), LSt σ → Gl mdSure σ0 σ → dlm σ ≤ m → Rn PRG (6 + 1) 268 10 [(0, .ref 97), (1, .int x1), (4, .int x4)] [] σ (fun v σ' => ∃ w : Int32, v = some (.int w) ∧ Gl mdSure σ0 σ' ∧ I2 σ') := by
  intro m
  induction m with
  | zero =>
    intro x4 σ hL hG hm
    refine w_268_10 σ x1 x4 ⟨_, nextDeal_OK hL.1 hL.2.1 hL.2.2.1 hL.2.2.2, fun w2 σ1 hq => ⟨fun _ => sure_81 (fun y => ⟨_, rfl, hG.trans hq.1.1 rfl, hq.2⟩) 4 0 0 0 rfl rfl, fun hn => ?_⟩⟩
    have := (nd_LSt hL hq hn).2.2
    omega
  | succ m ih =>
    intro x4 σ hL hG hm
    refine w_268_10 σ x1 x4 ⟨_, nextDeal_OK hL.1 hL.2.1 hL.2.2.1 hL.2.2.2, fun w2 σ1 hq => ⟨fun _ => sure_81 (fun y => ⟨_, rfl, hG.trans hq.1.1 rfl, hq.2⟩) 4 0 0 0 rfl rfl, fun hn => ?_⟩⟩
    obtain ⟨a1, a2, a3⟩ := nd_LSt hL hq hn
    exact sure_20 (B := dlm σ1) (fun σ' b1 b2 b3 => ih 1 σ' b1 b3 (by omega)) 4 0 0 σ1 rfl rfl a1 rfl (hG.trans a2 rfl)
theorem sureOf_OK {N p i : Nat} {x1 x2 x3 : Int32} {σ : Sg} (ht : typed TYP σ) (hI : I2 σ) (hP : pack N σ) (h1 : x1.toInt = (p : Int)) (hp : p ≤ 3) (h2 : x2.toInt = (i : Int)) (hi : i ≤ 16) (hc : ∀ k, k < i → 0 ≤ (σ.1 126 k).toInt) : OkI PRG 7 268 [.ref 97, .int x1, .int x2, .int x3] σ (fun _ σ' => Gl mdSure σ σ' ∧ I2 σ') :=
  ⟨M_268, rfl, Nat.le_of_ble_eq_true rfl, w_268_0 σ x1 x2 x3 ⟨_, beginDeals_OK ht hI hP h1 hp h2 hi hc, fun σ1 hq => sure_10 _ 0 σ1 (bd_LSt hp hq) (hq.1.mono rfl) (Nat.le_refl _)⟩⟩
theorem sure_OK {x1 x2 : Int32} {σ : Sg} (ht : typed TYP σ) (hI : I2 σ) (hC : CG σ) : OkI PRG 8 269 [.ref 97, .int x1, .int x2] σ (fun _ σ' => Gl mdSure σ σ' ∧ I2 σ') := by
  obtain ⟨n, hn, hn16⟩ := played_rg ht
  refine ⟨M_269, rfl, Nat.le_of_ble_eq_true rfl, w_269_0 σ x1 x2 ⟨_, canAsk_OK (d := 4) ht hI, fun w2 σ1 hq => ?_⟩⟩
  obtain ⟨q1, q2, -, q3⟩ := hq
  refine ⟨fun _ => ⟨_, rfl, q1.mono rfl, q2⟩, fun hne => ?_⟩
  have hr := q3 hne
  have hin : inR x1 4 = true := inR_ok hr.1 (by omega)
  have hx1 : x1.toInt = ((x1.toInt.toNat : Nat) : Int) := by omega
  have hp3 : x1.toInt.toNat ≤ 3 := by omega
  obtain ⟨N, hP⟩ := q2.1.2.2
  have e48 : σ1.1 97 48 = σ.1 97 48 := q1.get (q := 97) (κ := 12) rfl rfl
  have e126 : ∀ k, σ1.1 126 k = σ.1 126 k := fun k => q1.get (q := 126) (κ := 82) rfl rfl
  obtain ⟨g7, i7⟩ := tr_wr q1.1 q2 hp3
  refine ⟨hin, hin, ?_⟩
  rw [cn_of hx1]
  refine ⟨_, sureOf_OK g7.1 i7 (pack_of (s1_off (by omega)) (s1_off (by omega)) (s1_off (by omega)) hP) hx1 hp3 (i := n) (by rw [e48]; exact hn) hn16 (fun k hk => by rw [s1_off (by omega), e126]; exact hC k (by omega)), fun w4 σ3 hq => ⟨_, rfl, ((q1.mono rfl : Gl mdSure σ σ1).trans g7 rfl).trans hq.1 rfl, hq.2⟩⟩
