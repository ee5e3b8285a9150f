/-! counting deals -/
theorem SpecOK.atIm {I : Sg → Prop} {mi : Nat} {sp : SP} {lo hi : Int} (h : SpecOK PRG TYP I mi sp) {av : List Value} {σ : Sg} (ht : typed TYP σ) (hI : I σ) (hav : avsOK (spArgs sp) av) (hp : spPre sp = []) (hf : spPhi sp = []) (hr : spRes sp = some (0, lo, hi)) : OkI PRG (spD sp) mi av σ (fun w σ' => Gl (spMods sp) σ σ' ∧ I σ' ∧ (lo ≤ w.toInt ∧ w.toInt ≤ hi) ∧ (¬ w = 0 → ∀ t ∈ spImp sp, ∃ y : Int32, av[t.1]? = some (.int y) ∧ t.2.1 ≤ y.toInt ∧ y.toInt ≤ t.2.2)) := by
  refine (h.at ht hI hav hp hf).mono (fun v σ' hq => ?_)
  obtain ⟨⟨g1, g2, g3⟩, g4, g5, -⟩ := hq
  rw [hr] at g4
  cases v with
  | none => exact absurd g4 (fun h => h)
  | some v =>
    obtain ⟨w, rfl, a, b⟩ := g4
    exact ⟨w, rfl, ⟨g1, trivial, g3⟩, g2, ⟨a, b⟩, fun hn => (g5 w rfl hn).1⟩
theorem canAsk_OK {d : Nat} {x1 x2 : Int32} {σ : Sg} (ht : typed TYP σ) (hI : I2 σ) : OkI PRG (d + 1 + 1 + 1) 263 [.ref 97, .int x1, .int x2] σ (fun w σ' => Gl [] σ σ' ∧ I2 σ' ∧ (w = 0 ∨ w = 1) ∧ (¬ w = 0 → 0 ≤ x1.toInt ∧ x1.toInt ≤ 3)) := by
  refine OkI.deep (OkI.mono ((c_263.lift2 rfl).atIm ht hI (avsC avM (avsC avF (avsC avF avsN))) rfl rfl rfl) (fun w σ' h => ?_)) (show 2 ≤ d + 1 + 1 + 1 by omega)
  obtain ⟨g1, g2, g3, g4⟩ := h
  refine ⟨g1.mono rfl, g2, ?_, fun hn => ?_⟩
  · have : w.toInt = 0 ∨ w.toInt = 1 := by omega
    rcases this with h | h
    · exact Or.inl (Int32.toInt_inj.mp h)
    · exact Or.inr (Int32.toInt_inj.mp h)
  · obtain ⟨y, h1, h2, h3⟩ := g4 hn (1, 0, 3) List.mem_cons_self
    cases h1
    exact ⟨h2, h3⟩
def LSt (σ : Sg) : Prop := typed TYP σ ∧ I2 σ ∧ apart3 σ ∧ DSt σ
theorem bd_LSt {N p i : Nat} {σ σ' : Sg} (hp : p ≤ 3) (h : bdP N p i σ σ') : LSt σ' := by
  obtain ⟨a1, a2, a3, a4, -⟩ := h
  refine ⟨a1.1, a2, ?_, Or.inl a3⟩
  have k0 := (a4 0 (by omega)).1
  have k1 := (a4 1 (by omega)).1
  have k2 := (a4 2 (by omega)).1
  unfold apart3
  rw [cn_of k0, cn_of k1, cn_of k2]
  clear k0 k1 k2
  omega
theorem nd_LSt {σ σ' : Sg} {w : Int32} (h : LSt σ) (hn : nd σ w σ' ∧ I2 σ') (hw : ¬ w = 0) : LSt σ' ∧ Gl mdDeal σ σ' ∧ dlm σ' < dlm σ := by
  obtain ⟨⟨g, h1⟩, hI⟩ := hn
  rcases h1 with h1 | ⟨-, h2, h3, -, -⟩
  · exact absurd h1 hw
  have e130 : ∀ k, σ'.1 130 k = σ.1 130 k := fun k => g.get (q := 130) (κ := 86) rfl rfl
  refine ⟨⟨g.1, hI, ?_, Or.inr h3⟩, g, dlm_lt h.1 g.1 h2⟩
  unfold apart3
  rw [e130, e130, e130]
  exact h.2.2.1
def mdCount : List (Nat × Nat × Nat) := [(12, 44, 44), (12, 53, 55), (12, 59, 61), (79, 0, 13), (80, 0, 399), (85, 0, 3), (86, 0, 2), (87, 0, 2), (88, 0, 2), (89, 0, 15)]
theorem count_go {σ0 : Sg} : ∀ (m : Nat) (x4 : Int32) (σ : Sg), LSt σ → Gl mdCount σ0 σ → dlm σ ≤ m → Rn PRG (6 + 1) 264 22 [(0, .ref 97), (4, .int x4)] [] σ (fun v σ' => ∃ w : Int32, v = some (.int w) ∧ Gl mdCount σ0 σ' ∧ I2 σ') := by
  intro m
  induction m with
  | zero =>
    intro x4 σ hL hG hm
    refine w_264_22 σ x4 ⟨_, nextDeal_OK hL.1 hL.2.1 hL.2.2.1 hL.2.2.2, fun w2 σ1 hq => ⟨fun _ => ⟨_, rfl, hG.trans hq.1.1 rfl, hq.2⟩, fun hn => ?_⟩⟩
    have := (nd_LSt hL hq hn).2.2
    omega
  | succ m ih =>
    intro x4 σ hL hG hm
    refine w_264_22 σ x4 ⟨_, nextDeal_OK hL.1 hL.2.1 hL.2.2.1 hL.2.2.2, fun w2 σ1 hq => ⟨fun _ => ⟨_, rfl, hG.trans hq.1.1 rfl, hq.2⟩, fun hn => ?_⟩⟩
    obtain ⟨a1, a2, a3⟩ := nd_LSt hL hq hn
    exact ih _ σ1 a1 (hG.trans a2 rfl) (by omega)
/-- the hand on trial is the one that was dealt -/
theorem tr_wr {p : Nat} {σ : Sg} (ht : typed TYP σ) (hI : I2 σ) (hp : p ≤ 3) : Gl mdCount σ (s1 σ 129 p (σ.1 125 p)) ∧ I2 (s1 σ 129 p (σ.1 125 p)) := by
  have hd := tyA ht (q := 125) (κ := 81) (k := p) (a := 0) (b := 3) (lo := 0) (hi := 65535) rfl rfl (by omega) (by omega)
  have g : Gl mdCount σ (s1 σ 129 p (σ.1 125 p)) := wrG (κ := 85) (a := 0) (b := 3) (vl := 0) (vh := 65535) rfl rfl (Gl.refl ht) rfl (Nat.zero_le _) hp hd.1 hd.2
  have g2 : Gl [(85, 0, 3)] σ (s1 σ 129 p (σ.1 125 p)) := wrG (κ := 85) (a := 0) (b := 3) (vl := 0) (vh := 65535) rfl rfl (Gl.refl ht) rfl (Nat.zero_le _) hp hd.1 hd.2
  exact ⟨g, hI.keep g2 rfl⟩
theorem countDeals_OK {N p i : Nat} {x1 x2 x3 : Int32} {σ : Sg} (ht : typed TYP σ) (hI : I2 σ) (hP : pack N σ) (h1 : x1.toInt = (p : Int)) (hp : p ≤ 3) (h2 : x2.toInt = (i : Int)) (hi : i ≤ 16) (hc : ∀ k, k < i → 0 ≤ (σ.1 126 k).toInt) : OkI PRG 7 264 [.ref 97, .int x1, .int x2, .int x3] σ (fun _ σ' => Gl mdCount σ σ' ∧ I2 σ') := by
  have hin : inR x1 4 = true := inR_ok (by omega) (by omega)
  obtain ⟨g1, i1⟩ := tr_wr ht hI hp
  refine ⟨M_264, rfl, Nat.le_of_ble_eq_true rfl, w_264_0 σ x1 x2 x3 ⟨hin, hin, ?_⟩⟩
  rw [cn_of h1]
  refine ⟨_, beginDeals_OK g1.1 i1 (pack_of (s1_off (by omega)) (s1_off (by omega)) (s1_off (by omega)) hP) h1 hp h2 hi (fun k hk => by rw [s1_off (by omega)]; exact hc k hk), fun σ1 hq => ?_⟩
  exact count_go _ 0 σ1 (bd_LSt hp hq) (g1.trans hq.1 rfl) (Nat.le_refl _)
/-- the cards that were played are cards -/
def CG (σ : Sg) : Prop := ∀ k : Nat, (k : Int) < (σ.1 97 48).toInt → 0 ≤ (σ.1 126 k).toInt
theorem played_rg {σ : Sg} (ht : typed TYP σ) : ∃ n : Nat, (σ.1 97 48).toInt = (n : Int) ∧ n ≤ 16 := by
  have h := tyF ht (q := 97) (κ := 12) (k := 48) (lo := 0) (hi := 16) rfl rfl
  exact ⟨(σ.1 97 48).toInt.toNat, by omega, by omega⟩
theorem canBe_OK {x1 x2 : Int32} {σ : Sg} (ht : typed TYP σ) (hI : I2 σ) (hC : CG σ) : OkI PRG 8 265 [.ref 97, .int x1, .int x2] σ (fun _ σ' => Gl mdCount σ σ' ∧ I2 σ') := by
  obtain ⟨n, hn, hn16⟩ := played_rg ht
  refine ⟨M_265, rfl, Nat.le_of_ble_eq_true rfl, w_265_0 σ x1 x2 ⟨_, canAsk_OK (d := 4) ht hI, fun w2 σ1 hq => ?_⟩⟩
  obtain ⟨q1, q2, -, q3⟩ := hq
  refine ⟨fun _ => ⟨_, rfl, q1.mono rfl, q2⟩, fun hne => ?_⟩
  have hr := q3 hne
  obtain ⟨N, hP⟩ := q2.1.2.2
  have e48 : σ1.1 97 48 = σ.1 97 48 := q1.get (q := 97) (κ := 12) rfl rfl
  have e126 : ∀ k, σ1.1 126 k = σ.1 126 k := fun k => q1.get (q := 126) (κ := 82) rfl rfl
  refine ⟨_, countDeals_OK q1.1 q2 hP (p := x1.toInt.toNat) (by omega) (by omega) (i := n) (by rw [e48]; exact hn) hn16 (fun k hk => by rw [e126]; exact hC k (by omega)), fun w4 σ3 hq => ⟨_, rfl, (q1.mono rfl : Gl mdCount σ σ1).trans hq.1 rfl, hq.2⟩⟩
theorem after_OK {x1 x2 x3 : Int32} {σ : Sg} (ht : typed TYP σ) (hI : I2 σ) (hC : CG σ) : OkI PRG 8 266 [.ref 97, .int x1, .int x2, .int x3] σ (fun _ σ' => Gl mdCount σ σ' ∧ I2 σ') := by
  obtain ⟨n, hn, hn16⟩ := played_rg ht
  refine ⟨M_266, rfl, Nat.le_of_ble_eq_true rfl, w_266_0 σ x1 x2 x3 ⟨_, canAsk_OK (d := 4) ht hI, fun w2 σ1 hq => ?_⟩⟩
  obtain ⟨q1, q2, -, q3⟩ := hq
  refine ⟨fun _ => ⟨_, rfl, q1.mono rfl, q2⟩, fun hne => ?_⟩
  have hr := q3 hne
  obtain ⟨N, hP⟩ := q2.1.2.2
  have e48 : σ1.1 97 48 = σ.1 97 48 := q1.get (q := 97) (κ := 12) rfl rfl
  have e126 : ∀ k, σ1.1 126 k = σ.1 126 k := fun k => q1.get (q := 126) (κ := 82) rfl rfl
  refine ⟨_, in_OK, fun w4 σ3 hq => ?_⟩
  obtain ⟨rfl, hw⟩ := hq
  refine ⟨fun _ => ⟨_, rfl, q1.mono rfl, q2⟩, fun hne2 => ?_⟩
  rcases hw with ⟨-, a, b⟩ | ⟨h0, -⟩
  · rw [e48, hn] at b
    have a : 0 ≤ x2.toInt := a
    refine ⟨_, countDeals_OK q1.1 q2 hP (p := x1.toInt.toNat) (by omega) (by omega) (i := x2.toInt.toNat) (by omega) (by omega) (fun k hk => by rw [e126]; exact hC k (by omega)), fun w6 σ5 hq => ⟨_, rfl, (q1.mono rfl : Gl mdCount σ σ3).trans hq.1 rfl, hq.2⟩⟩
  · exact absurd h0 hne2
