/-! read of the class: what must hold -/
set_option maxRecDepth 100000 in
theorem w_71_0 {d : Nat} {Q : Option Value → Sg → Prop} (σ : Sg) (h : Q none (s1 (s1 (s1 (s1 (s1 σ 3 0 (4 : Int32)) 3 1 (4 : Int32)) 3 2 (-1 : Int32)) 3 3 (0 : Int32)) 3 9 (0 : Int32))) : Rn PRG d 71 0 [(0, .ref 3)] [] σ Q := by
  have hM : PRG[71]? = some M_71 := rfl
  refine Rn.seg (pc' := 25) (ls' := [(0, .ref 3)]) (st' := []) (σ' := (s1 (s1 (s1 (s1 (s1 σ 3 0 (4 : Int32)) 3 1 (4 : Int32)) 3 2 (-1 : Int32)) 3 3 (0 : Int32)) 3 9 (0 : Int32))) hM 15 rfl ?_
  exact Rn.ret hM rfl rfl h
set_option maxRecDepth 100000 in
theorem w_124_0 {d : Nat} {Q : Option Value → Sg → Prop} (σ : Sg) (h : (∃ Qc : Sg → Prop, OkV PRG d 100 [.ref 15, .ref 1, .int (σ.1 0 1)] σ Qc ∧ ∀ σ1, Qc σ1 → (∃ Qc : Int32 → Sg → Prop, OkI PRG d 114 [.ref 15, .int (0 : Int32)] (s1 σ1 0 1 (0 : Int32)) Qc ∧ ∀ w3 σ2, Qc w3 σ2 → ((w3 = 0 → (∃ Qc : Sg → Prop, OkV PRG d 71 [.ref 3] σ2 Qc ∧ ∀ σ4, Qc σ4 → (∃ Qc : Int32 → Sg → Prop, OkI PRG d 114 [.ref 15, .int (1 : Int32)] σ4 Qc ∧ ∀ w6 σ5, Qc w6 σ5 → (∃ Qc : Sg → Prop, OkV PRG d 75 [.ref 3] σ5 Qc ∧ ∀ σ7, Qc σ7 → (∃ Qc : Sg → Prop, OkV PRG d 123 [.ref 0] σ7 Qc ∧ ∀ σ8, Qc σ8 → Rn PRG (d + 1) 124 60 [(1, .int w3)] [] σ8 Q))))) ∧ (¬ w3 = 0 → Rn PRG (d + 1) 124 60 [(1, .int w3)] [] σ2 Q))))) : Rn PRG (d + 1) 124 0 [(0, .ref 0)] [] σ Q := by
  have hM : PRG[124]? = some M_124 := rfl
  refine Rn.seg (pc' := 12) (ls' := [(0, .ref 0)]) (st' := [.int (σ.1 0 1), .ref 1, .ref 15]) (σ' := σ) hM 6 rfl ?_
  obtain ⟨Qc, hq, h⟩ := h
  refine Rn.cV hM rfl rfl (by decide) hq (fun σ1 hw => ?_)
  replace h := h σ1 hw
  refine Rn.seg (pc' := 25) (ls' := [(0, .ref 0)]) (st' := [.int (0 : Int32), .ref 15]) (σ' := (s1 σ1 0 1 (0 : Int32))) hM 6 rfl ?_
  obtain ⟨Qc, hq, h⟩ := h
  refine Rn.cI hM rfl rfl (by decide) hq (fun w3 σ2 hw => ?_)
  replace h := h w3 σ2 hw
  refine Rn.brN (c := w3 = 0) (a := 60) (b := 33) (ls' := [(1, .int w3), (0, .ref 0)]) (st' := []) (σ' := σ2) hM 3 rfl (fun c => ?_) (fun c => ?_)
  · replace h := h.2 c
    refine Rn.seg (pc' := 60) (ls' := [(1, .int w3), (0, .ref 0)]) (st' := []) (σ' := σ2) hM 0 rfl ?_
    exact Rn.sub h (subL_cons rfl subL_nil) (show ndL _ from (by decide : List.Nodup ([1] : List Nat)))
  · replace h := h.1 c
    refine Rn.seg (pc' := 37) (ls' := [(1, .int w3), (0, .ref 0)]) (st' := [.ref 3]) (σ' := σ2) hM 2 rfl ?_
    obtain ⟨Qc, hq, h⟩ := h
    refine Rn.cV hM rfl rfl (by decide) hq (fun σ4 hw => ?_)
    replace h := h σ4 hw
    refine Rn.seg (pc' := 45) (ls' := [(1, .int w3), (0, .ref 0)]) (st' := [.int (1 : Int32), .ref 15]) (σ' := σ4) hM 3 rfl ?_
    obtain ⟨Qc, hq, h⟩ := h
    refine Rn.cI hM rfl rfl (by decide) hq (fun w6 σ5 hw => ?_)
    replace h := h w6 σ5 hw
    refine Rn.seg (pc' := 53) (ls' := [(1, .int w3), (0, .ref 0)]) (st' := [.ref 3]) (σ' := σ5) hM 3 rfl ?_
    obtain ⟨Qc, hq, h⟩ := h
    refine Rn.cV hM rfl rfl (by decide) hq (fun σ7 hw => ?_)
    replace h := h σ7 hw
    refine Rn.seg (pc' := 57) (ls' := [(1, .int w3), (0, .ref 0)]) (st' := [.ref 0]) (σ' := σ7) hM 1 rfl ?_
    obtain ⟨Qc, hq, h⟩ := h
    refine Rn.cV hM rfl rfl (by decide) hq (fun σ8 hw => ?_)
    replace h := h σ8 hw
    refine Rn.seg (pc' := 60) (ls' := [(1, .int w3), (0, .ref 0)]) (st' := []) (σ' := σ8) hM 0 rfl ?_
    exact Rn.sub h (subL_cons rfl subL_nil) (show ndL _ from (by decide : List.Nodup ([1] : List Nat)))
set_option maxRecDepth 100000 in
theorem w_124_60 {d : Nat} {Q : Option Value → Sg → Prop} (σ : Sg) (x1 : Int32) (h : Q (some (.int x1)) σ) : Rn PRG (d + 1) 124 60 [(1, .int x1)] [] σ Q := by
  have hM : PRG[124]? = some M_124 := rfl
  refine Rn.seg (pc' := 61) (ls' := [(1, .int x1)]) (st' := [.int x1]) (σ' := σ) hM 1 rfl ?_
  exact Rn.ret hM rfl rfl h
/-! read, of the class -/
theorem stTop : stab (fun _ => True) DEP := ⟨fun _ _ _ _ _ _ _ _ => trivial, fun _ _ _ _ _ => trivial⟩
theorem clear_OK {d : Nat} {σ : Sg} (ht : typed TYP σ) : OkV PRG d 71 [.ref 3] σ (fun σ' => Gl [(5, 0, 3), (5, 9, 9)] σ σ' ∧ LW σ' ∧ σ'.2 = σ.2) := by
  refine ⟨M_71, rfl, Nat.le_of_ble_eq_true rfl, w_71_0 σ ⟨rfl, ?_, ?_, rfl⟩⟩
  · have a1 : Gl [(5, 0, 3), (5, 9, 9)] σ (s1 σ 3 0 (4 : Int32)) := wrG (κ := 5) (a := 0) (b := 0) (vl := 1) (vh := 4) rfl rfl (Gl.refl ht) rfl (Nat.le_refl _) (Nat.le_refl _) (by decide) (by decide)
    have a2 := wrG (x := (4 : Int32)) (q := 3) (k := 1) (κ := 5) (a := 1) (b := 1) (vl := 1) (vh := 16) rfl rfl a1 rfl (Nat.le_refl _) (Nat.le_refl _) (by decide) (by decide)
    have a3 := wrG (x := (-1 : Int32)) (q := 3) (k := 2) (κ := 5) (a := 2) (b := 2) (vl := -1) (vh := 3) rfl rfl a2 rfl (Nat.le_refl _) (Nat.le_refl _) (by decide) (by decide)
    have a4 := wrG (x := (0 : Int32)) (q := 3) (k := 3) (κ := 5) (a := 3) (b := 3) (vl := 0) (vh := 6) rfl rfl a3 rfl (Nat.le_refl _) (Nat.le_refl _) (by decide) (by decide)
    exact wrG (x := (0 : Int32)) (q := 3) (k := 9) (κ := 5) (a := 9) (b := 9) (vl := 0) (vh := 400) rfl rfl a4 rfl (Nat.le_refl _) (Nat.le_refl _) (by decide) (by decide)
  · unfold LW PKv
    rw [s1_off (by omega), s1_off (by omega), s1_off (by omega), s1_off (by omega), s1_on, s1_off (by omega), s1_off (by omega), s1_off (by omega), s1_on]
    decide
def mdSe : List (Nat × Nat × Nat) := [(5, 2, 2), (5, 10, 10), (5, 11, 11), (5, 15, 15), (28, 0, 3), (29, 0, 15), (30, 0, 1819)]
theorem settle1 {sp : SP} {s r : Int} (h : SpecOK PRG TYP (fun _ => True) 75 sp) (ha : spArgs sp = [(1, 5, 0)]) (hp : spPre sp = [(0, 0, s, s), (0, 1, r, r)]) (hf : spPhi sp = []) (hr : spRes sp = none) (hd : spD sp ≤ 2) (hm : subMs (spMods sp) mdSe = true) {σ : Sg} (ht : typed TYP σ) (hs : (σ.1 3 0).toInt = s) (hr2 : (σ.1 3 1).toInt = r) : OkV PRG 2 75 [.ref 3] σ (fun σ' => Gl mdSe σ σ') := by
  refine Ok.deep (Ok.mono (h.2 [.ref 3] σ ht trivial (by rw [ha]; exact avsC ⟨3, rfl, rfl⟩ avsN) (fun p hp2 => ?_) (fun p hp2 => by rw [hf] at hp2; cases hp2)) (fun v σ' hq => ?_)) hd
  · rw [hp] at hp2
    rcases List.mem_cons.mp hp2 with rfl | hp2
    · exact ⟨3, rfl, by show s ≤ (σ.1 3 0).toInt; omega, by show (σ.1 3 0).toInt ≤ s; omega⟩
    · rcases List.mem_cons.mp hp2 with rfl | hp2
      · exact ⟨3, rfl, by show r ≤ (σ.1 3 1).toInt; omega, by show (σ.1 3 1).toInt ≤ r; omega⟩
      · cases hp2
  · obtain ⟨⟨g1, g2, g3⟩, g4, -⟩ := hq
    rw [hr] at g4
    have g : Gl (spMods sp) σ σ' := ⟨g1, trivial, g3⟩
    refine ⟨?_, g.mono hm⟩
    cases v with
    | none => rfl
    | some v => exact absurd g4 (fun h => h)
theorem settle_OK {σ : Sg} (ht : typed TYP σ) (hL : LW σ) : OkV PRG 2 75 [.ref 3] σ (fun σ' => Gl mdSe σ σ') := by
  obtain ⟨h1, h2, h3, h4, h5, h6⟩ := hL
  have hs : (σ.1 3 0).toInt = 1 ∨ (σ.1 3 0).toInt = 2 ∨ (σ.1 3 0).toInt = 3 ∨ (σ.1 3 0).toInt = 4 := by omega
  generalize hr : (σ.1 3 1).toInt = r at h3 h4 h5 h6
  rcases hs with e | e | e | e <;> rw [e] at h5 h6
  · have : r = 4 ∨ r = 8 ∨ r = 12 ∨ r = 16 := by omega
    rcases this with rfl | rfl | rfl | rfl
    · exact settle1 (c_75p1_4 stTop) rfl rfl rfl rfl (by decide) rfl ht e hr
    · exact settle1 (c_75p1_8 stTop) rfl rfl rfl rfl (by decide) rfl ht e hr
    · exact settle1 (c_75p1_12 stTop) rfl rfl rfl rfl (by decide) rfl ht e hr
    · exact settle1 (c_75p1_16 stTop) rfl rfl rfl rfl (by decide) rfl ht e hr
  · have : r = 2 ∨ r = 4 ∨ r = 6 ∨ r = 8 := by omega
    rcases this with rfl | rfl | rfl | rfl
    · exact settle1 (c_75p2_2 stTop) rfl rfl rfl rfl (by decide) rfl ht e hr
    · exact settle1 (c_75p2_4 stTop) rfl rfl rfl rfl (by decide) rfl ht e hr
    · exact settle1 (c_75p2_6 stTop) rfl rfl rfl rfl (by decide) rfl ht e hr
    · exact settle1 (c_75p2_8 stTop) rfl rfl rfl rfl (by decide) rfl ht e hr
  · have : r = 4 := by omega
    subst this
    exact settle1 (c_75p3_4 stTop) rfl rfl rfl rfl (by decide) rfl ht e hr
  · have : r = 1 ∨ r = 2 ∨ r = 3 ∨ r = 4 := by omega
    rcases this with rfl | rfl | rfl | rfl
    · exact settle1 (c_75p4_1 stTop) rfl rfl rfl rfl (by decide) rfl ht e hr
    · exact settle1 (c_75p4_2 stTop) rfl rfl rfl rfl (by decide) rfl ht e hr
    · exact settle1 (c_75p4_3 stTop) rfl rfl rfl rfl (by decide) rfl ht e hr
    · exact settle1 (c_75p4_4 stTop) rfl rfl rfl rfl (by decide) rfl ht e hr
def mdRd : List (Nat × Nat × Nat) := [(9, 4, 4), (36, 0, 401), (37, 0, 401), (11, 1, 1), (8, 3, 10), (5, 0, 3), (5, 9, 11), (5, 15, 15), (23, 0, 5), (24, 0, 5), (25, 0, 11), (26, 0, 11), (27, 0, 399), (28, 0, 3), (29, 0, 15), (30, 0, 1819), (0, 2, 2), (3, 2, 2), (3, 6, 7), (3, 17, 17), (6, 13, 13), (10, 4, 4), (20, 0, 1023), (33, 0, 3)]
theorem readC_OK {σ : Sg} (ht : typed TYP σ) : OkI PRG 20 124 [.ref 0] σ (fun _ σ' => Gl mdRd σ σ' ∧ (σ'.1 0 1).toInt = 0) := by
  have k0 : (0 : Int32).toInt = 0 := by decide
  have tz := tyF ht (q := 0) (κ := 11) (k := 1) (lo := 0) (hi := 2000) rfl rfl
  refine ⟨M_124, rfl, Nat.le_of_ble_eq_true rfl, w_124_0 σ ⟨_, OkV.deep ((c_100 stTop).atV ht trivial (avsC ⟨15, rfl, rfl⟩ (avsC ⟨1, rfl, rfl⟩ (avsC (avI tz.1 tz.2) avsN))) rfl rfl rfl) (show 3 ≤ 19 by omega), fun σ1 hq1 => ?_⟩⟩
  have g2 : Gl mdRd σ (s1 σ1 0 1 (0 : Int32)) := wrG (κ := 11) (a := 1) (b := 1) (vl := 0) (vh := 2000) rfl rfl (hq1.1.mono rfl) rfl (Nat.le_refl _) (Nat.le_refl _) (by decide) (by decide)
  have z2 : (s1 σ1 0 1 (0 : Int32)).1 0 1 = 0 := s1_on
  generalize s1 σ1 0 1 (0 : Int32) = σ2 at g2 z2
  obtain ⟨T, hT⟩ : ∃ T : Nat → Int32, ∀ i, i ≤ 401 → σ2.1 18 i = T i := ⟨_, fun i _ => rfl⟩
  obtain ⟨val, hval⟩ : ∃ val : Nat → Int64, σ2.2 20 = val := ⟨_, rfl⟩
  refine ⟨_, pass_OK g2.1 hT hval (Or.inl rfl) (fun h => absurd rfl h), fun w3 σ3 hq3 => ?_⟩
  obtain ⟨g3, c3, e3, -⟩ := hq3
  have z3 : σ3.1 0 1 = 0 := (g3.get (q := 0) (κ := 11) rfl rfl).trans z2
  have r3 : Gl mdRd σ σ3 := g2.trans g3 rfl
  refine ⟨fun h => ⟨_, clear_OK g3.1, fun σ4 hq4 => ?_⟩, fun _ => w_124_60 σ3 w3 ⟨w3, rfl, r3, by rw [z3]; exact k0⟩⟩
  obtain ⟨g4, lw4, l4⟩ := hq4
  have c4 : CX T val σ4 := c3.keep g4 rfl (by rw [l4])
  have z4 : σ4.1 0 1 = 0 := (g4.get (q := 0) (κ := 11) rfl rfl).trans z3
  refine ⟨_, pass_OK g4.1 c4.1 c4.2 (Or.inr rfl) (fun _ => ⟨lw4, e3 h⟩), fun w6 σ5 hq5 => ?_⟩
  obtain ⟨g5, -, -, lw5⟩ := hq5
  have z5 : σ5.1 0 1 = 0 := (g5.get (q := 0) (κ := 11) rfl rfl).trans z4
  refine ⟨_, OkV.deep (settle_OK g5.1 (lw5 (by decide))) (show 2 ≤ 19 by omega), fun σ7 g7 => ?_⟩
  have z7 : σ7.1 0 1 = 0 := (g7.get (q := 0) (κ := 11) rfl rfl).trans z5
  refine ⟨_, OkV.deep ((c_123 stTop).atV g7.1 trivial (avsC ⟨0, rfl, rfl⟩ avsN) rfl rfl rfl) (show 2 ≤ 19 by omega), fun σ8 hq8 => ?_⟩
  have z8 : σ8.1 0 1 = 0 := (hq8.1.get (q := 0) (κ := 11) rfl rfl).trans z7
  exact w_124_60 σ8 w3 ⟨w3, rfl, (((r3.trans g4 rfl).trans g5 rfl).trans g7 rfl).trans hq8.1 rfl, by rw [z8]; exact k0⟩
