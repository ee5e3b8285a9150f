/-! play, revoke, undo, lead: what must hold -/
set_option maxRecDepth 100000 in
theorem w_217_0 {d : Nat} {Q : Option Value → Sg → Prop} (σ : Sg) (x1 : Int32) (h : (∃ Qc : Int32 → Sg → Prop, OkI PRG d 210 [.ref 97] σ Qc ∧ ∀ w2 σ1, Qc w2 σ1 → (∃ Qc : Int32 → Sg → Prop, OkI PRG d 195 [.int x1, .int (0 : Int32), .int (w2 - (1 : Int32))] σ1 Qc ∧ ∀ w4 σ3, Qc w4 σ3 → ((w4 = 0 ∨ w4 = 1) ∧ Q (some (.int w4)) σ3)))) : Rn PRG (d + 1) 217 0 [(0, .ref 97), (1, .int x1)] [] σ Q := by
  have hM : PRG[217]? = some M_217 := rfl
  refine Rn.seg (pc' := 3) (ls' := [(0, .ref 97), (1, .int x1)]) (st' := [.ref 97, .int (0 : Int32), .int x1]) (σ' := σ) hM 3 rfl ?_
  obtain ⟨Qc, hq, h⟩ := h
  refine Rn.cI hM rfl rfl (by decide) hq (fun w2 σ1 hw => ?_)
  replace h := h w2 σ1 hw
  refine Rn.seg (pc' := 8) (ls' := [(0, .ref 97), (1, .int x1)]) (st' := [.int (w2 - (1 : Int32)), .int (0 : Int32), .int x1]) (σ' := σ1) hM 2 rfl ?_
  obtain ⟨Qc, hq, h⟩ := h
  refine Rn.cI hM rfl rfl (by decide) hq (fun w4 σ3 hw => ?_)
  replace h := h w4 σ3 hw
  refine Rn.seg (pc' := 11) (ls' := [(0, .ref 97), (1, .int x1)]) (st' := [.int w4]) (σ' := σ3) hM 0 rfl ?_
  exact Rn.retZ hM rfl rfl h.1 h.2
/-! play, revoke, undo, lead -/
theorem isCardN_OK {d N : Nat} {x : Int32} {σ : Sg} (ht : typed TYP σ) (hP : pack N σ) : OkI PRG (d + 1) 217 [.ref 97, .int x] σ (fun w σ' => σ' = σ ∧ (¬ w = 0 → 0 ≤ x.toInt ∧ x.toInt < (N : Int))) := by
  have hN := hP.le
  have one : (1 : Int32).toInt = 1 := by decide
  refine ⟨M_217, rfl, Nat.le_of_ble_eq_true rfl, w_217_0 σ x ⟨_, cards_OK ht hP, fun w2 σ1 hq => ?_⟩⟩
  obtain ⟨rfl, hw⟩ := hq
  have e : (w2 - (1 : Int32)).toInt = (N : Int) - 1 := by
    rw [sub_ex (by rw [hw, one]; unfold FL; omega) (by rw [hw, one]; unfold FH; omega), hw, one]
  refine ⟨_, in_OK, fun w4 σ3 hq => ?_⟩
  obtain ⟨rfl, h⟩ := hq
  rcases h with ⟨rfl, a, b⟩ | ⟨rfl, -⟩
  · rw [e] at b
    have a : 0 ≤ x.toInt := a
    exact ⟨Or.inr rfl, _, rfl, rfl, fun _ => ⟨a, by clear e; omega⟩⟩
  · exact ⟨Or.inl rfl, _, rfl, rfl, fun h => absurd rfl h⟩
/-- one card more -/
theorem GI.plays {N n : Nat} {w0 x hand : Int32} {σ : Sg} (h : GI N σ) (hd : ¬ (σ.1 97 45) = 0) (hn : (σ.1 97 48).toInt = (n : Int)) (hlt : n < N) (h0 : 0 ≤ w0.toInt) (h3 : w0.toInt ≤ 3) (hord : ¬ n % 4 = 0 → w0.toInt = ((σ.1 127 (n - 1)).toInt + 1) % 4) (hx0 : 0 ≤ x.toInt) (hxN : x.toInt < (N : Int)) (hh : hnP σ w0 hand) (hb : bt hand x.toInt.toNat = true) : GI N (s1 (s1 (s1 σ 126 n x) 127 n w0) 97 48 ((σ.1 97 48) + (1 : Int32))) := by
  obtain ⟨ht, hI, hP, hT, ⟨g1, g2⟩, hH⟩ := h
  have hN := hP.le
  have hwn : wn (σ.1 97 48) = n := by unfold wn; omega
  have e1 : ((σ.1 97 48) + (1 : Int32)).toInt = (n : Int) + 1 := add_lit hn (by decide) (by unfold FL; omega) (by unfold FH; omega)
  have k1 : Gl [(82, 0, 15), (83, 0, 15), (12, 48, 48)] σ (s1 σ 126 n x) := wrG (κ := 82) (a := 0) (b := 15) (vl := 0) (vh := 15) rfl rfl (Gl.refl ht) rfl (Nat.zero_le _) (by omega) hx0 (by omega)
  have k2 := wrG (x := w0) (q := 127) (k := n) (κ := 83) (a := 0) (b := 15) (vl := 0) (vh := 3) rfl rfl k1 rfl (Nat.zero_le _) (by omega) h0 h3
  have k3 := wrG (x := (σ.1 97 48) + (1 : Int32)) (q := 97) (k := 48) (κ := 12) (a := 48) (b := 48) (vl := 0) (vh := 16) rfl rfl k2 rfl (Nat.le_refl _) (Nat.le_refl _) (by rw [e1]; clear e1; omega) (by rw [e1]; clear e1; omega)
  obtain ⟨y, hy, rfl⟩ := hh
  rw [hwn] at hy
  rw [bt_and, Bool.and_eq_true, bt_not _ (by omega), Bool.not_eq_true'] at hb
  have hpl := g2 hd
  rw [hwn] at hpl
  generalize hσ9 : s1 (s1 (s1 σ 126 n x) 127 n w0) 97 48 ((σ.1 97 48) + (1 : Int32)) = σ9 at k3 ⊢
  have f126 : ∀ k, ¬ k = n → σ9.1 126 k = σ.1 126 k := fun k hk => by rw [← hσ9, s1_off (by omega), s1_off (by omega), s1_off (fun h => hk h.2)]
  have f127 : ∀ k, ¬ k = n → σ9.1 127 k = σ.1 127 k := fun k hk => by rw [← hσ9, s1_off (by omega), s1_off (fun h => hk h.2), s1_off (by omega)]
  have f126n : σ9.1 126 n = x := by rw [← hσ9, s1_off (by omega), s1_off (by omega), s1_on]
  have f127n : σ9.1 127 n = w0 := by rw [← hσ9, s1_off (by omega), s1_on]
  have f48 : (σ9.1 97 48).toInt = (n : Int) + 1 := by rw [← hσ9, s1_on]; exact e1
  have f45 : σ9.1 97 45 = σ.1 97 45 := k3.get (q := 97) (κ := 12) rfl rfl
  have f125 : ∀ k, σ9.1 125 k = σ.1 125 k := fun k => k3.get (q := 125) (κ := 81) rfl rfl
  clear e1
  refine ⟨k3.1, hI.keep k3 rfl, pack_of (k3.get (q := 97) (κ := 12) rfl rfl) (k3.get (q := 106) (κ := 62) rfl rfl) (k3.get (q := 107) (κ := 63) rfl rfl) hP, hT.keep k3 rfl, ⟨fun h => absurd (by rw [← f45]; exact h) hd, fun _ => ?_⟩, fun s hs hs0 => ?_⟩
  · have hw9 : wn (σ9.1 97 48) = n + 1 := by unfold wn; omega
    rw [hw9]
    have hpl' : PL N (σ9.1 125) n (σ.1 126) (σ.1 127) := hpl.congr (fun p _ => f125 p) (fun _ _ => rfl) (fun _ _ => rfl)
    refine hpl'.push (p := wn w0) (c := x.toInt.toNat) hlt (by unfold wn; omega) (by omega) (by rw [f125]; exact hb.1) ?_ (fun hn4 => ?_) (fun k hk => f126 k (by omega)) (fun k hk => f127 k (by omega)) (by rw [f126n]; omega) (by rw [f127n]; unfold wn; omega)
    · rintro ⟨k, hk, b1, b2⟩
      have := (hy.1 x.toInt.toNat (by omega)).mpr ⟨k, hk, Int32.toInt_inj.mp (by rw [b1]; unfold wn; omega), b2⟩
      rw [this] at hb
      cases hb.2
    · have := hord hn4
      unfold wn
      omega
  · have e152 : ∀ k, σ9.1 152 k = σ.1 152 k := fun k => k3.get (q := 152) (κ := 108) rfl rfl
    have e153 : ∀ k, σ9.1 153 k = σ.1 153 k := fun k => k3.get (q := 153) (κ := 109) rfl rfl
    have e155 : ∀ k, σ9.1 155 k = σ.1 155 k := fun k => k3.get (q := 155) (κ := 111) rfl rfl
    have e156 : ∀ k, σ9.1 156 k = σ.1 156 k := fun k => k3.get (q := 156) (κ := 112) rfl rfl
    have e157 : ∀ k, σ9.1 157 k = σ.1 157 k := fun k => k3.get (q := 157) (κ := 113) rfl rfl
    rw [e152] at hs0
    rw [e155]
    exact (hH s hs hs0).congr (fun p _ => e153 _) (fun k _ => e156 _) (fun k _ => e157 _)
/-- the turn when one can play -/
theorem tn_play {N n : Nat} {w0 : Int32} {σ : Sg} (h : tnP N σ w0) (h0 : 0 ≤ w0.toInt) (hn : (σ.1 97 48).toInt = (n : Int)) : ¬ (σ.1 97 45) = 0 ∧ ¬ n = N ∧ w0.toInt ≤ 3 ∧ (¬ n % 4 = 0 → w0.toInt = ((σ.1 127 (n - 1)).toInt + 1) % 4) := by
  rcases h with ⟨-, h⟩ | ⟨a, b, -, c, e⟩
  · omega
  · exact ⟨a, fun h => b (by rw [hn, h]), c, fun hn4 => e n hn hn4⟩
theorem GI.le {N n : Nat} {σ : Sg} (h : GI N σ) (hd : ¬ (σ.1 97 45) = 0) (hn : (σ.1 97 48).toInt = (n : Int)) : n ≤ N := by
  have := (h.2.2.2.2.1.2 hd).1
  have hwn : wn (σ.1 97 48) = n := by unfold wn; omega
  omega
theorem revoke_OK {d N : Nat} {x1 : Int32} {σ : Sg} (h : GI N σ) : OkI PRG (d + 1 + 1 + 1 + 1 + 1) 238 [.ref 97, .int x1] σ (fun _ σ' => GI N σ' ∧ Gl [(82, 0, 15), (83, 0, 15), (12, 48, 48)] σ σ') := by
  obtain ⟨ht, hI, hP, hT, hS, hH⟩ := h
  have h : GI N σ := ⟨ht, hI, hP, hT, hS, hH⟩
  obtain ⟨n, hn, hn16⟩ := played_rg ht
  obtain ⟨w0, hw0, hTn⟩ := turn_fix ht hP
  refine ⟨M_238, rfl, Nat.le_of_ble_eq_true rfl, w_238_0 σ x1 ⟨_, canPlay_OK ht hI hP hw0 hTn (isCardN_OK ht hP), fun w2 σ1 hq => ?_⟩⟩
  obtain ⟨rfl, hq⟩ := hq
  refine ⟨fun _ => ⟨_, rfl, h, Gl.refl ht⟩, fun hne => ⟨_, hTn _, fun w4 σ3 hq4 => ?_⟩⟩
  obtain ⟨rfl, rfl⟩ := hq4
  obtain ⟨q1, q2, q3, hand, q4, q5⟩ := hq hne
  obtain ⟨t1, t2, t3, t4⟩ := tn_play hw0 q1 hn
  have hle := h.le t1 hn
  have hlt : n < N := by omega
  have hin : inR (σ3.1 97 48) 16 = true := inR_ok (by omega) (by have := hP.le; omega)
  have hgi := h.plays t1 hn hlt q1 t3 t4 q2 q3 q4 q5
  have hc : (σ3.1 97 48).toNatClampNeg = n := cn_of hn
  refine ⟨fun w σ' => GI N σ' ∧ Gl [(82, 0, 15), (83, 0, 15), (12, 48, 48)] σ3 σ', ⟨M_235, rfl, Nat.le_of_ble_eq_true rfl, w_235_0 σ3 w4 x1 ⟨hin, hin, _, rfl, ?_⟩⟩, fun w6 σ5 hq6 => ⟨_, rfl, hq6⟩⟩
  rw [hc]
  refine ⟨hgi, hgi.1, trivial, fun q κ k hq hk => ?_⟩
  rw [s1_off (fun ⟨a, b⟩ => by
    subst a; subst b
    have h9 : kdn 97 = some 12 := rfl
    rw [h9] at hq; cases hq; cases hk), s1_off (fun ⟨a, b⟩ => by
    subst a
    have h9 : kdn 127 = some 83 := rfl
    rw [h9] at hq; cases hq
    rw [inM_of (κ := 83) (a := 0) (b := 15) (by decide) (by omega) (by have := hP.le; omega)] at hk
    cases hk), s1_off (fun ⟨a, b⟩ => by
    subst a
    have h9 : kdn 126 = some 82 := rfl
    rw [h9] at hq; cases hq
    rw [inM_of (κ := 82) (a := 0) (b := 15) (by decide) (by omega) (by have := hP.le; omega)] at hk
    cases hk)]
theorem play_OK {d N : Nat} {x1 : Int32} {σ : Sg} (h : GI N σ) : OkI PRG (d + 1 + 1 + 1 + 1 + 1) 237 [.ref 97, .int x1] σ (fun _ σ' => GI N σ') := by
  obtain ⟨ht, hI, hP, hT, hS, hH⟩ := h
  have h : GI N σ := ⟨ht, hI, hP, hT, hS, hH⟩
  obtain ⟨n, hn, hn16⟩ := played_rg ht
  obtain ⟨w0, hw0, hTn⟩ := turn_fix ht hP
  refine ⟨M_237, rfl, Nat.le_of_ble_eq_true rfl, w_237_0 σ x1 ⟨_, canPlay_OK ht hI hP hw0 hTn (isCardN_OK ht hP), fun w2 σ1 hq => ?_⟩⟩
  obtain ⟨rfl, hq⟩ := hq
  refine ⟨fun _ => ⟨_, rfl, h⟩, fun hne => ⟨_, mayNow_OK ht hP hw0 hTn, fun w4 σ3 hq4 => ?_⟩⟩
  obtain ⟨rfl, -⟩ := hq4
  refine ⟨fun _ => ⟨_, rfl, h⟩, fun _ => ⟨_, hTn _, fun w6 σ5 hq6 => ?_⟩⟩
  obtain ⟨rfl, rfl⟩ := hq6
  obtain ⟨q1, q2, q3, hand, q4, q5⟩ := hq hne
  obtain ⟨t1, t2, t3, t4⟩ := tn_play hw0 q1 hn
  have hle := h.le t1 hn
  have hlt : n < N := by omega
  have hin : inR (σ5.1 97 48) 16 = true := inR_ok (by omega) (by have := hP.le; omega)
  have hgi := h.plays t1 hn hlt q1 t3 t4 q2 q3 q4 q5
  have hc : (σ5.1 97 48).toNatClampNeg = n := cn_of hn
  refine ⟨fun w σ' => GI N σ', ⟨M_235, rfl, Nat.le_of_ble_eq_true rfl, w_235_0 σ5 w6 x1 ⟨hin, hin, _, rfl, ?_⟩⟩, fun w8 σ7 hq8 => ⟨_, rfl, hq8⟩⟩
  rw [hc]
  exact hgi
theorem undo_OK {d N : Nat} {σ : Sg} (h : GI N σ) : OkI PRG d 239 [.ref 97] σ (fun _ σ' => GI N σ') := by
  obtain ⟨ht, hI, hP, hT, ⟨g1, g2⟩, hH⟩ := h
  have h : GI N σ := ⟨ht, hI, hP, hT, ⟨g1, g2⟩, hH⟩
  obtain ⟨n, hn, hn16⟩ := played_rg ht
  have one : (1 : Int32).toInt = 1 := by decide
  refine ⟨M_239, rfl, Nat.le_of_ble_eq_true rfl, w_239_0 σ ⟨fun _ => ⟨_, rfl, h⟩, fun c => ⟨_, rfl, ?_⟩⟩⟩
  have hn0 : ¬ n = 0 := fun h0 => c (Int32.toInt_inj.mp (by rw [hn, h0]; rfl))
  have hd : ¬ (σ.1 97 45) = 0 := fun h0 => by have := g1 h0; omega
  have e1 : ((σ.1 97 48) - (1 : Int32)).toInt = (n : Int) - 1 := by
    rw [sub_ex (by rw [hn, one]; unfold FL; omega) (by rw [hn, one]; unfold FH; omega), hn, one]
  have k3 : Gl [(12, 48, 48)] σ (s1 σ 97 48 ((σ.1 97 48) - (1 : Int32))) := wrG (κ := 12) (a := 48) (b := 48) (vl := 0) (vh := 16) rfl rfl (Gl.refl ht) rfl (Nat.le_refl _) (Nat.le_refl _) (by rw [e1]; clear e1; omega) (by rw [e1]; clear e1; omega)
  have hwn : wn (σ.1 97 48) = n - 1 + 1 := by unfold wn; clear e1; omega
  have hpl := g2 hd
  rw [hwn] at hpl
  have f48 : wn ((s1 σ 97 48 ((σ.1 97 48) - (1 : Int32))).1 97 48) = n - 1 := by
    rw [s1_on]; unfold wn; rw [e1]; clear e1; omega
  refine ⟨k3.1, hI.keep k3 rfl, pack_of (k3.get (q := 97) (κ := 12) rfl rfl) (k3.get (q := 106) (κ := 62) rfl rfl) (k3.get (q := 107) (κ := 63) rfl rfl) hP, hT.keep k3 rfl, ⟨fun h0 => absurd (by rw [s1_off (by omega)] at h0; exact h0) hd, fun _ => ?_⟩, fun s hs hs0 => ?_⟩
  · rw [f48]
    exact hpl.pop.congr (fun p _ => s1_off (by omega)) (fun k _ => s1_off (by omega)) (fun k _ => s1_off (by omega))
  · rw [s1_off (by omega)] at hs0
    rw [s1_off (by omega)]
    exact (hH s hs hs0).congr (fun p _ => s1_off (by omega)) (fun k _ => s1_off (by omega)) (fun k _ => s1_off (by omega))
theorem lead_OK {d N : Nat} {x1 : Int32} {σ : Sg} (h : GI N σ) : OkI PRG (d + 1 + 1) 224 [.ref 97, .int x1] σ (fun _ σ' => GI N σ') := by
  obtain ⟨ht, hI, hP, hT, hS, hH⟩ := h
  have h : GI N σ := ⟨ht, hI, hP, hT, hS, hH⟩
  refine ⟨M_224, rfl, Nat.le_of_ble_eq_true rfl, w_224_0 σ x1 ⟨fun _ => ⟨_, rfl, h⟩, fun _ => ⟨fun _ => ⟨_, rfl, h⟩, fun _ => ⟨_, isPlayer_OK ht hI, fun w2 σ1 hq => ?_⟩⟩⟩⟩
  obtain ⟨q1, q2, q3⟩ := hq
  have h1 : GI N σ1 := h.keep q1 rfl q2 (hT.keep q1 rfl)
  refine ⟨fun _ => ⟨_, rfl, h1⟩, fun hne => ⟨_, rfl, ?_⟩⟩
  have hr := q3 hne
  have k : Gl [(12, 47, 47)] σ1 (s1 σ1 97 47 x1) := wrG (κ := 12) (a := 47) (b := 47) (vl := 0) (vh := 3) rfl rfl (Gl.refl q1.1) rfl (Nat.le_refl _) (Nat.le_refl _) hr.1 hr.2
  exact h1.keep k rfl (q2.keep k rfl) (h1.2.2.2.1.keep k rfl)
