/-! both sides, call by call -/
theorem OkJ.mono {P : List MI} {d mi : Nat} {av : List Value} {σ : Sg} {Q Q' : Int64 → Sg → Prop} (h : OkJ P d mi av σ Q) (hq : ∀ w σ', Q w σ' → Q' w σ') : OkJ P d mi av σ Q' := Ok.mono h (fun _ σ' ⟨w, e, x⟩ => ⟨w, e, hq w σ' x⟩)
def SM : List Nat := [205, 222, 223, 224, 227, 231, 234, 237, 238, 239, 244, 245, 246, 256, 265, 267, 269, 266, 271, 247, 284, 286, 292, 294, 295, 296, 298, 299, 301, 302, 308, 309, 310, 312, 314, 318, 319, 320, 321, 322, 323, 221, 210, 211, 219, 195, 209, 216, 226, 230, 233, 235, 236, 240, 241, 242, 243, 229, 218, 225, 254, 255, 263, 264, 217, 257, 262, 268, 270, 283, 285, 289, 290, 291, 293, 297, 300, 304, 305, 306, 307, 311, 313, 315, 317, 214, 220, 215, 232, 212, 213, 228, 249, 252, 253, 260, 261, 278, 282, 287, 281, 288, 303, 316, 208, 248, 250, 251, 258, 259, 274, 276, 277, 272, 280, 207, 273, 275, 279, 206]
def SR : List Nat := [179, 180, 204, 205, 222, 223, 224, 227, 231, 234, 237, 238, 239, 244, 245, 246, 256, 265, 267, 269, 266, 271, 247, 284, 286, 292, 294, 295, 296, 298, 299, 301, 302, 308, 309, 310, 312, 314, 318, 319, 320, 321, 322, 323, 178, 188, 189, 203, 221, 210, 211, 219, 195, 209, 216, 226, 230, 233, 235, 236, 240, 241, 242, 243, 229, 218, 225, 254, 255, 263, 264, 217, 257, 262, 268, 270, 283, 285, 289, 290, 291, 293, 297, 300, 304, 305, 306, 307, 311, 313, 315, 317, 214, 182, 183, 184, 181, 186, 187, 190, 191, 192, 193, 194, 202, 220, 215, 232, 212, 213, 228, 249, 252, 253, 260, 261, 278, 282, 287, 281, 288, 303, 316, 201, 208, 248, 250, 251, 258, 259, 274, 276, 277, 272, 280, 200, 207, 273, 275, 279, 199, 206, 197, 198, 196]
set_option maxRecDepth 100000 in
theorem nfM2 : nfS PRG SM 12 2 = true := by decide +kernel
set_option maxRecDepth 100000 in
theorem nfR1 : nfS PRG SR 11 1 = true := by decide +kernel
def JT (a b : Int) (σ : Sg) : Prop := (∃ N, GI N σ) ∧ (σ.1 0 1).toInt = a ∧ (σ.1 97 2).toInt = b
theorem JT.rg {a b : Int} {σ : Sg} (h : JT a b σ) : (0 ≤ a ∧ a ≤ 2000) ∧ 0 ≤ b ∧ b ≤ 2000 := by
  obtain ⟨⟨N, hG⟩, h1, h2⟩ := h
  have k1 := tyF hG.1 (q := 0) (κ := 11) (k := 1) (lo := 0) (hi := 2000) rfl rfl
  have k2 := tyF hG.1 (q := 97) (κ := 12) (k := 2) (lo := 0) (hi := 2000) rfl rfl
  omega
def DEPA : List (Nat × Nat × Nat) := [(12, 18, 18), (12, 45, 45), (12, 48, 48), (62, 0, 1), (63, 0, 1), (65, 0, 1), (68, 0, 23), (69, 0, 23), (73, 0, 299), (74, 0, 299), (75, 0, 299), (76, 0, 839), (77, 0, 839), (81, 0, 3), (82, 0, 15), (83, 0, 15), (92, 0, 262143), (108, 0, 1), (109, 0, 7), (111, 0, 1), (112, 0, 31), (113, 0, 31)]
theorem offD_sub {ms d1 d2 : List (Nat × Nat × Nat)} (h : offD ms d2 = true) (hs : ∀ n ∈ d1, n ∈ d2) : offD ms d1 = true := by
  unfold offD at h ⊢
  refine List.all_eq_true.mpr (fun m hm => List.all_eq_true.mpr (fun n hn => ?_))
  exact List.all_eq_true.mp (List.all_eq_true.mp h m hm) n (hs n hn)
/-- what writes none of its cells -/
theorem GI.cls {N : Nat} {ms : List (Nat × Nat × Nat)} {σ σ' : Sg} (h : GI N σ) (hG : Gl ms σ σ') (ho : offD ms DEPA = true) : GI N σ' := by
  refine h.keep hG (offD_sub ho (by decide)) (h.2.1.keep hG (offD_sub ho (by decide))) (fun i hi => ?_)
  have e : σ'.1 136 i = σ.1 136 i := hG.get (q := 136) (κ := 92) rfl (off_in ho (inM_of (a := 0) (b := 262143) (by decide) (by omega) (by omega)))
  rw [e]
  exact h.2.2.2.1 i hi
theorem JT.cls {a b : Int} {ms : List (Nat × Nat × Nat)} {σ σ' : Sg} (h : JT a b σ) (hG : Gl ms σ σ') (ho : offD ms DEPA = true) (h1 : inM ms 11 1 = false) (h2 : inM ms 12 2 = false) : JT a b σ' := by
  obtain ⟨⟨N, hN⟩, e1, e2⟩ := h
  exact ⟨⟨N, hN.cls hG ho⟩, by rw [hG.get (q := 0) (κ := 11) rfl h1]; exact e1, by rw [hG.get (q := 97) (κ := 12) rfl h2]; exact e2⟩
theorem jx_I {mi : Nat} {sp : SP} {av : List Value} {lo hi a b : Int} {σ : Sg} (h : SpecOK PRG TYP (fun _ => True) mi sp) (hav : avsOK (spArgs sp) av) (hp : spPre sp = []) (hf : spPhi sp = []) (hr : spRes sp = some (0, lo, hi)) (hd : spD sp ≤ 60) (ho : offD (spMods sp) DEPA = true) (h1 : inM (spMods sp) 11 1 = false) (h2 : inM (spMods sp) 12 2 = false) (hJ : JT a b σ) : OkI PRG 60 mi av σ (fun _ σ' => JT a b σ') := by
  obtain ⟨N, hN⟩ := hJ.1
  exact OkI.deep ((h.atI hN.1 trivial hav hp hf hr).mono (fun _ σ' hq => hJ.cls hq.1 ho h1 h2)) hd
theorem jx_J {mi : Nat} {sp : SP} {av : List Value} {lo hi a b : Int} {σ : Sg} (h : SpecOK PRG TYP (fun _ => True) mi sp) (hav : avsOK (spArgs sp) av) (hp : spPre sp = []) (hf : spPhi sp = []) (hr : spRes sp = some (3, lo, hi)) (hd : spD sp ≤ 60) (ho : offD (spMods sp) DEPA = true) (h1 : inM (spMods sp) 11 1 = false) (h2 : inM (spMods sp) 12 2 = false) (hJ : JT a b σ) : OkJ PRG 60 mi av σ (fun _ σ' => JT a b σ') := by
  obtain ⟨N, hN⟩ := hJ.1
  refine Ok.deep ((h.at hN.1 trivial hav hp hf).mono (fun v σ' hq => ?_)) hd
  obtain ⟨⟨g1, g2, g3⟩, g4, -⟩ := hq
  rw [hr] at g4
  cases v with
  | none => exact absurd g4 (fun h => h)
  | some v =>
    obtain ⟨w, rfl⟩ := g4
    exact ⟨w, rfl, hJ.cls ⟨g1, trivial, g3⟩ ho h1 h2⟩
theorem keepRR {d mj : Nat} {av : List Value} {σ : Sg} {Q : Option Value → Sg → Prop} (hm : SR.contains mj = true) (h : Ok PRG d mj av σ Q) : Ok PRG d mj av σ (fun v σ' => σ'.1 0 1 = σ.1 0 1 ∧ Q v σ') := Ok.field (q0 := 0) (c := 11) (k0 := 1) rfl nfR1 (by simpa using hm) h
theorem keepM {d mj : Nat} {av : List Value} {σ : Sg} {Q : Option Value → Sg → Prop} (hm : SM.contains mj = true) (h : Ok PRG d mj av σ Q) : Ok PRG d mj av σ (fun v σ' => σ'.1 97 2 = σ.1 97 2 ∧ Q v σ') := Ok.field (q0 := 97) (c := 12) (k0 := 2) rfl nfM2 (by simpa using hm) h
theorem jm_I {d mj : Nat} {av : List Value} {a b : Int} {σ : Sg} (hm : SM.contains mj = true) (hr : SR.contains mj = true) (hd : d ≤ 60) (h : OkI PRG d mj av σ (fun _ σ' => ∃ N, GI N σ')) (hJ : JT a b σ) : OkI PRG 60 mj av σ (fun _ σ' => JT a b σ') :=
  Ok.deep (Ok.mono (keepRR hr (keepM hm h)) (fun v σ' hq => by
    obtain ⟨e1, e2, w, hw, hN⟩ := hq
    exact ⟨w, hw, hN, by rw [e1]; exact hJ.2.1, by rw [e2]; exact hJ.2.2⟩)) hd
theorem jm_J {d mj : Nat} {av : List Value} {a b : Int} {σ : Sg} (hm : SM.contains mj = true) (hr : SR.contains mj = true) (hd : d ≤ 60) (h : OkJ PRG d mj av σ (fun _ σ' => ∃ N, GI N σ')) (hJ : JT a b σ) : OkJ PRG 60 mj av σ (fun _ σ' => JT a b σ') :=
  Ok.deep (Ok.mono (keepRR hr (keepM hm h)) (fun v σ' hq => by
    obtain ⟨e1, e2, w, hw, hN⟩ := hq
    exact ⟨w, hw, hN, by rw [e1]; exact hJ.2.1, by rw [e2]; exact hJ.2.2⟩)) hd
/-- the reference's tape is written -/
def mdTp : List (Nat × Nat × Nat) := [(12, 2, 2), (54, 0, 1999)]
theorem put_1g {d : Nat} {Q : Option Value → Sg → Prop} {x1 x2 : Int32} {σ0 σ : Sg} {t : Int} (g : Gl mdTp σ0 σ) (ht : (σ.1 97 2).toInt = t) (h0 : 0 ≤ t) (h1 : t < 2000) (hx : ¬ x2 < 0) (h : ∀ σ1 : Sg, Gl mdTp σ0 σ1 → (σ1.1 97 2).toInt = t + 1 → Rn PRG d 178 3 [(0, .ref 97), (1, .int x1), (2, .int (x2 + (-8 : Int32)))] [] σ1 Q) : Rn PRG d 178 3 [(0, .ref 97), (1, .int x1), (2, .int x2)] [] σ Q := by
  have e : ((σ.1 97 2) + (1 : Int32)).toInt = t + 1 := add_lit ht (by decide) (by unfold FL; omega) (by unfold FH; omega)
  have hc : (σ.1 97 2).toNatClampNeg ≤ 1999 := by show (σ.1 97 2).toInt.toNat ≤ 1999; omega
  have g1 : ∀ y : Int32, Gl mdTp σ0 (s1 σ 98 (σ.1 97 2).toNatClampNeg y) := fun y => wrG (κ := 54) (a := 0) (b := 1999) (vl := FL) (vh := FH) rfl rfl g rfl (Nat.zero_le _) hc (w_lo _) (w_hi _)
  refine w_178_3 σ x1 x2 ⟨fun c => absurd c hx, fun _ => ⟨inR_ok (by omega) (by omega), h _ (wrG (κ := 12) (a := 2) (b := 2) (vl := 0) (vh := 2000) rfl rfl (g1 _) rfl (Nat.le_refl _) (Nat.le_refl _) ?_ ?_) ?_⟩⟩
  · show 0 ≤ ((σ.1 97 2) + (1 : Int32)).toInt
    omega
  · show ((σ.1 97 2) + (1 : Int32)).toInt ≤ 2000
    omega
  · show ((σ.1 97 2) + (1 : Int32)).toInt = t + 1
    exact e
theorem put_G {d : Nat} {x : Int32} {σ0 σ : Sg} {t : Int} (g : Gl mdTp σ0 σ) (ht : (σ.1 97 2).toInt = t) (h0 : 0 ≤ t) (h1 : t + 4 ≤ 2000) : OkV PRG d 178 [.ref 97, .int x] σ (fun σ' => Gl mdTp σ0 σ' ∧ (σ'.1 97 2).toInt = t + 4) := by
  refine ⟨M_178, rfl, Nat.le_of_ble_eq_true rfl, w_178_0 σ x ?_⟩
  refine put_1g g ht h0 (by omega) (by decide) (fun σ1 g1 e1 => put_1g g1 e1 (by omega) (by omega) (by decide) (fun σ2 g2 e2 => put_1g g2 e2 (by omega) (by omega) (by decide) (fun σ3 g3 e3 => put_1g g3 e3 (by omega) (by omega) (by decide) (fun σ4 g4 e4 => ?_))))
  exact w_178_3 σ4 x _ ⟨fun _ => ⟨rfl, g4, by omega⟩, fun c => absurd (by decide) c⟩
theorem feed_G {d : Nat} {a b c e f : Int32} {σ : Sg} {t : Int} (g : typed TYP σ) (ht : (σ.1 97 2).toInt = t) (h0 : 0 ≤ t) (h1 : t ≤ 2000) : OkI PRG (d + 1) 179 [.ref 97, .int a, .int b, .int c, .int e, .int f] σ (fun w σ' => Gl mdTp σ σ' ∧ fedTo t w.toInt (σ'.1 97 2).toInt) := by
  refine ⟨M_179, rfl, Nat.le_of_ble_eq_true rfl, w_179_0 σ a b c e f ⟨fun hc => ?_, fun hc => ?_⟩⟩
  · rw [le_2000 ht h0 h1] at hc
    refine ⟨_, put_G (Gl.refl g) ht h0 (by omega), fun σ1 e1 => ⟨_, put_G e1.1 e1.2 (by omega) (by omega), fun σ2 e2 => ⟨_, put_G e2.1 e2.2 (by omega) (by omega), fun σ3 e3 => ⟨_, put_G e3.1 e3.2 (by omega) (by omega), fun σ4 e4 => ⟨_, put_G e4.1 e4.2 (by omega) (by omega), fun σ5 e5 => ⟨_, rfl, e5.1, Or.inl ⟨hc, by have := e5.2; omega, by have := e5.2; omega⟩⟩⟩⟩⟩⟩⟩
  · rw [le_2000 ht h0 h1] at hc
    exact ⟨_, rfl, Gl.refl g, Or.inr ⟨hc, by decide, ht⟩⟩
theorem back_G {d : Nat} {n : Int32} {σ : Sg} {t : Int} (g : typed TYP σ) (ht : (σ.1 97 2).toInt = t) (h0 : 0 ≤ t) (h1 : t ≤ 2000) : OkI PRG d 180 [.ref 97, .int n] σ (fun w σ' => Gl mdTp σ σ' ∧ backTo t n.toInt w.toInt (σ'.1 97 2).toInt) := by
  have z0 : (0 : Int32).toInt = 0 := by decide
  refine ⟨M_180, rfl, Nat.le_of_ble_eq_true rfl, w_180_0 σ n ⟨fun hc => ?_, fun hc => ⟨fun hd => ?_, fun hd => ?_⟩⟩⟩
  · rw [Int32.lt_iff_toInt_lt] at hc
    exact ⟨_, rfl, Gl.refl g, Or.inr ⟨by omega, by decide, ht⟩⟩
  · rw [Int32.lt_iff_toInt_lt] at hc
    rw [Int32.le_iff_toInt_le] at hd
    have e : (σ.1 97 2 - n).toInt = t - n.toInt := by rw [← ht]; exact sub_ex (by unfold FL; omega) (by unfold FH; omega)
    exact ⟨_, rfl, wrG (κ := 12) (a := 2) (b := 2) (vl := 0) (vh := 2000) rfl rfl (Gl.refl g) rfl (Nat.le_refl _) (Nat.le_refl _) (by omega) (by omega), Or.inl ⟨by omega, by omega, e, e⟩⟩
  · rw [Int32.le_iff_toInt_le] at hd
    exact ⟨_, rfl, Gl.refl g, Or.inr ⟨by omega, by decide, ht⟩⟩
theorem jx_0 {x1 x2 x3 x4 x5 : Int32} {a b : Int} {σ : Sg} (hJ : JT a b σ) : OkI PRG 60 121 [.ref 0, .int x1, .int x2, .int x3, .int x4, .int x5] σ (fun w σ' => ∃ a', fedTo a w.toInt a' ∧ JT a' b σ') := by
  have hr := hJ.rg
  obtain ⟨⟨N, hN⟩, e1, e2⟩ := hJ
  refine OkI.deep (OkI.mono (OkI.and ((c_121 stTop).atI hN.1 trivial (avsC ⟨0, rfl, rfl⟩ (avsC avF (avsC avF (avsC avF (avsC avF (avsC avF avsN)))))) rfl rfl rfl) (feed_x (d := 0) e1 hr.1.1 hr.1.2)) (fun w σ' hq => ?_)) (by decide)
  exact ⟨_, hq.2, ⟨N, hN.cls hq.1.1 rfl⟩, rfl, by rw [hq.1.1.get (q := 97) (κ := 12) rfl rfl]; exact e2⟩
theorem jm_0 {x1 x2 x3 x4 x5 : Int32} {a b : Int} {σ : Sg} (hJ : JT a b σ) : OkI PRG 60 179 [.ref 97, .int x1, .int x2, .int x3, .int x4, .int x5] σ (fun w σ' => ∃ b', fedTo b w.toInt b' ∧ JT a b' σ') := by
  have hr := hJ.rg
  obtain ⟨⟨N, hN⟩, e1, e2⟩ := hJ
  refine OkI.deep (OkI.mono (feed_G (d := 0) hN.1 e2 hr.2.1 hr.2.2) (fun w σ' hq => ?_)) (by decide)
  exact ⟨_, hq.2, ⟨N, hN.cls hq.1 rfl⟩, by rw [hq.1.get (q := 0) (κ := 11) rfl rfl]; exact e1, rfl⟩
theorem jx_1 {x1 : Int32} {a b : Int} {σ : Sg} (hJ : JT a b σ) : OkI PRG 60 122 [.ref 0, .int x1] σ (fun w σ' => ∃ a', backTo a x1.toInt w.toInt a' ∧ JT a' b σ') := by
  have hr := hJ.rg
  obtain ⟨⟨N, hN⟩, e1, e2⟩ := hJ
  refine OkI.deep (OkI.mono (OkI.and ((c_122 stTop).atI hN.1 trivial (avsC ⟨0, rfl, rfl⟩ (avsC avF avsN)) rfl rfl rfl) (back_x (d := 0) e1 hr.1.1 hr.1.2)) (fun w σ' hq => ?_)) (by decide)
  exact ⟨_, hq.2, ⟨N, hN.cls hq.1.1 rfl⟩, rfl, by rw [hq.1.1.get (q := 97) (κ := 12) rfl rfl]; exact e2⟩
theorem jm_1 {x1 : Int32} {a b : Int} {σ : Sg} (hJ : JT a b σ) : OkI PRG 60 180 [.ref 97, .int x1] σ (fun w σ' => ∃ b', backTo b x1.toInt w.toInt b' ∧ JT a b' σ') := by
  have hr := hJ.rg
  obtain ⟨⟨N, hN⟩, e1, e2⟩ := hJ
  refine OkI.deep (OkI.mono (back_G (d := 0) hN.1 e2 hr.2.1 hr.2.2) (fun w σ' hq => ?_)) (by decide)
  exact ⟨_, hq.2, ⟨N, hN.cls hq.1 rfl⟩, by rw [hq.1.get (q := 0) (κ := 11) rfl rfl]; exact e1, rfl⟩
theorem jx_2 {a b : Int} {σ : Sg} (hJ : JT a b σ) : OkI PRG 60 124 [.ref 0] σ (fun _ σ' => JT 0 b σ') := by
  obtain ⟨⟨N, hN⟩, e1, e2⟩ := hJ
  refine OkI.deep (OkI.mono (readC_OK hN.1) (fun w σ' hq => ?_)) (by decide)
  exact ⟨⟨N, hN.cls hq.1 rfl⟩, hq.2, by rw [hq.1.get (q := 97) (κ := 12) rfl rfl]; exact e2⟩
theorem jm_2 {a b : Int} {σ : Sg} (hJ : JT a b σ) : OkI PRG 60 204 [.ref 97] σ (fun _ σ' => JT a 0 σ') := by
  obtain ⟨⟨N, hN⟩, e1, e2⟩ := hJ
  refine Ok.deep (Ok.mono (keepRR (by decide) (read_OK hN)) (fun v σ' hq => ?_)) (show 9 ≤ 60 by decide)
  obtain ⟨k, w, hw, hN', hz⟩ := hq
  exact ⟨w, hw, hN', by rw [k]; exact e1, hz⟩
theorem jx_3 {a b : Int} {σ : Sg} (hJ : JT a b σ) : OkI PRG 60 125 [.ref 0] σ (fun _ σ' => JT a b σ') := jx_I (c_125 stTop) (avsC ⟨0, rfl, rfl⟩ avsN) rfl rfl rfl (by decide) rfl rfl rfl hJ
theorem jm_3 {a b : Int} {σ : Sg} (hJ : JT a b σ) : OkI PRG 60 205 [.ref 97] σ (fun _ σ' => JT a b σ') := by
  obtain ⟨N, hN⟩ := hJ.1
  exact jm_I (by decide) (by decide) (by decide) (OkI.mono (place_OK hN) (fun _ σ' hq => ⟨N, hq⟩)) hJ
theorem jx_4 {x1 : Int32} {a b : Int} {σ : Sg} (hJ : JT a b σ) : OkI PRG 60 126 [.ref 0, .int x1] σ (fun _ σ' => JT a b σ') := jx_I (c_126 stTop) (avsC ⟨0, rfl, rfl⟩ (avsC avF avsN)) rfl rfl rfl (by decide) rfl rfl rfl hJ
theorem jm_4 {x1 : Int32} {a b : Int} {σ : Sg} (hJ : JT a b σ) : OkI PRG 60 222 [.ref 97, .int x1] σ (fun _ σ' => JT a b σ') := by
  obtain ⟨N, hN⟩ := hJ.1
  exact jm_I (by decide) (by decide) (by decide) (OkI.mono (deal_OK (d := 0) hN) (fun _ σ' hq => ⟨N, hq⟩)) hJ
theorem jx_5 {x1 x2 x3 : Int32} {a b : Int} {σ : Sg} (hJ : JT a b σ) : OkI PRG 60 128 [.ref 0, .int x1, .int x2, .int x3] σ (fun _ σ' => JT a b σ') := jx_I (c_128 stTop) (avsC ⟨0, rfl, rfl⟩ (avsC avF (avsC avF (avsC avF avsN)))) rfl rfl rfl (by decide) rfl rfl rfl hJ
theorem jm_5 {x1 x2 x3 : Int32} {a b : Int} {σ : Sg} (hJ : JT a b σ) : OkI PRG 60 223 [.ref 97, .int x1, .int x2, .int x3] σ (fun _ σ' => JT a b σ') := by
  obtain ⟨N, hN⟩ := hJ.1
  exact jm_I (by decide) (by decide) (by decide) (OkI.mono (hands_OK (d := 0) hN) (fun _ σ' hq => ⟨N, hq⟩)) hJ
theorem jx_6 {x1 : Int32} {a b : Int} {σ : Sg} (hJ : JT a b σ) : OkI PRG 60 130 [.ref 0, .int x1] σ (fun _ σ' => JT a b σ') := jx_I (c_130 stTop) (avsC ⟨0, rfl, rfl⟩ (avsC avF avsN)) rfl rfl rfl (by decide) rfl rfl rfl hJ
theorem jm_6 {x1 : Int32} {a b : Int} {σ : Sg} (hJ : JT a b σ) : OkI PRG 60 224 [.ref 97, .int x1] σ (fun _ σ' => JT a b σ') := by
  obtain ⟨N, hN⟩ := hJ.1
  exact jm_I (by decide) (by decide) (by decide) (OkI.mono (lead_OK (d := 0) hN) (fun _ σ' hq => ⟨N, hq⟩)) hJ
theorem jx_7 {x1 x2 : Int32} (hx : 0 ≤ x2.toInt ∧ x2.toInt ≤ 1) {a b : Int} {σ : Sg} (hJ : JT a b σ) : OkI PRG 60 131 [.ref 0, .int x1, .int x2] σ (fun _ σ' => JT a b σ') := jx_I (c_131 stTop) (avsC ⟨0, rfl, rfl⟩ (avsC avF (avsC (avI hx.1 hx.2) avsN))) rfl rfl rfl (by decide) rfl rfl rfl hJ
theorem jm_7 {x1 x2 : Int32} {a b : Int} {σ : Sg} (hJ : JT a b σ) : OkI PRG 60 227 [.ref 97, .int x1, .int x2] σ (fun _ σ' => JT a b σ') := by
  obtain ⟨N, hN⟩ := hJ.1
  exact jm_I (by decide) (by decide) (by decide) (OkI.mono (hand_OK hN) (fun _ σ' hq => ⟨N, hq⟩)) hJ
theorem jx_8 {a b : Int} {σ : Sg} (hJ : JT a b σ) : OkI PRG 60 132 [.ref 0] σ (fun _ σ' => JT a b σ') := jx_I (c_132 stTop) (avsC ⟨0, rfl, rfl⟩ avsN) rfl rfl rfl (by decide) rfl rfl rfl hJ
theorem jm_8 {a b : Int} {σ : Sg} (hJ : JT a b σ) : OkI PRG 60 231 [.ref 97] σ (fun _ σ' => JT a b σ') := by
  obtain ⟨N, hN⟩ := hJ.1
  exact jm_I (by decide) (by decide) (by decide) (OkI.mono (turn_OK hN) (fun _ σ' hq => ⟨N, hq⟩)) hJ
theorem jx_9 {a b : Int} {σ : Sg} (hJ : JT a b σ) : OkI PRG 60 133 [.ref 0] σ (fun _ σ' => JT a b σ') := jx_I (c_133 stTop) (avsC ⟨0, rfl, rfl⟩ avsN) rfl rfl rfl (by decide) rfl rfl rfl hJ
theorem jm_9 {a b : Int} {σ : Sg} (hJ : JT a b σ) : OkI PRG 60 234 [.ref 97] σ (fun _ σ' => JT a b σ') := by
  obtain ⟨N, hN⟩ := hJ.1
  exact jm_I (by decide) (by decide) (by decide) (OkI.mono (may_OK hN) (fun _ σ' hq => ⟨N, hq⟩)) hJ
theorem jx_10 {x1 : Int32} {a b : Int} {σ : Sg} (hJ : JT a b σ) : OkI PRG 60 136 [.ref 0, .int x1] σ (fun _ σ' => JT a b σ') := jx_I (c_136 stTop) (avsC ⟨0, rfl, rfl⟩ (avsC avF avsN)) rfl rfl rfl (by decide) rfl rfl rfl hJ
theorem jm_10 {x1 : Int32} {a b : Int} {σ : Sg} (hJ : JT a b σ) : OkI PRG 60 237 [.ref 97, .int x1] σ (fun _ σ' => JT a b σ') := by
  obtain ⟨N, hN⟩ := hJ.1
  exact jm_I (by decide) (by decide) (by decide) (OkI.mono (play_OK (d := 0) hN) (fun _ σ' hq => ⟨N, hq⟩)) hJ
theorem jx_11 {x1 : Int32} {a b : Int} {σ : Sg} (hJ : JT a b σ) : OkI PRG 60 137 [.ref 0, .int x1] σ (fun _ σ' => JT a b σ') := jx_I (c_137 stTop) (avsC ⟨0, rfl, rfl⟩ (avsC avF avsN)) rfl rfl rfl (by decide) rfl rfl rfl hJ
theorem jm_11 {x1 : Int32} {a b : Int} {σ : Sg} (hJ : JT a b σ) : OkI PRG 60 238 [.ref 97, .int x1] σ (fun _ σ' => JT a b σ') := by
  obtain ⟨N, hN⟩ := hJ.1
  exact jm_I (by decide) (by decide) (by decide) (OkI.mono (revoke_OK (d := 0) hN) (fun _ σ' hq => ⟨N, hq.1⟩)) hJ
theorem jx_12 {a b : Int} {σ : Sg} (hJ : JT a b σ) : OkI PRG 60 138 [.ref 0] σ (fun _ σ' => JT a b σ') := jx_I (c_138 stTop) (avsC ⟨0, rfl, rfl⟩ avsN) rfl rfl rfl (by decide) rfl rfl rfl hJ
theorem jm_12 {a b : Int} {σ : Sg} (hJ : JT a b σ) : OkI PRG 60 239 [.ref 97] σ (fun _ σ' => JT a b σ') := by
  obtain ⟨N, hN⟩ := hJ.1
  exact jm_I (by decide) (by decide) (by decide) (OkI.mono (undo_OK (d := 0) hN) (fun _ σ' hq => ⟨N, hq⟩)) hJ
theorem jx_13 {x1 x2 : Int32} {a b : Int} {σ : Sg} (hJ : JT a b σ) : OkI PRG 60 139 [.ref 0, .int x1, .int x2] σ (fun _ σ' => JT a b σ') := jx_I (c_139 stTop) (avsC ⟨0, rfl, rfl⟩ (avsC avF (avsC avF avsN))) rfl rfl rfl (by decide) rfl rfl rfl hJ
theorem jm_13 {x1 x2 : Int32} {a b : Int} {σ : Sg} (hJ : JT a b σ) : OkI PRG 60 244 [.ref 97, .int x1, .int x2] σ (fun _ σ' => JT a b σ') := by
  obtain ⟨N, hN⟩ := hJ.1
  exact jm_I (by decide) (by decide) (by decide) (OkI.mono (card_OK hN) (fun _ σ' hq => ⟨N, hq⟩)) hJ
theorem jx_14 {x1 : Int32} {a b : Int} {σ : Sg} (hJ : JT a b σ) : OkI PRG 60 140 [.ref 0, .int x1] σ (fun _ σ' => JT a b σ') := jx_I (c_140 stTop) (avsC ⟨0, rfl, rfl⟩ (avsC avF avsN)) rfl rfl rfl (by decide) rfl rfl rfl hJ
theorem jm_14 {x1 : Int32} {a b : Int} {σ : Sg} (hJ : JT a b σ) : OkI PRG 60 245 [.ref 97, .int x1] σ (fun _ σ' => JT a b σ') := by
  obtain ⟨N, hN⟩ := hJ.1
  exact jm_I (by decide) (by decide) (by decide) (OkI.mono (tricks_OK hN) (fun _ σ' hq => ⟨N, hq⟩)) hJ
theorem jx_15 {x1 : Int32} {a b : Int} {σ : Sg} (hJ : JT a b σ) : OkI PRG 60 141 [.ref 0, .int x1] σ (fun _ σ' => JT a b σ') := jx_I (c_141 stTop) (avsC ⟨0, rfl, rfl⟩ (avsC avF avsN)) rfl rfl rfl (by decide) rfl rfl rfl hJ
theorem jm_15 {x1 : Int32} {a b : Int} {σ : Sg} (hJ : JT a b σ) : OkI PRG 60 246 [.ref 97, .int x1] σ (fun _ σ' => JT a b σ') := by
  obtain ⟨N, hN⟩ := hJ.1
  exact jm_I (by decide) (by decide) (by decide) (OkI.mono (winner_OK2 hN) (fun _ σ' hq => ⟨N, hq⟩)) hJ
theorem jx_16 {x1 x2 x3 : Int32} {a b : Int} {σ : Sg} (hJ : JT a b σ) : OkI PRG 60 144 [.ref 0, .int x1, .int x2, .int x3] σ (fun _ σ' => JT a b σ') := jx_I (c_144 stTop) (avsC ⟨0, rfl, rfl⟩ (avsC avF (avsC avF (avsC avF avsN)))) rfl rfl rfl (by decide) rfl rfl rfl hJ
theorem jm_16 {x1 x2 x3 : Int32} {a b : Int} {σ : Sg} (hJ : JT a b σ) : OkI PRG 60 256 [.ref 97, .int x1, .int x2, .int x3] σ (fun _ σ' => JT a b σ') := by
  obtain ⟨N, hN⟩ := hJ.1
  exact jm_I (by decide) (by decide) (by decide) (OkI.mono (says_OK hN) (fun _ σ' hq => ⟨N, hq⟩)) hJ
theorem jx_17 {x1 x2 : Int32} {a b : Int} {σ : Sg} (hJ : JT a b σ) : OkI PRG 60 147 [.ref 0, .int x1, .int x2] σ (fun _ σ' => JT a b σ') := jx_I (c_147 stTop) (avsC ⟨0, rfl, rfl⟩ (avsC avF (avsC avF avsN))) rfl rfl rfl (by decide) rfl rfl rfl hJ
theorem jm_17 {x1 x2 : Int32} {a b : Int} {σ : Sg} (hJ : JT a b σ) : OkI PRG 60 265 [.ref 97, .int x1, .int x2] σ (fun _ σ' => JT a b σ') := by
  obtain ⟨N, hN⟩ := hJ.1
  exact jm_I (by decide) (by decide) (by decide) (OkI.mono (canBe_OK hN.1 hN.2.1 hN.cg) (fun _ σ' hq => ⟨N, hN.cls hq.1 rfl⟩)) hJ
theorem jx_18 {x1 x2 x3 x4 : Int32} {a b : Int} {σ : Sg} (hJ : JT a b σ) : OkI PRG 60 149 [.ref 0, .int x1, .int x2, .int x3, .int x4] σ (fun _ σ' => JT a b σ') := jx_I (c_149 stTop) (avsC ⟨0, rfl, rfl⟩ (avsC avF (avsC avF (avsC avF (avsC avF avsN))))) rfl rfl rfl (by decide) rfl rfl rfl hJ
theorem jm_18 {x1 x2 x3 x4 : Int32} {a b : Int} {σ : Sg} (hJ : JT a b σ) : OkI PRG 60 267 [.ref 97, .int x1, .int x2, .int x3, .int x4] σ (fun _ σ' => JT a b σ') := by
  obtain ⟨N, hN⟩ := hJ.1
  exact jm_I (by decide) (by decide) (by decide) (OkI.mono (had_OK hN.1 hN.2.1 hN.cg) (fun _ σ' hq => ⟨N, hN.cls hq.1 rfl⟩)) hJ
theorem jx_19 {x1 x2 : Int32} {a b : Int} {σ : Sg} (hJ : JT a b σ) : OkI PRG 60 150 [.ref 0, .int x1, .int x2] σ (fun _ σ' => JT a b σ') := jx_I (c_150 stTop) (avsC ⟨0, rfl, rfl⟩ (avsC avF (avsC avF avsN))) rfl rfl rfl (by decide) rfl rfl rfl hJ
theorem jm_19 {x1 x2 : Int32} {a b : Int} {σ : Sg} (hJ : JT a b σ) : OkI PRG 60 269 [.ref 97, .int x1, .int x2] σ (fun _ σ' => JT a b σ') := by
  obtain ⟨N, hN⟩ := hJ.1
  exact jm_I (by decide) (by decide) (by decide) (OkI.mono (sure_OK hN.1 hN.2.1 hN.cg) (fun _ σ' hq => ⟨N, hN.cls hq.1 rfl⟩)) hJ
theorem jx_20 {x1 x2 x3 : Int32} {a b : Int} {σ : Sg} (hJ : JT a b σ) : OkI PRG 60 148 [.ref 0, .int x1, .int x2, .int x3] σ (fun _ σ' => JT a b σ') := jx_I (c_148 stTop) (avsC ⟨0, rfl, rfl⟩ (avsC avF (avsC avF (avsC avF avsN)))) rfl rfl rfl (by decide) rfl rfl rfl hJ
theorem jm_20 {x1 x2 x3 : Int32} {a b : Int} {σ : Sg} (hJ : JT a b σ) : OkI PRG 60 266 [.ref 97, .int x1, .int x2, .int x3] σ (fun _ σ' => JT a b σ') := by
  obtain ⟨N, hN⟩ := hJ.1
  exact jm_I (by decide) (by decide) (by decide) (OkI.mono (after_OK hN.1 hN.2.1 hN.cg) (fun _ σ' hq => ⟨N, hN.cls hq.1 rfl⟩)) hJ
theorem jx_21 {x1 x2 x3 x4 : Int32} {a b : Int} {σ : Sg} (hJ : JT a b σ) : OkI PRG 60 151 [.ref 0, .int x1, .int x2, .int x3, .int x4] σ (fun _ σ' => JT a b σ') := jx_I (c_151 stTop) (avsC ⟨0, rfl, rfl⟩ (avsC avF (avsC avF (avsC avF (avsC avF avsN))))) rfl rfl rfl (by decide) rfl rfl rfl hJ
theorem jm_21 {x1 x2 x3 x4 : Int32} {a b : Int} {σ : Sg} (hJ : JT a b σ) : OkI PRG 60 271 [.ref 97, .int x1, .int x2, .int x3, .int x4] σ (fun _ σ' => JT a b σ') := by
  obtain ⟨N, hN⟩ := hJ.1
  exact jm_I (by decide) (by decide) (by decide) (OkI.mono (knows_OK hN.1 hN.2.1 hN.cg) (fun _ σ' hq => ⟨N, hN.cls hq.1 rfl⟩)) hJ
theorem jx_22 {x1 : Int32} {a b : Int} {σ : Sg} (hJ : JT a b σ) : OkI PRG 60 142 [.ref 0, .int x1] σ (fun _ σ' => JT a b σ') := jx_I (c_142 stTop) (avsC ⟨0, rfl, rfl⟩ (avsC avF avsN)) rfl rfl rfl (by decide) rfl rfl rfl hJ
theorem jm_22 {x1 : Int32} {a b : Int} {σ : Sg} (hJ : JT a b σ) : OkI PRG 60 247 [.ref 97, .int x1] σ (fun _ σ' => JT a b σ') := by
  obtain ⟨N, hN⟩ := hJ.1
  exact jm_I (by decide) (by decide) (by decide) (OkI.mono (revokes_OK hN) (fun _ σ' hq => ⟨N, hq⟩)) hJ
theorem jx_23 {a b : Int} {σ : Sg} (hJ : JT a b σ) : OkI PRG 60 152 [.ref 0] σ (fun _ σ' => JT a b σ') := jx_I (c_152 stTop) (avsC ⟨0, rfl, rfl⟩ avsN) rfl rfl rfl (by decide) rfl rfl rfl hJ
theorem jm_23 {a b : Int} {σ : Sg} (hJ : JT a b σ) : OkI PRG 60 284 [.ref 97] σ (fun _ σ' => JT a b σ') := by
  obtain ⟨N, hN⟩ := hJ.1
  exact jm_I (by decide) (by decide) (by decide) (OkI.mono (open_OK hN) (fun _ σ' hq => ⟨N, hq⟩)) hJ
theorem jx_24 {x1 : Int32} {a b : Int} {σ : Sg} (hJ : JT a b σ) : OkI PRG 60 153 [.ref 0, .int x1] σ (fun _ σ' => JT a b σ') := jx_I (c_153 stTop) (avsC ⟨0, rfl, rfl⟩ (avsC avF avsN)) rfl rfl rfl (by decide) rfl rfl rfl hJ
theorem jm_24 {x1 : Int32} {a b : Int} {σ : Sg} (hJ : JT a b σ) : OkI PRG 60 286 [.ref 97, .int x1] σ (fun _ σ' => JT a b σ') := by
  obtain ⟨N, hN⟩ := hJ.1
  exact jm_I (by decide) (by decide) (by decide) (OkI.mono (line_OK hN) (fun _ σ' hq => ⟨N, hq⟩)) hJ
theorem jx_25 {x1 x2 : Int32} {a b : Int} {σ : Sg} (hJ : JT a b σ) : OkJ PRG 60 156 [.ref 0, .int x1, .int x2] σ (fun _ σ' => JT a b σ') := jx_J (c_156 stTop) (avsC ⟨0, rfl, rfl⟩ (avsC avF (avsC avF avsN))) rfl rfl rfl (by decide) rfl rfl rfl hJ
theorem jm_25 {x1 x2 : Int32} {a b : Int} {σ : Sg} (hJ : JT a b σ) : OkJ PRG 60 292 [.ref 97, .int x1, .int x2] σ (fun _ σ' => JT a b σ') := by
  obtain ⟨N, hN⟩ := hJ.1
  exact jm_J (by decide) (by decide) (by decide) (OkJ.mono (mean_OK hN) (fun _ σ' hq => ⟨N, hq⟩)) hJ
theorem jx_26 {x1 : Int32} {a b : Int} {σ : Sg} (hJ : JT a b σ) : OkI PRG 60 157 [.ref 0, .int x1] σ (fun _ σ' => JT a b σ') := jx_I (c_157 stTop) (avsC ⟨0, rfl, rfl⟩ (avsC avF avsN)) rfl rfl rfl (by decide) rfl rfl rfl hJ
theorem jm_26 {x1 : Int32} {a b : Int} {σ : Sg} (hJ : JT a b σ) : OkI PRG 60 294 [.ref 97, .int x1] σ (fun _ σ' => JT a b σ') := by
  obtain ⟨N, hN⟩ := hJ.1
  exact jm_I (by decide) (by decide) (by decide) (OkI.mono (choice_OK hN) (fun _ σ' hq => ⟨N, hq⟩)) hJ
theorem jx_27 {x1 x2 x3 : Int32} {a b : Int} {σ : Sg} (hJ : JT a b σ) : OkI PRG 60 158 [.ref 0, .int x1, .int x2, .int x3] σ (fun _ σ' => JT a b σ') := jx_I (c_158 stTop) (avsC ⟨0, rfl, rfl⟩ (avsC avF (avsC avF (avsC avF avsN)))) rfl rfl rfl (by decide) rfl rfl rfl hJ
theorem jm_27 {x1 x2 x3 : Int32} {a b : Int} {σ : Sg} (hJ : JT a b σ) : OkI PRG 60 295 [.ref 97, .int x1, .int x2, .int x3] σ (fun _ σ' => JT a b σ') := by
  obtain ⟨N, hN⟩ := hJ.1
  exact jm_I (by decide) (by decide) (by decide) (OkI.mono (spread_OK hN) (fun _ σ' hq => ⟨N, hq⟩)) hJ
theorem jx_28 {x1 x2 : Int32} {a b : Int} {σ : Sg} (hJ : JT a b σ) : OkI PRG 60 159 [.ref 0, .int x1, .int x2] σ (fun _ σ' => JT a b σ') := jx_I (c_159 stTop) (avsC ⟨0, rfl, rfl⟩ (avsC avF (avsC avF avsN))) rfl rfl rfl (by decide) rfl rfl rfl hJ
theorem jm_28 {x1 x2 : Int32} {a b : Int} {σ : Sg} (hJ : JT a b σ) : OkI PRG 60 296 [.ref 97, .int x1, .int x2] σ (fun _ σ' => JT a b σ') := by
  obtain ⟨N, hN⟩ := hJ.1
  exact jm_I (by decide) (by decide) (by decide) (OkI.mono (safe_OK hN) (fun _ σ' hq => ⟨N, hq⟩)) hJ
theorem jx_29 {x1 : Int32} {a b : Int} {σ : Sg} (hJ : JT a b σ) : OkI PRG 60 160 [.ref 0, .int x1] σ (fun _ σ' => JT a b σ') := jx_I (c_160 stTop) (avsC ⟨0, rfl, rfl⟩ (avsC avF avsN)) rfl rfl rfl (by decide) rfl rfl rfl hJ
theorem jm_29 {x1 : Int32} {a b : Int} {σ : Sg} (hJ : JT a b σ) : OkI PRG 60 298 [.ref 97, .int x1] σ (fun _ σ' => JT a b σ') := by
  obtain ⟨N, hN⟩ := hJ.1
  exact jm_I (by decide) (by decide) (by decide) (OkI.mono (loss_OK hN) (fun _ σ' hq => ⟨N, hq⟩)) hJ
theorem jx_30 {x1 : Int32} {a b : Int} {σ : Sg} (hJ : JT a b σ) : OkI PRG 60 161 [.ref 0, .int x1] σ (fun _ σ' => JT a b σ') := jx_I (c_161 stTop) (avsC ⟨0, rfl, rfl⟩ (avsC avF avsN)) rfl rfl rfl (by decide) rfl rfl rfl hJ
theorem jm_30 {x1 : Int32} {a b : Int} {σ : Sg} (hJ : JT a b σ) : OkI PRG 60 299 [.ref 97, .int x1] σ (fun _ σ' => JT a b σ') := by
  obtain ⟨N, hN⟩ := hJ.1
  exact jm_I (by decide) (by decide) (by decide) (OkI.mono (differs_OK hN) (fun _ σ' hq => ⟨N, hq⟩)) hJ
theorem jx_31 {x1 : Int32} {a b : Int} {σ : Sg} (hJ : JT a b σ) : OkI PRG 60 162 [.ref 0, .int x1] σ (fun _ σ' => JT a b σ') := jx_I (c_162 stTop) (avsC ⟨0, rfl, rfl⟩ (avsC avF avsN)) rfl rfl rfl (by decide) rfl rfl rfl hJ
theorem jm_31 {x1 : Int32} {a b : Int} {σ : Sg} (hJ : JT a b σ) : OkI PRG 60 301 [.ref 97, .int x1] σ (fun _ σ' => JT a b σ') := by
  obtain ⟨N, hN⟩ := hJ.1
  exact jm_I (by decide) (by decide) (by decide) (OkI.mono (lies_OK hN) (fun _ σ' hq => ⟨N, hq⟩)) hJ
theorem jx_32 {x1 : Int32} {a b : Int} {σ : Sg} (hJ : JT a b σ) : OkJ PRG 60 163 [.ref 0, .int x1] σ (fun _ σ' => JT a b σ') := jx_J (c_163 stTop) (avsC ⟨0, rfl, rfl⟩ (avsC avF avsN)) rfl rfl rfl (by decide) rfl rfl rfl hJ
theorem jm_32 {x1 : Int32} {a b : Int} {σ : Sg} (hJ : JT a b σ) : OkJ PRG 60 302 [.ref 97, .int x1] σ (fun _ σ' => JT a b σ') := by
  obtain ⟨N, hN⟩ := hJ.1
  exact jm_J (by decide) (by decide) (by decide) (OkJ.mono (worthC_OK hN) (fun _ σ' hq => ⟨N, hq⟩)) hJ
theorem jx_33 {x1 x2 x3 : Int32} {a b : Int} {σ : Sg} (hJ : JT a b σ) : OkI PRG 60 165 [.ref 0, .int x1, .int x2, .int x3] σ (fun _ σ' => JT a b σ') := jx_I (c_165 stTop) (avsC ⟨0, rfl, rfl⟩ (avsC avF (avsC avF (avsC avF avsN)))) rfl rfl rfl (by decide) rfl rfl rfl hJ
theorem jm_33 {x1 x2 x3 : Int32} {a b : Int} {σ : Sg} (hJ : JT a b σ) : OkI PRG 60 308 [.ref 97, .int x1, .int x2, .int x3] σ (fun _ σ' => JT a b σ') := by
  obtain ⟨N, hN⟩ := hJ.1
  exact jm_I (by decide) (by decide) (by decide) (OkI.mono (gain_OK hN) (fun _ σ' hq => ⟨N, hq⟩)) hJ
theorem jx_34 {x1 x2 x3 : Int32} {a b : Int} {σ : Sg} (hJ : JT a b σ) : OkI PRG 60 166 [.ref 0, .int x1, .int x2, .int x3] σ (fun _ σ' => JT a b σ') := jx_I (c_166 stTop) (avsC ⟨0, rfl, rfl⟩ (avsC avF (avsC avF (avsC avF avsN)))) rfl rfl rfl (by decide) rfl rfl rfl hJ
theorem jm_34 {x1 x2 x3 : Int32} {a b : Int} {σ : Sg} (hJ : JT a b σ) : OkI PRG 60 309 [.ref 97, .int x1, .int x2, .int x3] σ (fun _ σ' => JT a b σ') := by
  obtain ⟨N, hN⟩ := hJ.1
  exact jm_I (by decide) (by decide) (by decide) (OkI.mono (bestSet_OK hN) (fun _ σ' hq => ⟨N, hq⟩)) hJ
theorem jx_35 {a b : Int} {σ : Sg} (hJ : JT a b σ) : OkI PRG 60 167 [.ref 0] σ (fun _ σ' => JT a b σ') := jx_I (c_167 stTop) (avsC ⟨0, rfl, rfl⟩ avsN) rfl rfl rfl (by decide) rfl rfl rfl hJ
theorem jm_35 {a b : Int} {σ : Sg} (hJ : JT a b σ) : OkI PRG 60 310 [.ref 97] σ (fun _ σ' => JT a b σ') := by
  obtain ⟨N, hN⟩ := hJ.1
  exact jm_I (by decide) (by decide) (by decide) (OkI.mono (book_OK hN) (fun _ σ' hq => ⟨N, hq⟩)) hJ
theorem jx_36 {x1 : Int32} {a b : Int} {σ : Sg} (hJ : JT a b σ) : OkI PRG 60 168 [.ref 0, .int x1] σ (fun _ σ' => JT a b σ') := jx_I (c_168 stTop) (avsC ⟨0, rfl, rfl⟩ (avsC avF avsN)) rfl rfl rfl (by decide) rfl rfl rfl hJ
theorem jm_36 {x1 : Int32} {a b : Int} {σ : Sg} (hJ : JT a b σ) : OkI PRG 60 312 [.ref 97, .int x1] σ (fun _ σ' => JT a b σ') := by
  obtain ⟨N, hN⟩ := hJ.1
  exact jm_I (by decide) (by decide) (by decide) (OkI.mono (kept_OK hN) (fun _ σ' hq => ⟨N, hq⟩)) hJ
theorem jx_37 {x1 x2 x3 : Int32} {a b : Int} {σ : Sg} (hJ : JT a b σ) : OkI PRG 60 170 [.ref 0, .int x1, .int x2, .int x3] σ (fun _ σ' => JT a b σ') := jx_I (c_170 stTop) (avsC ⟨0, rfl, rfl⟩ (avsC avF (avsC avF (avsC avF avsN)))) rfl rfl rfl (by decide) rfl rfl rfl hJ
theorem jm_37 {x1 x2 x3 : Int32} {a b : Int} {σ : Sg} (hJ : JT a b σ) : OkI PRG 60 314 [.ref 97, .int x1, .int x2, .int x3] σ (fun _ σ' => JT a b σ') := by
  obtain ⟨N, hN⟩ := hJ.1
  exact jm_I (by decide) (by decide) (by decide) (OkI.mono (toldB_OK hN) (fun _ σ' hq => ⟨N, hq⟩)) hJ
theorem jx_38 {x1 x2 : Int32} {a b : Int} {σ : Sg} (hJ : JT a b σ) : OkI PRG 60 171 [.ref 0, .int x1, .int x2] σ (fun _ σ' => JT a b σ') := jx_I (c_171 stTop) (avsC ⟨0, rfl, rfl⟩ (avsC avF (avsC avF avsN))) rfl rfl rfl (by decide) rfl rfl rfl hJ
theorem jm_38 {x1 x2 : Int32} {a b : Int} {σ : Sg} (hJ : JT a b σ) : OkI PRG 60 318 [.ref 97, .int x1, .int x2] σ (fun _ σ' => JT a b σ') := by
  obtain ⟨N, hN⟩ := hJ.1
  exact jm_I (by decide) (by decide) (by decide) (OkI.mono (openings_OK hN) (fun _ σ' hq => ⟨N, hq⟩)) hJ
theorem jx_39 {x1 x2 : Int32} {a b : Int} {σ : Sg} (hJ : JT a b σ) : OkI PRG 60 172 [.ref 0, .int x1, .int x2] σ (fun _ σ' => JT a b σ') := jx_I (c_172 stTop) (avsC ⟨0, rfl, rfl⟩ (avsC avF (avsC avF avsN))) rfl rfl rfl (by decide) rfl rfl rfl hJ
theorem jm_39 {x1 x2 : Int32} {a b : Int} {σ : Sg} (hJ : JT a b σ) : OkI PRG 60 319 [.ref 97, .int x1, .int x2] σ (fun _ σ' => JT a b σ') := by
  obtain ⟨N, hN⟩ := hJ.1
  exact jm_I (by decide) (by decide) (by decide) (OkI.mono (quarrel_OK hN) (fun _ σ' hq => ⟨N, hq⟩)) hJ
theorem jx_40 {a b : Int} {σ : Sg} (hJ : JT a b σ) : OkI PRG 60 173 [.ref 0] σ (fun _ σ' => JT a b σ') := jx_I (c_173 stTop) (avsC ⟨0, rfl, rfl⟩ avsN) rfl rfl rfl (by decide) rfl rfl rfl hJ
theorem jm_40 {a b : Int} {σ : Sg} (hJ : JT a b σ) : OkI PRG 60 320 [.ref 97] σ (fun _ σ' => JT a b σ') := by
  obtain ⟨N, hN⟩ := hJ.1
  exact jm_I (by decide) (by decide) (by decide) (OkI.mono (gap_OK hN) (fun _ σ' hq => ⟨N, hq⟩)) hJ
theorem jx_41 {x1 : Int32} {a b : Int} {σ : Sg} (hJ : JT a b σ) : OkI PRG 60 174 [.ref 0, .int x1] σ (fun _ σ' => JT a b σ') := jx_I (c_174 stTop) (avsC ⟨0, rfl, rfl⟩ (avsC avF avsN)) rfl rfl rfl (by decide) rfl rfl rfl hJ
theorem jm_41 {x1 : Int32} {a b : Int} {σ : Sg} (hJ : JT a b σ) : OkI PRG 60 321 [.ref 97, .int x1] σ (fun _ σ' => JT a b σ') := by
  obtain ⟨N, hN⟩ := hJ.1
  exact jm_I (by decide) (by decide) (by decide) (OkI.mono (hold_OK (d := 0) hN) (fun _ σ' hq => ⟨N, hq⟩)) hJ
theorem jx_42 {x1 : Int32} {a b : Int} {σ : Sg} (hJ : JT a b σ) : OkI PRG 60 175 [.ref 0, .int x1] σ (fun _ σ' => JT a b σ') := jx_I (c_175 stTop) (avsC ⟨0, rfl, rfl⟩ (avsC avF avsN)) rfl rfl rfl (by decide) rfl rfl rfl hJ
theorem jm_42 {x1 : Int32} {a b : Int} {σ : Sg} (hJ : JT a b σ) : OkI PRG 60 322 [.ref 97, .int x1] σ (fun _ σ' => JT a b σ') := by
  obtain ⟨N, hN⟩ := hJ.1
  exact jm_I (by decide) (by decide) (by decide) (OkI.mono (restore_OK (d := 0) hN) (fun _ σ' hq => ⟨N, hq⟩)) hJ
theorem jx_43 {x1 : Int32} {a b : Int} {σ : Sg} (hJ : JT a b σ) : OkI PRG 60 177 [.ref 0, .int x1] σ (fun _ σ' => JT a b σ') := jx_I (c_177 stTop) (avsC ⟨0, rfl, rfl⟩ (avsC avF avsN)) rfl rfl rfl (by decide) rfl rfl rfl hJ
theorem jm_43 {x1 : Int32} {a b : Int} {σ : Sg} (hJ : JT a b σ) : OkI PRG 60 323 [.ref 97, .int x1] σ (fun _ σ' => JT a b σ') := by
  obtain ⟨N, hN⟩ := hJ.1
  exact jm_I (by decide) (by decide) (by decide) (OkI.mono (count_OK hN) (fun _ σ' hq => ⟨N, hq⟩)) hJ
