/-! both sides, call by call: the tapes' bytes, the words, place -/
def TBy (a : Int) (σ : Sg) : Prop := ∀ i : Nat, (i : Int) < a → σ.1 1 i &&& 255 = σ.1 98 i &&& 255
def KW (σ : Sg) : Prop := KWc σ ∧ KWr σ ∧ σ.1 15 8 = σ.1 97 17
def J6 (a b c : Int) (σ : Sg) : Prop := JT a b σ ∧ TBy c σ ∧ KW σ
def J5 (t : Int) (σ : Sg) : Prop := J6 t t t σ
def DEP5 : List (Nat × Nat × Nat) := [(41, 0, 1999), (54, 0, 1999), (12, 17, 17), (8, 8, 8)]
def noR (q0 : Nat) (av : List Value) : Bool := av.all (fun x => match x with
  | .ref q => !(q == q0)
  | _ => true)
theorem noR_ok {q0 : Nat} {av : List Value} (h : noR q0 av = true) : ∀ x ∈ av, ¬ x = .ref q0 := by
  intro x hx e
  subst e
  have := List.all_eq_true.mp h _ hx
  simp at this
theorem KWc.keep {σ σ' : Sg} (h : KWc σ) (e : longR 21 σ σ') : KWc σ' := fun j hj => by rw [e j]; exact h j hj
theorem KWr.keep {σ σ' : Sg} (h : KWr σ) (e : longR 104 σ σ') : KWr σ' := fun j hj => by rw [e j]; exact h j hj
theorem TBy.keep {t : Int} {σ σ' : Sg} (h : TBy t σ) (e1 : ∀ j : Nat, (j : Int) < t → σ'.1 1 j = σ.1 1 j) (e2 : ∀ j : Nat, (j : Int) < t → σ'.1 98 j = σ.1 98 j) : TBy t σ' := fun i hi => by rw [e1 i hi, e2 i hi]; exact h i hi
theorem KW.keep {σ σ' : Sg} (h : KW σ) (e1 : longR 21 σ σ') (e2 : longR 104 σ σ') (e3 : σ'.1 15 8 = σ.1 15 8) (e4 : σ'.1 97 17 = σ.1 97 17) : KW σ' := ⟨h.1.keep e1, h.2.1.keep e2, by rw [e3, e4]; exact h.2.2⟩
/-- the class's frames by Gl -/
theorem g_1 {ms : List (Nat × Nat × Nat)} {σ σ' : Sg} (hG : Gl ms σ σ') (h5 : offD ms [(41, 0, 1999)] = true) {j : Nat} (hj : j < 2000) : σ'.1 1 j = σ.1 1 j := hG.get (q := 1) (κ := 41) rfl (off_in h5 (inM_of (a := 0) (b := 1999) (by decide) (by omega) (by omega)))
theorem g_98 {ms : List (Nat × Nat × Nat)} {σ σ' : Sg} (hG : Gl ms σ σ') (h5 : offD ms [(54, 0, 1999)] = true) {j : Nat} (hj : j < 2000) : σ'.1 98 j = σ.1 98 j := hG.get (q := 98) (κ := 54) rfl (off_in h5 (inM_of (a := 0) (b := 1999) (by decide) (by omega) (by omega)))
theorem g_15 {ms : List (Nat × Nat × Nat)} {σ σ' : Sg} (hG : Gl ms σ σ') (h5 : inM ms 8 8 = false) : σ'.1 15 8 = σ.1 15 8 := hG.get (q := 15) (κ := 8) rfl h5
theorem g_97 {ms : List (Nat × Nat × Nat)} {σ σ' : Sg} (hG : Gl ms σ σ') (h5 : inM ms 12 17 = false) : σ'.1 97 17 = σ.1 97 17 := hG.get (q := 97) (κ := 12) rfl h5
theorem x_long {d mi : Nat} {av : List Value} {σ : Sg} {Q : Option Value → Sg → Prop} (hm : S5x.contains mi = true) (h1 : noR 21 av = true) (h2 : noR 104 av = true) (h : Ok PRG d mi av σ Q) : Ok PRG d mi av σ (fun v σ' => longR 21 σ σ' ∧ longR 104 σ σ' ∧ Q v σ') :=
  Ok.longC gg_G5x_21 ga_21 nl_y vi_x hm (noR_ok h1) (Ok.longC gg_G5x_104 ga_104 nl_y vi_x hm (noR_ok h2) h)
theorem J5.cls {t : Int} {ms : List (Nat × Nat × Nat)} {σ σ' : Sg} (h : J5 t σ) (hG : Gl ms σ σ') (ho : offD ms DEPA = true) (h1 : inM ms 11 1 = false) (h2 : inM ms 12 2 = false) (h5 : offD ms DEP5 = true) (l1 : longR 21 σ σ') (l2 : longR 104 σ σ') : J5 t σ' := by
  have hr := h.1.rg
  exact ⟨h.1.cls hG ho h1 h2, h.2.1.keep (fun j hj => g_1 hG (offD_sub h5 (by decide)) (by omega)) (fun j hj => g_98 hG (offD_sub h5 (by decide)) (by omega)), h.2.2.keep l1 l2 (g_15 hG (off_in h5 (by decide))) (g_97 hG (off_in h5 (by decide)))⟩
theorem kx_I {mi : Nat} {sp : SP} {av : List Value} {lo hi t : Int} {σ : Sg} (h : SpecOK PRG TYP (fun _ => True) mi sp) (hav : avsOK (spArgs sp) av) (hp : spPre sp = []) (hf : spPhi sp = []) (hr : spRes sp = some (0, lo, hi)) (hd : spD sp ≤ 60) (ho : offD (spMods sp) DEPA = true) (h1 : inM (spMods sp) 11 1 = false) (h2 : inM (spMods sp) 12 2 = false) (h5 : offD (spMods sp) DEP5 = true) (hm : S5x.contains mi = true) (n1 : noR 21 av = true) (n2 : noR 104 av = true) (hJ : J5 t σ) : OkI PRG 60 mi av σ (fun _ σ' => J5 t σ') := by
  obtain ⟨N, hN⟩ := hJ.1.1
  refine Ok.deep (Ok.mono (x_long hm n1 n2 (h.atI hN.1 trivial hav hp hf hr)) (fun v σ' hq => ?_)) hd
  obtain ⟨l1, l2, w, hw, hq⟩ := hq
  exact ⟨w, hw, hJ.cls hq.1 ho h1 h2 h5 l1 l2⟩
theorem kx_J {mi : Nat} {sp : SP} {av : List Value} {lo hi t : Int} {σ : Sg} (h : SpecOK PRG TYP (fun _ => True) mi sp) (hav : avsOK (spArgs sp) av) (hp : spPre sp = []) (hf : spPhi sp = []) (hr : spRes sp = some (3, lo, hi)) (hd : spD sp ≤ 60) (ho : offD (spMods sp) DEPA = true) (h1 : inM (spMods sp) 11 1 = false) (h2 : inM (spMods sp) 12 2 = false) (h5 : offD (spMods sp) DEP5 = true) (hm : S5x.contains mi = true) (n1 : noR 21 av = true) (n2 : noR 104 av = true) (hJ : J5 t σ) : OkJ PRG 60 mi av σ (fun _ σ' => J5 t σ') := by
  obtain ⟨N, hN⟩ := hJ.1.1
  refine Ok.deep (Ok.mono (x_long hm n1 n2 (h.at hN.1 trivial hav hp hf)) (fun v σ' hq => ?_)) hd
  obtain ⟨l1, l2, ⟨g1, g2, g3⟩, g4, -⟩ := hq
  rw [hr] at g4
  cases v with
  | none => exact absurd g4 (fun h => h)
  | some v =>
    obtain ⟨w, rfl⟩ := g4
    exact ⟨w, rfl, hJ.cls ⟨g1, trivial, g3⟩ ho h1 h2 h5 l1 l2⟩
theorem m_fr {d mi : Nat} {av : List Value} {σ : Sg} {Q : Option Value → Sg → Prop} (ha : S5a.contains mi = true) (h1 : noR 1 av = true) (h2 : noR 21 av = true) (h : Ok PRG d mi av σ Q) : Ok PRG d mi av σ (fun v σ' => cellR 1 σ σ' ∧ cellR 21 σ σ' ∧ σ'.1 15 8 = σ.1 15 8 ∧ Q v σ') :=
  Ok.cell gg_G5a_1 ga_1 vi_a ha (noR_ok h1) (Ok.cell gg_G5a_21 ga_21 vi_a ha (noR_ok h2) (Ok.field (q0 := 15) (c := 8) (k0 := 8) rfl nf_a (by simpa using ha) h))
theorem m_fk {d mi : Nat} {av : List Value} {σ : Sg} {Q : Option Value → Sg → Prop} (hk : S5k.contains mi = true) (h1 : noR 104 av = true) (h : Ok PRG d mi av σ Q) : Ok PRG d mi av σ (fun v σ' => cellR 104 σ σ' ∧ Q v σ') := Ok.cell gg_G5k_104 ga_104 vi_k hk (noR_ok h1) h
theorem m_fm {d mi : Nat} {av : List Value} {σ : Sg} {Q : Option Value → Sg → Prop} (hm : S5m.contains mi = true) (h1 : noR 98 av = true) (h : Ok PRG d mi av σ Q) : Ok PRG d mi av σ (fun v σ' => cellR 98 σ σ' ∧ σ'.1 97 17 = σ.1 97 17 ∧ Q v σ') := Ok.cell gg_G5m_98 ga_98 vi_m hm (noR_ok h1) (Ok.field (q0 := 97) (c := 12) (k0 := 17) rfl nf_m (by simpa using hm) h)
theorem km_A {d mi : Nat} {av : List Value} {t : Int} {σ : Sg} {Q : Option Value → Sg → Prop} (ha : S5a.contains mi = true) (hk : S5k.contains mi = true) (hm : S5m.contains mi = true) (h1 : noR 1 av = true) (h2 : noR 21 av = true) (h3 : noR 104 av = true) (h4 : noR 98 av = true) (hJ : J5 t σ) (h : Ok PRG d mi av σ Q) : Ok PRG d mi av σ (fun v σ' => (TBy t σ' ∧ KW σ') ∧ Q v σ') := by
  refine Ok.mono (m_fr ha h1 h2 (m_fk hk h3 (m_fm hm h4 h))) (fun v σ' hq => ?_)
  obtain ⟨c1, c2, e1, c3, c4, e2, q⟩ := hq
  exact ⟨⟨hJ.2.1.keep (fun j _ => c1.1 j) (fun j _ => c4.1 j), hJ.2.2.keep c2.2 c3.2 e1 e2⟩, q⟩
theorem km_I {mi : Nat} {av : List Value} {t : Int} {σ : Sg} (ha : S5a.contains mi = true) (hk : S5k.contains mi = true) (hm : S5m.contains mi = true) (h1 : noR 1 av = true) (h2 : noR 21 av = true) (h3 : noR 104 av = true) (h4 : noR 98 av = true) (hJ : J5 t σ) (h : OkI PRG 60 mi av σ (fun _ σ' => JT t t σ')) : OkI PRG 60 mi av σ (fun _ σ' => J5 t σ') := by
  refine Ok.mono (km_A ha hk hm h1 h2 h3 h4 hJ h) (fun v σ' hq => ?_)
  obtain ⟨⟨a, b⟩, w, hw, c⟩ := hq
  exact ⟨w, hw, c, a, b⟩
theorem km_J {mi : Nat} {av : List Value} {t : Int} {σ : Sg} (ha : S5a.contains mi = true) (hk : S5k.contains mi = true) (hm : S5m.contains mi = true) (h1 : noR 1 av = true) (h2 : noR 21 av = true) (h3 : noR 104 av = true) (h4 : noR 98 av = true) (hJ : J5 t σ) (h : OkJ PRG 60 mi av σ (fun _ σ' => JT t t σ')) : OkJ PRG 60 mi av σ (fun _ σ' => J5 t σ') := by
  refine Ok.mono (km_A ha hk hm h1 h2 h3 h4 hJ h) (fun v σ' hq => ?_)
  obtain ⟨⟨a, b⟩, w, hw, c⟩ := hq
  exact ⟨w, hw, c, a, b⟩
/-- the class's tape is fed, the reference's not yet -/
def MF (x : Nat → Int32) (t : Int) (σ : Sg) : Prop := TBy t σ ∧ (t + 20 ≤ 2000 → ∀ a, a < 5 → ∀ k, k < 4 → σ.1 1 (t.toNat + 4 * a + k) &&& 255 = bB (x a) k)
theorem nI_of3 {x : Int32} {t : Int} (h : x.toInt = t) (h0 : 0 ≤ t) (h1 : t ≤ 2000) : x = nI t.toNat := by
  apply Int32.toInt_inj.mp
  rw [nI_toInt (by omega), h]
  omega
theorem kx_0 {x1 x2 x3 x4 x5_ : Int32} {t : Int} {σ : Sg} (hJ : J5 t σ) : OkI PRG 60 121 [.ref 0, .int x1, .int x2, .int x3, .int x4, .int x5_] σ (fun w σ' => ∃ a', fedTo t w.toInt a' ∧ JT a' t σ' ∧ MF (x5 x1 x2 x3 x4 x5_) t σ' ∧ KW σ') := by
  have hr := hJ.1.rg
  obtain ⟨⟨⟨N, hN⟩, e1, e2⟩, hT, hK⟩ := hJ
  have hP := Ok.part (x_long rfl rfl rfl (OkI.and ((c_121 stTop).atI hN.1 trivial (avsC ⟨0, rfl, rfl⟩ (avsC avF (avsC avF (avsC avF (avsC avF (avsC avF avsN)))))) rfl rfl rfl) (feed_x (d := 0) (a := x1) (b := x2) (c := x3) (e := x4) (f := x5_) e1 hr.1.1 hr.1.2))) (fun n d => feed_c (n := n) (d := d) (a := x1) (b := x2) (c := x3) (e := x4) (f := x5_) (t := t.toNat) (nI_of3 e1 hr.1.1 hr.1.2) (by omega))
  refine Ok.deep (Ok.mono hP (fun v σ' hq => ?_)) (by decide)
  obtain ⟨⟨l1, l2, w, hw, ⟨hG, -⟩, hf⟩, fd⟩ := hq
  refine ⟨w, hw, _, hf, ⟨⟨N, hN.cls hG rfl⟩, rfl, by rw [hG.get (q := 97) (κ := 12) rfl rfl]; exact e2⟩, ⟨hT.keep (fun j hj => ?_) (fun j hj => g_98 hG rfl (by omega)), fun h20 a ha k hk => ?_⟩, hK.keep l1 l2 (g_15 hG rfl) (g_97 hG rfl)⟩
  · rcases fd with ⟨-, f⟩ | ⟨-, f⟩
    · exact f.1 j (by omega)
    · rw [f]
  · rcases fd with ⟨-, f⟩ | ⟨c, -⟩
    · exact f.2 a ha k hk
    · omega
theorem km_0 {x1 x2 x3 x4 x5_ : Int32} {a t : Int} {σ : Sg} (hJ : JT a t σ ∧ MF (x5 x1 x2 x3 x4 x5_) t σ ∧ KW σ) : OkI PRG 60 179 [.ref 97, .int x1, .int x2, .int x3, .int x4, .int x5_] σ (fun w σ' => ∃ b', fedTo t w.toInt b' ∧ J6 a b' b' σ') := by
  have hr := hJ.1.rg
  obtain ⟨⟨⟨N, hN⟩, e1, e2⟩, ⟨hT, hB⟩, hK⟩ := hJ
  have hP := Ok.part (m_fr rfl rfl rfl (m_fk rfl rfl (feed_G (d := 0) (a := x1) (b := x2) (c := x3) (e := x4) (f := x5_) hN.1 e2 hr.2.1 hr.2.2))) (fun n d => feed_r (n := n) (d := d) (a := x1) (b := x2) (c := x3) (e := x4) (f := x5_) (t := t.toNat) (nI_of3 e2 hr.2.1 hr.2.2) (by omega))
  refine Ok.deep (Ok.mono hP (fun v σ' hq => ?_)) (by decide)
  obtain ⟨⟨c1, c2, e15, c3, w, hw, hG, hf⟩, fd⟩ := hq
  refine ⟨w, hw, _, hf, ⟨⟨N, hN.cls hG rfl⟩, by rw [hG.get (q := 0) (κ := 11) rfl rfl]; exact e1, rfl⟩, fun i hi => ?_, hK.keep c2.2 c3.2 e15 (g_97 hG rfl)⟩
  rw [c1.1]
  rcases fd with ⟨h20, f⟩ | ⟨h20, f⟩
  · by_cases h : (i : Int) < t
    · rw [f.1 i (by omega)]
      exact hT i h
    · have hi2 : (i : Int) < t + 20 := by
        rcases hf with ⟨-, -, e⟩ | ⟨c, -, -⟩
        · omega
        · omega
      have e : i = t.toNat + 4 * ((i - t.toNat) / 4) + (i - t.toNat) % 4 := by omega
      rw [e, f.2 _ (by omega) _ (by omega)]
      exact hB (by omega) _ (by omega) _ (by omega)
  · have hi2 : (i : Int) < t := by
      rcases hf with ⟨c, -, -⟩ | ⟨-, -, e⟩
      · omega
      · omega
    rw [f]
    exact hT i hi2
theorem kx_1 {x1 : Int32} {t : Int} {σ : Sg} (hJ : J5 t σ) : OkI PRG 60 122 [.ref 0, .int x1] σ (fun w σ' => ∃ a', backTo t x1.toInt w.toInt a' ∧ J6 a' t t σ') := by
  have hr := hJ.1.rg
  obtain ⟨⟨⟨N, hN⟩, e1, e2⟩, hT, hK⟩ := hJ
  have hP := x_long rfl rfl rfl (OkI.and ((c_122 stTop).atI hN.1 trivial (avsC ⟨0, rfl, rfl⟩ (avsC avF avsN)) rfl rfl rfl) (back_x (d := 0) (n := x1) e1 hr.1.1 hr.1.2))
  refine Ok.deep (Ok.mono hP (fun v σ' hq => ?_)) (by decide)
  obtain ⟨l1, l2, w, hw, ⟨hG, -⟩, hf⟩ := hq
  exact ⟨w, hw, _, hf, ⟨⟨N, hN.cls hG rfl⟩, rfl, by rw [hG.get (q := 97) (κ := 12) rfl rfl]; exact e2⟩, hT.keep (fun j hj => g_1 hG rfl (by omega)) (fun j hj => g_98 hG rfl (by omega)), hK.keep l1 l2 (g_15 hG rfl) (g_97 hG rfl)⟩
theorem km_1 {x1 : Int32} {a t : Int} {σ : Sg} (hJ : J6 a t t σ) : OkI PRG 60 180 [.ref 97, .int x1] σ (fun w σ' => ∃ b', backTo t x1.toInt w.toInt b' ∧ J6 a b' b' σ') := by
  have hr := hJ.1.rg
  obtain ⟨⟨⟨N, hN⟩, e1, e2⟩, hT, hK⟩ := hJ
  have hP := m_fr rfl rfl rfl (m_fk rfl rfl (m_fm rfl rfl (back_G (d := 0) (n := x1) hN.1 e2 hr.2.1 hr.2.2)))
  refine Ok.deep (Ok.mono hP (fun v σ' hq => ?_)) (by decide)
  obtain ⟨c1, c2, e15, c3, c4, e17, w, hw, hG, hf⟩ := hq
  refine ⟨w, hw, _, hf, ⟨⟨N, hN.cls hG rfl⟩, by rw [hG.get (q := 0) (κ := 11) rfl rfl]; exact e1, rfl⟩, fun i hi => ?_, hK.keep c2.2 c3.2 e15 e17⟩
  rw [c1.1, c4.1]
  refine hT i ?_
  unfold backTo at hf
  omega
def byOf (t : Int) (σ : Sg) (i : Nat) : Int32 := if i < t.toNat then σ.1 98 i &&& 255 else 0
theorem byOf_in {t : Int} {σ : Sg} {i : Nat} (h : i < t.toNat) : σ.1 98 i &&& 255 = byOf t σ i := (if_pos h).symm
def tkOf (t : Int) (σ : Sg) : List Tk := toks (byOf t σ) t.toNat (t.toNat + 1) 0
theorem kx_2 {t : Int} {σ : Sg} (hJ : J5 t σ) : OkI PRG 60 124 [.ref 0] σ (fun w σ' => JT 0 t σ' ∧ (KWc σ' ∧ KWr σ') ∧ rdQ (tkOf t σ') w (σ'.1 15 8)) := by
  have hr := hJ.1.rg
  obtain ⟨⟨⟨N, hN⟩, e1, e2⟩, hT, hK⟩ := hJ
  have hP := Ok.part (Q' := fun v σ' => ∀ w : Int32, v = some (.int w) → rdQ (tkOf t σ) w (σ'.1 15 8)) (x_long rfl rfl rfl (readC_OK hN.1)) (fun n d m hm v σ' hrun w e => by
    subst e
    exact read_c (n := n) (L := t.toNat) (b := byOf t σ) (by omega) (nI_of3 e1 hr.1.1 hr.1.2) (fun i hi => (hT i (by omega)).trans (byOf_in hi)) hK.1 ⟨m, d, hm, hrun⟩)
  refine Ok.deep (Ok.mono hP (fun v σ' hq => ?_)) (by decide)
  obtain ⟨⟨l1, l2, w, hw, hG, hz⟩, rd⟩ := hq
  have e98 : tkOf t σ' = tkOf t σ := by
    have eb : byOf t σ' = byOf t σ := funext (fun i => by
      unfold byOf
      by_cases h : i < t.toNat
      · rw [if_pos h, if_pos h, g_98 hG rfl (by omega)]
      · rw [if_neg h, if_neg h])
    unfold tkOf
    rw [eb]
  exact ⟨w, hw, ⟨⟨N, hN.cls hG rfl⟩, hz, by rw [hG.get (q := 97) (κ := 12) rfl rfl]; exact e2⟩, ⟨hK.1.keep l1, hK.2.1.keep l2⟩, by rw [e98]; exact rd w hw⟩
theorem km_2 {t : Int} {w0 : Int32} {σ : Sg} (hJ : JT 0 t σ ∧ (KWc σ ∧ KWr σ) ∧ rdQ (tkOf t σ) w0 (σ.1 15 8)) : OkI PRG 60 204 [.ref 97] σ (fun w σ' => w0 = w ∧ J5 0 σ') := by
  have hr := hJ.1.rg
  obtain ⟨⟨⟨N, hN⟩, e1, e2⟩, ⟨hKc, hKr⟩, hQ⟩ := hJ
  have hP := Ok.part (Q' := fun v σ' => ∀ w : Int32, v = some (.int w) → rdQ (tkOf t σ) w (σ'.1 97 17) ∧ KWr σ') (m_fr rfl rfl rfl (keepRR (by decide) (read_OK hN))) (fun n d m hm v σ' hrun w e => by
    subst e
    exact read_m (n := n) (L := t.toNat) (b := byOf t σ) (by omega) (nI_of3 e2 hr.2.1 hr.2.2) (fun i hi => byOf_in hi) hKr ⟨m, d, hm, hrun⟩)
  refine Ok.deep (Ok.mono hP (fun v σ' hq => ?_)) (show 9 ≤ 60 by decide)
  obtain ⟨⟨c1, c2, e15, k, w, hw, hN', hz⟩, rd⟩ := hq
  obtain ⟨rd1, rd2⟩ := rd w hw
  obtain ⟨ew, ep⟩ := rdQ_one hQ rd1
  exact ⟨w, hw, ew, ⟨hN', by rw [k]; exact e1, hz⟩, fun i hi => absurd hi (by omega), hKc.keep c2.2, rd2, by rw [e15]; exact ep⟩
theorem kx_3 {t : Int} {σ : Sg} (hJ : J5 t σ) : OkI PRG 60 125 [.ref 0] σ (fun w σ' => w = σ'.1 97 17 ∧ J5 t σ') := by
  have h0 := (kx_I (c_125 stTop) (avsC ⟨0, rfl, rfl⟩ avsN) rfl rfl rfl (by decide) rfl rfl rfl rfl rfl rfl rfl hJ : OkI PRG 60 125 [.ref 0] σ (fun _ σ' => J5 t σ'))
  have hP := Ok.part (Q' := fun v σ' => ∃ w : Int32, v = some (.int w) ∧ w = σ.1 15 8 ∧ σ' = σ) h0 (fun n d => Pl.pos (fun m _ => p_125_0 σ ⟨_, rfl, rfl, rfl⟩))
  refine Ok.mono hP (fun v σ' hq => ?_)
  obtain ⟨⟨w1, hw1, j⟩, w, hw, e, es⟩ := hq
  exact ⟨w, hw, by rw [es, e]; exact hJ.2.2.2.2, j⟩
theorem km_3 {t : Int} {w0 : Int32} {σ : Sg} (hJ : w0 = σ.1 97 17 ∧ J5 t σ) : OkI PRG 60 205 [.ref 97] σ (fun w σ' => w0 = w ∧ J5 t σ') := by
  have h0 := km_I rfl rfl rfl rfl rfl rfl rfl hJ.2 (jm_3 hJ.2.1)
  have hP := Ok.part (Q' := fun v σ' => ∃ w : Int32, v = some (.int w) ∧ w = σ.1 97 17) h0 (fun n d => Pl.pos (fun m _ => p_205_0 σ ⟨_, rfl, rfl⟩))
  refine Ok.mono hP (fun v σ' hq => ?_)
  obtain ⟨⟨w1, hw1, j⟩, w, hw, e⟩ := hq
  exact ⟨w, hw, by rw [e]; exact hJ.1, j⟩
theorem kx_4 {x1 : Int32} {t : Int} {σ : Sg} (hJ : J5 t σ) : OkI PRG 60 126 [.ref 0, .int x1] σ (fun _ σ' => J5 t σ') := kx_I (c_126 stTop) (avsC ⟨0, rfl, rfl⟩ (avsC avF avsN)) rfl rfl rfl (by decide) rfl rfl rfl rfl rfl rfl rfl hJ
theorem km_4 {x1 : Int32} {t : Int} {σ : Sg} (hJ : J5 t σ) : OkI PRG 60 222 [.ref 97, .int x1] σ (fun _ σ' => J5 t σ') := km_I rfl rfl rfl rfl rfl rfl rfl hJ (jm_4 hJ.1)
theorem kx_5 {x1 x2 x3 : Int32} {t : Int} {σ : Sg} (hJ : J5 t σ) : OkI PRG 60 128 [.ref 0, .int x1, .int x2, .int x3] σ (fun _ σ' => J5 t σ') := kx_I (c_128 stTop) (avsC ⟨0, rfl, rfl⟩ (avsC avF (avsC avF (avsC avF avsN)))) rfl rfl rfl (by decide) rfl rfl rfl rfl rfl rfl rfl hJ
theorem km_5 {x1 x2 x3 : Int32} {t : Int} {σ : Sg} (hJ : J5 t σ) : OkI PRG 60 223 [.ref 97, .int x1, .int x2, .int x3] σ (fun _ σ' => J5 t σ') := km_I rfl rfl rfl rfl rfl rfl rfl hJ (jm_5 hJ.1)
theorem kx_6 {x1 : Int32} {t : Int} {σ : Sg} (hJ : J5 t σ) : OkI PRG 60 130 [.ref 0, .int x1] σ (fun _ σ' => J5 t σ') := kx_I (c_130 stTop) (avsC ⟨0, rfl, rfl⟩ (avsC avF avsN)) rfl rfl rfl (by decide) rfl rfl rfl rfl rfl rfl rfl hJ
theorem km_6 {x1 : Int32} {t : Int} {σ : Sg} (hJ : J5 t σ) : OkI PRG 60 224 [.ref 97, .int x1] σ (fun _ σ' => J5 t σ') := km_I rfl rfl rfl rfl rfl rfl rfl hJ (jm_6 hJ.1)
theorem kx_7 {x1 x2 : Int32} (hx : 0 ≤ x2.toInt ∧ x2.toInt ≤ 1) {t : Int} {σ : Sg} (hJ : J5 t σ) : OkI PRG 60 131 [.ref 0, .int x1, .int x2] σ (fun _ σ' => J5 t σ') := kx_I (c_131 stTop) (avsC ⟨0, rfl, rfl⟩ (avsC avF (avsC (avI hx.1 hx.2) avsN))) rfl rfl rfl (by decide) rfl rfl rfl rfl rfl rfl rfl hJ
theorem km_7 {x1 x2 : Int32} {t : Int} {σ : Sg} (hJ : J5 t σ) : OkI PRG 60 227 [.ref 97, .int x1, .int x2] σ (fun _ σ' => J5 t σ') := km_I rfl rfl rfl rfl rfl rfl rfl hJ (jm_7 hJ.1)
theorem kx_8 {t : Int} {σ : Sg} (hJ : J5 t σ) : OkI PRG 60 132 [.ref 0] σ (fun _ σ' => J5 t σ') := kx_I (c_132 stTop) (avsC ⟨0, rfl, rfl⟩ avsN) rfl rfl rfl (by decide) rfl rfl rfl rfl rfl rfl rfl hJ
theorem km_8 {t : Int} {σ : Sg} (hJ : J5 t σ) : OkI PRG 60 231 [.ref 97] σ (fun _ σ' => J5 t σ') := km_I rfl rfl rfl rfl rfl rfl rfl hJ (jm_8 hJ.1)
theorem kx_9 {t : Int} {σ : Sg} (hJ : J5 t σ) : OkI PRG 60 133 [.ref 0] σ (fun _ σ' => J5 t σ') := kx_I (c_133 stTop) (avsC ⟨0, rfl, rfl⟩ avsN) rfl rfl rfl (by decide) rfl rfl rfl rfl rfl rfl rfl hJ
theorem km_9 {t : Int} {σ : Sg} (hJ : J5 t σ) : OkI PRG 60 234 [.ref 97] σ (fun _ σ' => J5 t σ') := km_I rfl rfl rfl rfl rfl rfl rfl hJ (jm_9 hJ.1)
theorem kx_10 {x1 : Int32} {t : Int} {σ : Sg} (hJ : J5 t σ) : OkI PRG 60 136 [.ref 0, .int x1] σ (fun _ σ' => J5 t σ') := kx_I (c_136 stTop) (avsC ⟨0, rfl, rfl⟩ (avsC avF avsN)) rfl rfl rfl (by decide) rfl rfl rfl rfl rfl rfl rfl hJ
theorem km_10 {x1 : Int32} {t : Int} {σ : Sg} (hJ : J5 t σ) : OkI PRG 60 237 [.ref 97, .int x1] σ (fun _ σ' => J5 t σ') := km_I rfl rfl rfl rfl rfl rfl rfl hJ (jm_10 hJ.1)
theorem kx_11 {x1 : Int32} {t : Int} {σ : Sg} (hJ : J5 t σ) : OkI PRG 60 137 [.ref 0, .int x1] σ (fun _ σ' => J5 t σ') := kx_I (c_137 stTop) (avsC ⟨0, rfl, rfl⟩ (avsC avF avsN)) rfl rfl rfl (by decide) rfl rfl rfl rfl rfl rfl rfl hJ
theorem km_11 {x1 : Int32} {t : Int} {σ : Sg} (hJ : J5 t σ) : OkI PRG 60 238 [.ref 97, .int x1] σ (fun _ σ' => J5 t σ') := km_I rfl rfl rfl rfl rfl rfl rfl hJ (jm_11 hJ.1)
theorem kx_12 {t : Int} {σ : Sg} (hJ : J5 t σ) : OkI PRG 60 138 [.ref 0] σ (fun _ σ' => J5 t σ') := kx_I (c_138 stTop) (avsC ⟨0, rfl, rfl⟩ avsN) rfl rfl rfl (by decide) rfl rfl rfl rfl rfl rfl rfl hJ
theorem km_12 {t : Int} {σ : Sg} (hJ : J5 t σ) : OkI PRG 60 239 [.ref 97] σ (fun _ σ' => J5 t σ') := km_I rfl rfl rfl rfl rfl rfl rfl hJ (jm_12 hJ.1)
theorem kx_13 {x1 x2 : Int32} {t : Int} {σ : Sg} (hJ : J5 t σ) : OkI PRG 60 139 [.ref 0, .int x1, .int x2] σ (fun _ σ' => J5 t σ') := kx_I (c_139 stTop) (avsC ⟨0, rfl, rfl⟩ (avsC avF (avsC avF avsN))) rfl rfl rfl (by decide) rfl rfl rfl rfl rfl rfl rfl hJ
theorem km_13 {x1 x2 : Int32} {t : Int} {σ : Sg} (hJ : J5 t σ) : OkI PRG 60 244 [.ref 97, .int x1, .int x2] σ (fun _ σ' => J5 t σ') := km_I rfl rfl rfl rfl rfl rfl rfl hJ (jm_13 hJ.1)
theorem kx_14 {x1 : Int32} {t : Int} {σ : Sg} (hJ : J5 t σ) : OkI PRG 60 140 [.ref 0, .int x1] σ (fun _ σ' => J5 t σ') := kx_I (c_140 stTop) (avsC ⟨0, rfl, rfl⟩ (avsC avF avsN)) rfl rfl rfl (by decide) rfl rfl rfl rfl rfl rfl rfl hJ
theorem km_14 {x1 : Int32} {t : Int} {σ : Sg} (hJ : J5 t σ) : OkI PRG 60 245 [.ref 97, .int x1] σ (fun _ σ' => J5 t σ') := km_I rfl rfl rfl rfl rfl rfl rfl hJ (jm_14 hJ.1)
theorem kx_15 {x1 : Int32} {t : Int} {σ : Sg} (hJ : J5 t σ) : OkI PRG 60 141 [.ref 0, .int x1] σ (fun _ σ' => J5 t σ') := kx_I (c_141 stTop) (avsC ⟨0, rfl, rfl⟩ (avsC avF avsN)) rfl rfl rfl (by decide) rfl rfl rfl rfl rfl rfl rfl hJ
theorem km_15 {x1 : Int32} {t : Int} {σ : Sg} (hJ : J5 t σ) : OkI PRG 60 246 [.ref 97, .int x1] σ (fun _ σ' => J5 t σ') := km_I rfl rfl rfl rfl rfl rfl rfl hJ (jm_15 hJ.1)
theorem kx_16 {x1 x2 x3 : Int32} {t : Int} {σ : Sg} (hJ : J5 t σ) : OkI PRG 60 144 [.ref 0, .int x1, .int x2, .int x3] σ (fun _ σ' => J5 t σ') := kx_I (c_144 stTop) (avsC ⟨0, rfl, rfl⟩ (avsC avF (avsC avF (avsC avF avsN)))) rfl rfl rfl (by decide) rfl rfl rfl rfl rfl rfl rfl hJ
theorem km_16 {x1 x2 x3 : Int32} {t : Int} {σ : Sg} (hJ : J5 t σ) : OkI PRG 60 256 [.ref 97, .int x1, .int x2, .int x3] σ (fun _ σ' => J5 t σ') := km_I rfl rfl rfl rfl rfl rfl rfl hJ (jm_16 hJ.1)
theorem kx_17 {x1 x2 : Int32} {t : Int} {σ : Sg} (hJ : J5 t σ) : OkI PRG 60 147 [.ref 0, .int x1, .int x2] σ (fun _ σ' => J5 t σ') := kx_I (c_147 stTop) (avsC ⟨0, rfl, rfl⟩ (avsC avF (avsC avF avsN))) rfl rfl rfl (by decide) rfl rfl rfl rfl rfl rfl rfl hJ
theorem km_17 {x1 x2 : Int32} {t : Int} {σ : Sg} (hJ : J5 t σ) : OkI PRG 60 265 [.ref 97, .int x1, .int x2] σ (fun _ σ' => J5 t σ') := km_I rfl rfl rfl rfl rfl rfl rfl hJ (jm_17 hJ.1)
theorem kx_18 {x1 x2 x3 x4 : Int32} {t : Int} {σ : Sg} (hJ : J5 t σ) : OkI PRG 60 149 [.ref 0, .int x1, .int x2, .int x3, .int x4] σ (fun _ σ' => J5 t σ') := kx_I (c_149 stTop) (avsC ⟨0, rfl, rfl⟩ (avsC avF (avsC avF (avsC avF (avsC avF avsN))))) rfl rfl rfl (by decide) rfl rfl rfl rfl rfl rfl rfl hJ
theorem km_18 {x1 x2 x3 x4 : Int32} {t : Int} {σ : Sg} (hJ : J5 t σ) : OkI PRG 60 267 [.ref 97, .int x1, .int x2, .int x3, .int x4] σ (fun _ σ' => J5 t σ') := km_I rfl rfl rfl rfl rfl rfl rfl hJ (jm_18 hJ.1)
theorem kx_19 {x1 x2 : Int32} {t : Int} {σ : Sg} (hJ : J5 t σ) : OkI PRG 60 150 [.ref 0, .int x1, .int x2] σ (fun _ σ' => J5 t σ') := kx_I (c_150 stTop) (avsC ⟨0, rfl, rfl⟩ (avsC avF (avsC avF avsN))) rfl rfl rfl (by decide) rfl rfl rfl rfl rfl rfl rfl hJ
theorem km_19 {x1 x2 : Int32} {t : Int} {σ : Sg} (hJ : J5 t σ) : OkI PRG 60 269 [.ref 97, .int x1, .int x2] σ (fun _ σ' => J5 t σ') := km_I rfl rfl rfl rfl rfl rfl rfl hJ (jm_19 hJ.1)
theorem kx_20 {x1 x2 x3 : Int32} {t : Int} {σ : Sg} (hJ : J5 t σ) : OkI PRG 60 148 [.ref 0, .int x1, .int x2, .int x3] σ (fun _ σ' => J5 t σ') := kx_I (c_148 stTop) (avsC ⟨0, rfl, rfl⟩ (avsC avF (avsC avF (avsC avF avsN)))) rfl rfl rfl (by decide) rfl rfl rfl rfl rfl rfl rfl hJ
theorem km_20 {x1 x2 x3 : Int32} {t : Int} {σ : Sg} (hJ : J5 t σ) : OkI PRG 60 266 [.ref 97, .int x1, .int x2, .int x3] σ (fun _ σ' => J5 t σ') := km_I rfl rfl rfl rfl rfl rfl rfl hJ (jm_20 hJ.1)
theorem kx_21 {x1 x2 x3 x4 : Int32} {t : Int} {σ : Sg} (hJ : J5 t σ) : OkI PRG 60 151 [.ref 0, .int x1, .int x2, .int x3, .int x4] σ (fun _ σ' => J5 t σ') := kx_I (c_151 stTop) (avsC ⟨0, rfl, rfl⟩ (avsC avF (avsC avF (avsC avF (avsC avF avsN))))) rfl rfl rfl (by decide) rfl rfl rfl rfl rfl rfl rfl hJ
theorem km_21 {x1 x2 x3 x4 : Int32} {t : Int} {σ : Sg} (hJ : J5 t σ) : OkI PRG 60 271 [.ref 97, .int x1, .int x2, .int x3, .int x4] σ (fun _ σ' => J5 t σ') := km_I rfl rfl rfl rfl rfl rfl rfl hJ (jm_21 hJ.1)
theorem kx_22 {x1 : Int32} {t : Int} {σ : Sg} (hJ : J5 t σ) : OkI PRG 60 142 [.ref 0, .int x1] σ (fun _ σ' => J5 t σ') := kx_I (c_142 stTop) (avsC ⟨0, rfl, rfl⟩ (avsC avF avsN)) rfl rfl rfl (by decide) rfl rfl rfl rfl rfl rfl rfl hJ
theorem km_22 {x1 : Int32} {t : Int} {σ : Sg} (hJ : J5 t σ) : OkI PRG 60 247 [.ref 97, .int x1] σ (fun _ σ' => J5 t σ') := km_I rfl rfl rfl rfl rfl rfl rfl hJ (jm_22 hJ.1)
theorem kx_23 {t : Int} {σ : Sg} (hJ : J5 t σ) : OkI PRG 60 152 [.ref 0] σ (fun _ σ' => J5 t σ') := kx_I (c_152 stTop) (avsC ⟨0, rfl, rfl⟩ avsN) rfl rfl rfl (by decide) rfl rfl rfl rfl rfl rfl rfl hJ
theorem km_23 {t : Int} {σ : Sg} (hJ : J5 t σ) : OkI PRG 60 284 [.ref 97] σ (fun _ σ' => J5 t σ') := km_I rfl rfl rfl rfl rfl rfl rfl hJ (jm_23 hJ.1)
theorem kx_24 {x1 : Int32} {t : Int} {σ : Sg} (hJ : J5 t σ) : OkI PRG 60 153 [.ref 0, .int x1] σ (fun _ σ' => J5 t σ') := kx_I (c_153 stTop) (avsC ⟨0, rfl, rfl⟩ (avsC avF avsN)) rfl rfl rfl (by decide) rfl rfl rfl rfl rfl rfl rfl hJ
theorem km_24 {x1 : Int32} {t : Int} {σ : Sg} (hJ : J5 t σ) : OkI PRG 60 286 [.ref 97, .int x1] σ (fun _ σ' => J5 t σ') := km_I rfl rfl rfl rfl rfl rfl rfl hJ (jm_24 hJ.1)
theorem kx_25 {x1 x2 : Int32} {t : Int} {σ : Sg} (hJ : J5 t σ) : OkJ PRG 60 156 [.ref 0, .int x1, .int x2] σ (fun _ σ' => J5 t σ') := kx_J (c_156 stTop) (avsC ⟨0, rfl, rfl⟩ (avsC avF (avsC avF avsN))) rfl rfl rfl (by decide) rfl rfl rfl rfl rfl rfl rfl hJ
theorem km_25 {x1 x2 : Int32} {t : Int} {σ : Sg} (hJ : J5 t σ) : OkJ PRG 60 292 [.ref 97, .int x1, .int x2] σ (fun _ σ' => J5 t σ') := km_J rfl rfl rfl rfl rfl rfl rfl hJ (jm_25 hJ.1)
theorem kx_26 {x1 : Int32} {t : Int} {σ : Sg} (hJ : J5 t σ) : OkI PRG 60 157 [.ref 0, .int x1] σ (fun _ σ' => J5 t σ') := kx_I (c_157 stTop) (avsC ⟨0, rfl, rfl⟩ (avsC avF avsN)) rfl rfl rfl (by decide) rfl rfl rfl rfl rfl rfl rfl hJ
theorem km_26 {x1 : Int32} {t : Int} {σ : Sg} (hJ : J5 t σ) : OkI PRG 60 294 [.ref 97, .int x1] σ (fun _ σ' => J5 t σ') := km_I rfl rfl rfl rfl rfl rfl rfl hJ (jm_26 hJ.1)
theorem kx_27 {x1 x2 x3 : Int32} {t : Int} {σ : Sg} (hJ : J5 t σ) : OkI PRG 60 158 [.ref 0, .int x1, .int x2, .int x3] σ (fun _ σ' => J5 t σ') := kx_I (c_158 stTop) (avsC ⟨0, rfl, rfl⟩ (avsC avF (avsC avF (avsC avF avsN)))) rfl rfl rfl (by decide) rfl rfl rfl rfl rfl rfl rfl hJ
theorem km_27 {x1 x2 x3 : Int32} {t : Int} {σ : Sg} (hJ : J5 t σ) : OkI PRG 60 295 [.ref 97, .int x1, .int x2, .int x3] σ (fun _ σ' => J5 t σ') := km_I rfl rfl rfl rfl rfl rfl rfl hJ (jm_27 hJ.1)
theorem kx_28 {x1 x2 : Int32} {t : Int} {σ : Sg} (hJ : J5 t σ) : OkI PRG 60 159 [.ref 0, .int x1, .int x2] σ (fun _ σ' => J5 t σ') := kx_I (c_159 stTop) (avsC ⟨0, rfl, rfl⟩ (avsC avF (avsC avF avsN))) rfl rfl rfl (by decide) rfl rfl rfl rfl rfl rfl rfl hJ
theorem km_28 {x1 x2 : Int32} {t : Int} {σ : Sg} (hJ : J5 t σ) : OkI PRG 60 296 [.ref 97, .int x1, .int x2] σ (fun _ σ' => J5 t σ') := km_I rfl rfl rfl rfl rfl rfl rfl hJ (jm_28 hJ.1)
theorem kx_29 {x1 : Int32} {t : Int} {σ : Sg} (hJ : J5 t σ) : OkI PRG 60 160 [.ref 0, .int x1] σ (fun _ σ' => J5 t σ') := kx_I (c_160 stTop) (avsC ⟨0, rfl, rfl⟩ (avsC avF avsN)) rfl rfl rfl (by decide) rfl rfl rfl rfl rfl rfl rfl hJ
theorem km_29 {x1 : Int32} {t : Int} {σ : Sg} (hJ : J5 t σ) : OkI PRG 60 298 [.ref 97, .int x1] σ (fun _ σ' => J5 t σ') := km_I rfl rfl rfl rfl rfl rfl rfl hJ (jm_29 hJ.1)
theorem kx_30 {x1 : Int32} {t : Int} {σ : Sg} (hJ : J5 t σ) : OkI PRG 60 161 [.ref 0, .int x1] σ (fun _ σ' => J5 t σ') := kx_I (c_161 stTop) (avsC ⟨0, rfl, rfl⟩ (avsC avF avsN)) rfl rfl rfl (by decide) rfl rfl rfl rfl rfl rfl rfl hJ
theorem km_30 {x1 : Int32} {t : Int} {σ : Sg} (hJ : J5 t σ) : OkI PRG 60 299 [.ref 97, .int x1] σ (fun _ σ' => J5 t σ') := km_I rfl rfl rfl rfl rfl rfl rfl hJ (jm_30 hJ.1)
theorem kx_31 {x1 : Int32} {t : Int} {σ : Sg} (hJ : J5 t σ) : OkI PRG 60 162 [.ref 0, .int x1] σ (fun _ σ' => J5 t σ') := kx_I (c_162 stTop) (avsC ⟨0, rfl, rfl⟩ (avsC avF avsN)) rfl rfl rfl (by decide) rfl rfl rfl rfl rfl rfl rfl hJ
theorem km_31 {x1 : Int32} {t : Int} {σ : Sg} (hJ : J5 t σ) : OkI PRG 60 301 [.ref 97, .int x1] σ (fun _ σ' => J5 t σ') := km_I rfl rfl rfl rfl rfl rfl rfl hJ (jm_31 hJ.1)
theorem kx_32 {x1 : Int32} {t : Int} {σ : Sg} (hJ : J5 t σ) : OkJ PRG 60 163 [.ref 0, .int x1] σ (fun _ σ' => J5 t σ') := kx_J (c_163 stTop) (avsC ⟨0, rfl, rfl⟩ (avsC avF avsN)) rfl rfl rfl (by decide) rfl rfl rfl rfl rfl rfl rfl hJ
theorem km_32 {x1 : Int32} {t : Int} {σ : Sg} (hJ : J5 t σ) : OkJ PRG 60 302 [.ref 97, .int x1] σ (fun _ σ' => J5 t σ') := km_J rfl rfl rfl rfl rfl rfl rfl hJ (jm_32 hJ.1)
theorem kx_33 {x1 x2 x3 : Int32} {t : Int} {σ : Sg} (hJ : J5 t σ) : OkI PRG 60 165 [.ref 0, .int x1, .int x2, .int x3] σ (fun _ σ' => J5 t σ') := kx_I (c_165 stTop) (avsC ⟨0, rfl, rfl⟩ (avsC avF (avsC avF (avsC avF avsN)))) rfl rfl rfl (by decide) rfl rfl rfl rfl rfl rfl rfl hJ
theorem km_33 {x1 x2 x3 : Int32} {t : Int} {σ : Sg} (hJ : J5 t σ) : OkI PRG 60 308 [.ref 97, .int x1, .int x2, .int x3] σ (fun _ σ' => J5 t σ') := km_I rfl rfl rfl rfl rfl rfl rfl hJ (jm_33 hJ.1)
theorem kx_34 {x1 x2 x3 : Int32} {t : Int} {σ : Sg} (hJ : J5 t σ) : OkI PRG 60 166 [.ref 0, .int x1, .int x2, .int x3] σ (fun _ σ' => J5 t σ') := kx_I (c_166 stTop) (avsC ⟨0, rfl, rfl⟩ (avsC avF (avsC avF (avsC avF avsN)))) rfl rfl rfl (by decide) rfl rfl rfl rfl rfl rfl rfl hJ
theorem km_34 {x1 x2 x3 : Int32} {t : Int} {σ : Sg} (hJ : J5 t σ) : OkI PRG 60 309 [.ref 97, .int x1, .int x2, .int x3] σ (fun _ σ' => J5 t σ') := km_I rfl rfl rfl rfl rfl rfl rfl hJ (jm_34 hJ.1)
theorem kx_35 {t : Int} {σ : Sg} (hJ : J5 t σ) : OkI PRG 60 167 [.ref 0] σ (fun _ σ' => J5 t σ') := kx_I (c_167 stTop) (avsC ⟨0, rfl, rfl⟩ avsN) rfl rfl rfl (by decide) rfl rfl rfl rfl rfl rfl rfl hJ
theorem km_35 {t : Int} {σ : Sg} (hJ : J5 t σ) : OkI PRG 60 310 [.ref 97] σ (fun _ σ' => J5 t σ') := km_I rfl rfl rfl rfl rfl rfl rfl hJ (jm_35 hJ.1)
theorem kx_36 {x1 : Int32} {t : Int} {σ : Sg} (hJ : J5 t σ) : OkI PRG 60 168 [.ref 0, .int x1] σ (fun _ σ' => J5 t σ') := kx_I (c_168 stTop) (avsC ⟨0, rfl, rfl⟩ (avsC avF avsN)) rfl rfl rfl (by decide) rfl rfl rfl rfl rfl rfl rfl hJ
theorem km_36 {x1 : Int32} {t : Int} {σ : Sg} (hJ : J5 t σ) : OkI PRG 60 312 [.ref 97, .int x1] σ (fun _ σ' => J5 t σ') := km_I rfl rfl rfl rfl rfl rfl rfl hJ (jm_36 hJ.1)
theorem kx_37 {x1 x2 x3 : Int32} {t : Int} {σ : Sg} (hJ : J5 t σ) : OkI PRG 60 170 [.ref 0, .int x1, .int x2, .int x3] σ (fun _ σ' => J5 t σ') := kx_I (c_170 stTop) (avsC ⟨0, rfl, rfl⟩ (avsC avF (avsC avF (avsC avF avsN)))) rfl rfl rfl (by decide) rfl rfl rfl rfl rfl rfl rfl hJ
theorem km_37 {x1 x2 x3 : Int32} {t : Int} {σ : Sg} (hJ : J5 t σ) : OkI PRG 60 314 [.ref 97, .int x1, .int x2, .int x3] σ (fun _ σ' => J5 t σ') := km_I rfl rfl rfl rfl rfl rfl rfl hJ (jm_37 hJ.1)
theorem kx_38 {x1 x2 : Int32} {t : Int} {σ : Sg} (hJ : J5 t σ) : OkI PRG 60 171 [.ref 0, .int x1, .int x2] σ (fun _ σ' => J5 t σ') := kx_I (c_171 stTop) (avsC ⟨0, rfl, rfl⟩ (avsC avF (avsC avF avsN))) rfl rfl rfl (by decide) rfl rfl rfl rfl rfl rfl rfl hJ
theorem km_38 {x1 x2 : Int32} {t : Int} {σ : Sg} (hJ : J5 t σ) : OkI PRG 60 318 [.ref 97, .int x1, .int x2] σ (fun _ σ' => J5 t σ') := km_I rfl rfl rfl rfl rfl rfl rfl hJ (jm_38 hJ.1)
theorem kx_39 {x1 x2 : Int32} {t : Int} {σ : Sg} (hJ : J5 t σ) : OkI PRG 60 172 [.ref 0, .int x1, .int x2] σ (fun _ σ' => J5 t σ') := kx_I (c_172 stTop) (avsC ⟨0, rfl, rfl⟩ (avsC avF (avsC avF avsN))) rfl rfl rfl (by decide) rfl rfl rfl rfl rfl rfl rfl hJ
theorem km_39 {x1 x2 : Int32} {t : Int} {σ : Sg} (hJ : J5 t σ) : OkI PRG 60 319 [.ref 97, .int x1, .int x2] σ (fun _ σ' => J5 t σ') := km_I rfl rfl rfl rfl rfl rfl rfl hJ (jm_39 hJ.1)
theorem kx_40 {t : Int} {σ : Sg} (hJ : J5 t σ) : OkI PRG 60 173 [.ref 0] σ (fun _ σ' => J5 t σ') := kx_I (c_173 stTop) (avsC ⟨0, rfl, rfl⟩ avsN) rfl rfl rfl (by decide) rfl rfl rfl rfl rfl rfl rfl hJ
theorem km_40 {t : Int} {σ : Sg} (hJ : J5 t σ) : OkI PRG 60 320 [.ref 97] σ (fun _ σ' => J5 t σ') := km_I rfl rfl rfl rfl rfl rfl rfl hJ (jm_40 hJ.1)
theorem kx_41 {x1 : Int32} {t : Int} {σ : Sg} (hJ : J5 t σ) : OkI PRG 60 174 [.ref 0, .int x1] σ (fun _ σ' => J5 t σ') := kx_I (c_174 stTop) (avsC ⟨0, rfl, rfl⟩ (avsC avF avsN)) rfl rfl rfl (by decide) rfl rfl rfl rfl rfl rfl rfl hJ
theorem km_41 {x1 : Int32} {t : Int} {σ : Sg} (hJ : J5 t σ) : OkI PRG 60 321 [.ref 97, .int x1] σ (fun _ σ' => J5 t σ') := km_I rfl rfl rfl rfl rfl rfl rfl hJ (jm_41 hJ.1)
theorem kx_42 {x1 : Int32} {t : Int} {σ : Sg} (hJ : J5 t σ) : OkI PRG 60 175 [.ref 0, .int x1] σ (fun _ σ' => J5 t σ') := kx_I (c_175 stTop) (avsC ⟨0, rfl, rfl⟩ (avsC avF avsN)) rfl rfl rfl (by decide) rfl rfl rfl rfl rfl rfl rfl hJ
theorem km_42 {x1 : Int32} {t : Int} {σ : Sg} (hJ : J5 t σ) : OkI PRG 60 322 [.ref 97, .int x1] σ (fun _ σ' => J5 t σ') := km_I rfl rfl rfl rfl rfl rfl rfl hJ (jm_42 hJ.1)
theorem kx_43 {x1 : Int32} {t : Int} {σ : Sg} (hJ : J5 t σ) : OkI PRG 60 177 [.ref 0, .int x1] σ (fun _ σ' => J5 t σ') := kx_I (c_177 stTop) (avsC ⟨0, rfl, rfl⟩ (avsC avF avsN)) rfl rfl rfl (by decide) rfl rfl rfl rfl rfl rfl rfl hJ
theorem km_43 {x1 : Int32} {t : Int} {σ : Sg} (hJ : J5 t σ) : OkI PRG 60 323 [.ref 97, .int x1] σ (fun _ σ' => J5 t σ') := km_I rfl rfl rfl rfl rfl rfl rfl hJ (jm_43 hJ.1)
