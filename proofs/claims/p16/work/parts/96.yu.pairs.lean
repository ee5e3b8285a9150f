/-! both sides, call by call: the laws, the game, the games kept, the book -/
def W7 (A : AA) (σ : Sg) : Prop := V7 A ∧ C7 A σ ∧ R7 A σ
def J7 (t : Int) (σ : Sg) : Prop := J5 t σ ∧ ∃ A, W7 A σ
def M7 (f : AA → Int32 × AA) (t : Int) (w : Int32) (σ : Sg) : Prop := J5 t σ ∧ ∃ A, V7 A ∧ C7 (f A).2 σ ∧ R7 A σ ∧ w = (f A).1
section Yu
variable {mi : Nat} {av : List Value} {t : Int} {σ : Sg} {w0 : Int32}
theorem wka {Q : Option Value → Sg → Prop} (hW : ∃ A, W7 A σ) (hk : Ok PRG 60 mi av σ Q) (hs : ∀ n v σ' A, V7 A → C7 A σ → R7 A σ → RCx PRG n mi av σ v σ' → C7 A σ' ∧ R7 A σ') : Ok PRG 60 mi av σ (fun v σ' => Q v σ' ∧ ∃ A, W7 A σ') := by
  obtain ⟨A, hv, hC, hR⟩ := hW
  exact Ok.part hk (fun n d m hm v σ' hrun => ⟨A, hv, hs n v σ' A hv hC hR ⟨m, d, hm, hrun⟩⟩)
theorem wkI {P : Int32 → Sg → Prop} (hW : ∃ A, W7 A σ) (hk : OkI PRG 60 mi av σ P) (hs : ∀ n v σ' A, V7 A → C7 A σ → R7 A σ → RCx PRG n mi av σ v σ' → C7 A σ' ∧ R7 A σ') : OkI PRG 60 mi av σ (fun w σ' => P w σ' ∧ ∃ A, W7 A σ') := by
  refine Ok.mono (wka hW hk hs) (fun v σ' hq => ?_)
  obtain ⟨⟨w, hw, j⟩, a⟩ := hq
  exact ⟨w, hw, j, a⟩
theorem k7I (hJ : J7 t σ) (hk : OkI PRG 60 mi av σ (fun _ σ' => J5 t σ')) (hs : ∀ n v σ' A, V7 A → C7 A σ → R7 A σ → RCx PRG n mi av σ v σ' → C7 A σ' ∧ R7 A σ') : OkI PRG 60 mi av σ (fun _ σ' => J7 t σ') := wkI hJ.2 hk hs
theorem k7J (hJ : J7 t σ) (hk : OkJ PRG 60 mi av σ (fun _ σ' => J5 t σ')) (hs : ∀ n v σ' A, V7 A → C7 A σ → R7 A σ → RCx PRG n mi av σ v σ' → C7 A σ' ∧ R7 A σ') : OkJ PRG 60 mi av σ (fun _ σ' => J7 t σ') := by
  refine Ok.mono (wka hJ.2 hk hs) (fun v σ' hq => ?_)
  obtain ⟨⟨w, hw, j⟩, a⟩ := hq
  exact ⟨w, hw, j, a⟩
/-- a call that is compared: the class first -/
theorem k7x (f : AA → Int32 × AA) (hJ : J7 t σ) (hk : OkI PRG 60 mi av σ (fun _ σ' => J5 t σ')) (hs : ∀ n w σ' A, V7 A → C7 A σ → RCx PRG n mi av σ (some (.int w)) σ' → w = (f A).1 ∧ C7 (f A).2 σ' ∧ mS σ σ') : OkI PRG 60 mi av σ (fun w σ' => M7 f t w σ') := by
  obtain ⟨A, hv, hC, hR⟩ := hJ.2
  have hP := Ok.part (Q' := fun v σ' => ∀ w : Int32, v = some (.int w) → w = (f A).1 ∧ C7 (f A).2 σ' ∧ mS σ σ') hk (fun n d m hm v σ' hrun w e => by
    subst e
    exact hs n w σ' A hv hC ⟨m, d, hm, hrun⟩)
  refine Ok.mono hP (fun v σ' hq => ?_)
  obtain ⟨⟨w, hw, p⟩, s⟩ := hq
  obtain ⟨s1, s2, s3⟩ := s w hw
  exact ⟨w, hw, p, A, hv, s2, hR.ms s3, s1⟩
theorem k7m (f : AA → Int32 × AA) (hJ : M7 f t w0 σ) (hk : J5 t σ → OkI PRG 60 mi av σ (fun _ σ' => J5 t σ')) (hf : ∀ A, V7 A → V7 (f A).2) (hs : ∀ n w σ' A, V7 A → R7 A σ → RCx PRG n mi av σ (some (.int w)) σ' → w = (f A).1 ∧ R7 (f A).2 σ' ∧ cS σ σ') : OkI PRG 60 mi av σ (fun w σ' => w0 = w ∧ J7 t σ') := by
  obtain ⟨A, hv, hC, hR, ew⟩ := hJ.2
  have hP := Ok.part (Q' := fun v σ' => ∀ w : Int32, v = some (.int w) → w = (f A).1 ∧ R7 (f A).2 σ' ∧ cS σ σ') (hk hJ.1) (fun n d m hm v σ' hrun w e => by
    subst e
    exact hs n w σ' A hv hR ⟨m, d, hm, hrun⟩)
  refine Ok.mono hP (fun v σ' hq => ?_)
  obtain ⟨⟨w, hw, p⟩, s⟩ := hq
  obtain ⟨s1, s2, s3⟩ := s w hw
  exact ⟨w, hw, ew.trans s1.symm, p, _, hf A hv, hC.cs s3, s2⟩
end Yu
theorem tk_98 {t : Int} {σ σ' : Sg} (h : ∀ j, σ'.1 98 j = σ.1 98 j) : tkOf t σ' = tkOf t σ := by
  have eb : byOf t σ' = byOf t σ := funext (fun i => by
    unfold byOf
    by_cases c : i < t.toNat
    · rw [if_pos c, if_pos c, h i]
    · rw [if_neg c, if_neg c])
  unfold tkOf
  rw [eb]
abbrev Ard (TT : List Tk) (D : DT) : AA := (lwD TT D, none, none, none, 0)
theorem k7x_2 {t : Int} {σ : Sg} (hJ : J7 t σ) : OkI PRG 60 124 [.ref 0] σ (fun w σ' => (JT 0 t σ' ∧ (KWc σ' ∧ KWr σ') ∧ rdQ (tkOf t σ') w (σ'.1 15 8)) ∧ ∃ A, V7 A ∧ R7 A σ' ∧ ((¬ w = 0 ∧ C7 A σ') ∨ (w = 0 ∧ ∃ D, told0 (tkOf t σ') D ∧ C7 (Ard (tkOf t σ') D) σ'))) := by
  have hr := hJ.1.1.rg
  have h5 := hJ.1
  obtain ⟨A, hv, hC, hR⟩ := hJ.2
  obtain ⟨⟨-, e1, e2⟩, hT, hK⟩ := h5
  have hP := Ok.part (Q' := fun v σ' => ∀ w : Int32, v = some (.int w) → mS σ σ' ∧ ((¬ w = 0 ∧ C7 A σ') ∨ (w = 0 ∧ ∃ D, told0 (tkOf t σ) D ∧ C7 (Ard (tkOf t σ) D) σ'))) (kx_2 hJ.1) (fun n d m hm v σ' hrun w e => by
    subst e
    have hRx : RCx PRG n 124 [.ref 0] σ (some (.int w)) σ' := ⟨m, d, hm, hrun⟩
    rcases read_c2 (L := t.toNat) (b := byOf t σ) (by omega) (nI_of3 e1 hr.1.1 hr.1.2) (fun i hi => (hT i (by omega)).trans (byOf_in hi)) hK.1 hRx with ⟨a, b⟩ | ⟨a, b, D, c1, c2, c3, c4, c5, c6⟩
    · exact ⟨b.mS rfl, Or.inl ⟨a, hC.ex b rfl⟩⟩
    · exact ⟨b, Or.inr ⟨a, D, c1, c2, c3, c4, c5, c6⟩⟩)
  refine Ok.mono hP (fun v σ' hq => ?_)
  obtain ⟨⟨w, hw, j⟩, s⟩ := hq
  obtain ⟨s1, s2⟩ := s w hw
  refine ⟨w, hw, j, A, hv, hR.ms s1, ?_⟩
  rw [tk_98 (s1 98 (by decide) (by decide))]
  exact s2
theorem k7m_2 {t : Int} {w0 : Int32} {σ : Sg} (hJ : (JT 0 t σ ∧ (KWc σ ∧ KWr σ) ∧ rdQ (tkOf t σ) w0 (σ.1 15 8)) ∧ ∃ A, V7 A ∧ R7 A σ ∧ ((¬ w0 = 0 ∧ C7 A σ) ∨ (w0 = 0 ∧ ∃ D, told0 (tkOf t σ) D ∧ C7 (Ard (tkOf t σ) D) σ))) : OkI PRG 60 204 [.ref 97] σ (fun w σ' => w0 = w ∧ J7 0 σ') := by
  obtain ⟨hJ1, A, hv, hR, hA⟩ := hJ
  have hr := hJ1.1.rg
  have h0 := km_2 hJ1
  obtain ⟨⟨-, e1, e2⟩, ⟨hKc, hKr⟩, hQ⟩ := hJ1
  obtain ⟨lv, hl2, hlv⟩ := hR.lv
  have hP := Ok.part (Q' := fun v σ' => ∀ w : Int32, v = some (.int w) → cS σ σ' ∧ ((¬ w = 0 ∧ R7 A σ') ∨ (w = 0 ∧ ∃ D, told0 (tkOf t σ) D ∧ R7 (Ard (tkOf t σ) D) σ'))) h0 (fun n d m hm v σ' hrun w e => by
    subst e
    have hRx : RCx PRG n 204 [.ref 97] σ (some (.int w)) σ' := ⟨m, d, hm, hrun⟩
    refine ⟨read_cS hRx, ?_⟩
    rcases read_m2 (L := t.toNat) (b := byOf t σ) (by omega) (nI_of3 e2 hr.2.1 hr.2.2) (fun i hi => byOf_in hi) hKr hlv hl2 hRx with ⟨a, b⟩ | ⟨a, D, c1, c2, c3, c4, c5, c6⟩
    · exact Or.inl ⟨a, hR.ro hv hlv hl2 b⟩
    · exact Or.inr ⟨a, D, c1, c2, c3, c4, c5, c6⟩)
  refine Ok.mono hP (fun v σ' hq => ?_)
  obtain ⟨⟨w, hw, ew, j⟩, s⟩ := hq
  obtain ⟨sc, s⟩ := s w hw
  subst ew
  refine ⟨w0, hw, rfl, j, ?_⟩
  rcases hA with ⟨a, hC⟩ | ⟨a, D, d1, hC⟩
  · rcases s with ⟨b, r⟩ | ⟨b, D', d2, r⟩
    · exact ⟨A, hv, hC.cs sc, r⟩
    · exact absurd b a
  · rcases s with ⟨b, r⟩ | ⟨b, D', d2, r⟩
    · exact absurd a b
    · obtain rfl := told0_one d1 d2
      have oo := told0_ok d1
      exact ⟨Ard (tkOf t σ) D, ⟨lwD_ok oo.1 oo.2, trivial, trivial, trivial, Nat.zero_le _⟩, hC.cs sc, r⟩
theorem k7x_0 {x1 x2 x3 x4 x5_ : Int32} {t : Int} {σ : Sg} (hJ : (J5 t σ) ∧ ∃ A, W7 A σ) : OkI PRG 60 121 [.ref 0, .int x1, .int x2, .int x3, .int x4, .int x5_] σ (fun w σ' => ∃ a', fedTo t w.toInt a' ∧ (JT a' t σ' ∧ MF (x5 x1 x2 x3 x4 x5_) t σ' ∧ KW σ') ∧ ∃ A, W7 A σ') := by
  refine Ok.mono (wkI hJ.2 (kx_0 hJ.1) (fun n v σ1 A hv hC hR h => (fun a => ⟨a.1, hR.ms a.2⟩) (x_ask h (by decide) (by decide) rfl hC))) (fun v σ' hq => ?_)
  obtain ⟨w, hw, ⟨a', h1, h2⟩, h3⟩ := hq
  exact ⟨w, hw, a', h1, h2, h3⟩
theorem k7m_0 {x1 x2 x3 x4 x5_ : Int32} {a t : Int} {σ : Sg} (hJ : (JT a t σ ∧ MF (x5 x1 x2 x3 x4 x5_) t σ ∧ KW σ) ∧ ∃ A, W7 A σ) : OkI PRG 60 179 [.ref 97, .int x1, .int x2, .int x3, .int x4, .int x5_] σ (fun w σ' => ∃ b', fedTo t w.toInt b' ∧ (J6 a b' b' σ') ∧ ∃ A, W7 A σ') := by
  refine Ok.mono (wkI hJ.2 (km_0 hJ.1) (fun n v σ1 A hv hC hR h => (fun a => ⟨hC.cs a.2, a.1⟩) (m_askR hv hR h (by decide) (by decide) (by decide) rfl))) (fun v σ' hq => ?_)
  obtain ⟨w, hw, ⟨a', h1, h2⟩, h3⟩ := hq
  exact ⟨w, hw, a', h1, h2, h3⟩
theorem k7x_1 {x1 : Int32} {t : Int} {σ : Sg} (hJ : (J5 t σ) ∧ ∃ A, W7 A σ) : OkI PRG 60 122 [.ref 0, .int x1] σ (fun w σ' => ∃ a', backTo t x1.toInt w.toInt a' ∧ (J6 a' t t σ') ∧ ∃ A, W7 A σ') := by
  refine Ok.mono (wkI hJ.2 (kx_1 hJ.1) (fun n v σ1 A hv hC hR h => (fun a => ⟨a.1, hR.ms a.2⟩) (x_ask h (by decide) (by decide) rfl hC))) (fun v σ' hq => ?_)
  obtain ⟨w, hw, ⟨a', h1, h2⟩, h3⟩ := hq
  exact ⟨w, hw, a', h1, h2, h3⟩
theorem k7m_1 {x1 : Int32} {a t : Int} {σ : Sg} (hJ : (J6 a t t σ) ∧ ∃ A, W7 A σ) : OkI PRG 60 180 [.ref 97, .int x1] σ (fun w σ' => ∃ b', backTo t x1.toInt w.toInt b' ∧ (J6 a b' b' σ') ∧ ∃ A, W7 A σ') := by
  refine Ok.mono (wkI hJ.2 (km_1 hJ.1) (fun n v σ1 A hv hC hR h => (fun a => ⟨hC.cs a.2, a.1⟩) (m_askR hv hR h (by decide) (by decide) (by decide) rfl))) (fun v σ' hq => ?_)
  obtain ⟨w, hw, ⟨a', h1, h2⟩, h3⟩ := hq
  exact ⟨w, hw, a', h1, h2, h3⟩
theorem k7x_3 {t : Int} {σ : Sg} (hJ : J7 t σ) : OkI PRG 60 125 [.ref 0] σ (fun w σ' => (w = σ'.1 97 17 ∧ J5 t σ') ∧ ∃ A, W7 A σ') := wkI hJ.2 (kx_3 hJ.1) (fun n v σ1 A hv hC hR h => (fun a => ⟨a.1, hR.ms a.2⟩) (x_ask h (by decide) (by decide) rfl hC))
theorem k7m_3 {t : Int} {w0 : Int32} {σ : Sg} (hJ : (w0 = σ.1 97 17 ∧ J5 t σ) ∧ ∃ A, W7 A σ) : OkI PRG 60 205 [.ref 97] σ (fun w σ' => w0 = w ∧ J7 t σ') := by
  refine Ok.mono (wkI hJ.2 (km_3 hJ.1) (fun n v σ1 A hv hC hR h => (fun a => ⟨hC.cs a.2, a.1⟩) (m_askR hv hR h (by decide) (by decide) (by decide) rfl))) (fun v σ' hq => ?_)
  obtain ⟨w, hw, ⟨h1, h2⟩, h3⟩ := hq
  exact ⟨w, hw, h1, h2, h3⟩
theorem k7x_4 {x1 : Int32} {t : Int} {σ : Sg} (hJ : J7 t σ) : OkI PRG 60 126 [.ref 0, .int x1] σ (fun w σ' => M7 (fun A : AA => (((1, some (dlF x1 (A.1.1 * A.1.2.1), 0, C0, C0, 0)) : Int32 × Option GA).1, upG A ((1, some (dlF x1 (A.1.1 * A.1.2.1), 0, C0, C0, 0)) : Int32 × Option GA).2)) t w σ') := k7x _ hJ (kx_4 hJ.1) (fun n w σ1 A hv hC h => (fun a => ⟨a.1, hC.up a.2.2 a.2.1, a.2.2.mS rfl⟩) (t_deal h hv.1 hC.1))
theorem k7m_4 {w0 : Int32} {x1 : Int32} {t : Int} {σ : Sg} (hJ : M7 (fun A : AA => (((1, some (dlF x1 (A.1.1 * A.1.2.1), 0, C0, C0, 0)) : Int32 × Option GA).1, upG A ((1, some (dlF x1 (A.1.1 * A.1.2.1), 0, C0, C0, 0)) : Int32 × Option GA).2)) t w0 σ) : OkI PRG 60 222 [.ref 97, .int x1] σ (fun w σ' => w0 = w ∧ J7 t σ') := k7m _ hJ (fun h => km_4 h) (fun A hv => hv.up (v_0 (u := 0) (by decide))) (fun n w σ1 A hv hR h => by
  obtain ⟨lv, hl, -⟩ := hR.1
  have a := u_deal h hv.1 hl
  exact ⟨a.1, hR.up a.2.2 a.2.1, a.2.2.cS⟩)
theorem k7x_5 {x1 x2 x3 : Int32} {t : Int} {σ : Sg} (hJ : J7 t σ) : OkI PRG 60 128 [.ref 0, .int x1, .int x2, .int x3] σ (fun w σ' => M7 (fun A : AA => ((fHands A.1 x1 x2 x3 A.2.1 : Int32 × Option GA).1, upG A (fHands A.1 x1 x2 x3 A.2.1 : Int32 × Option GA).2)) t w σ') := k7x _ hJ (kx_5 hJ.1) (fun n w σ1 A hv hC h => (fun a => ⟨a.1, hC.up a.2.2 a.2.1, a.2.2.mS rfl⟩) (t_hands h hv.1 hC.1 hC.2.1))
theorem k7m_5 {w0 : Int32} {x1 x2 x3 : Int32} {t : Int} {σ : Sg} (hJ : M7 (fun A : AA => ((fHands A.1 x1 x2 x3 A.2.1 : Int32 × Option GA).1, upG A (fHands A.1 x1 x2 x3 A.2.1 : Int32 × Option GA).2)) t w0 σ) : OkI PRG 60 223 [.ref 97, .int x1, .int x2, .int x3] σ (fun w σ' => w0 = w ∧ J7 t σ') := k7m _ hJ (fun h => km_5 h) (fun A hv => hv.up (v_hands hv.2.1)) (fun n w σ1 A hv hR h => by
  obtain ⟨lv, hl, -⟩ := hR.1
  have a := u_hands h hv.1 hl hR.2.1
  exact ⟨a.1, hR.up a.2.2 a.2.1, a.2.2.cS⟩)
theorem k7x_6 {x1 : Int32} {t : Int} {σ : Sg} (hJ : J7 t σ) : OkI PRG 60 130 [.ref 0, .int x1] σ (fun w σ' => M7 (fun A : AA => ((fLead x1 A.2.1 : Int32 × Option GA).1, upG A (fLead x1 A.2.1 : Int32 × Option GA).2)) t w σ') := k7x _ hJ (kx_6 hJ.1) (fun n w σ1 A hv hC h => (fun a => ⟨a.1, hC.up a.2.2 a.2.1, a.2.2.mS rfl⟩) (t_lead h hv.1 hC.2.1 hv.2.1))
theorem k7m_6 {w0 : Int32} {x1 : Int32} {t : Int} {σ : Sg} (hJ : M7 (fun A : AA => ((fLead x1 A.2.1 : Int32 × Option GA).1, upG A (fLead x1 A.2.1 : Int32 × Option GA).2)) t w0 σ) : OkI PRG 60 224 [.ref 97, .int x1] σ (fun w σ' => w0 = w ∧ J7 t σ') := k7m _ hJ (fun h => km_6 h) (fun A hv => hv.up (v_lead hv.2.1)) (fun n w σ1 A hv hR h => by
  obtain ⟨lv, hl, -⟩ := hR.1
  have a := u_lead h hv.1 hR.2.1 hv.2.1
  exact ⟨a.1, hR.up a.2.2 a.2.1, a.2.2.cS⟩)
theorem k7x_7 {x1 x2 : Int32} (hx : 0 ≤ x2.toInt ∧ x2.toInt ≤ 1) {t : Int} {σ : Sg} (hJ : J7 t σ) : OkI PRG 60 131 [.ref 0, .int x1, .int x2] σ (fun w σ' => M7 (fun A : AA => (fHand x1 x2 A.2.1, A)) t w σ') := k7x _ hJ (kx_7 hx hJ.1) (fun n w σ1 A hv hC h => by
  obtain ⟨e, e2⟩ := t_hand h hC.2.1
  subst e
  exact ⟨e2, hC, mS.refl _⟩)
theorem k7m_7 {w0 : Int32} {x1 x2 : Int32} {t : Int} {σ : Sg} (hJ : M7 (fun A : AA => (fHand x1 x2 A.2.1, A)) t w0 σ) : OkI PRG 60 227 [.ref 97, .int x1, .int x2] σ (fun w σ' => w0 = w ∧ J7 t σ') := k7m _ hJ (fun h => km_7 h) (fun A hv => hv) (fun n w σ1 A hv hR h => by
  obtain ⟨lv, hl, -⟩ := hR.1
  obtain ⟨e, e2⟩ := u_hand h hv.1 hR.2.1 hv.2.1
  subst e
  exact ⟨e2, hR, cS.refl _⟩)
theorem k7x_8 {t : Int} {σ : Sg} (hJ : J7 t σ) : OkI PRG 60 132 [.ref 0] σ (fun w σ' => M7 (fun A : AA => (fTurn A.1 A.2.1, A)) t w σ') := k7x _ hJ (kx_8 hJ.1) (fun n w σ1 A hv hC h => by
  obtain ⟨e, e2⟩ := t_turn h hC.2.1
  subst e
  exact ⟨e2, hC, mS.refl _⟩)
theorem k7m_8 {w0 : Int32} {t : Int} {σ : Sg} (hJ : M7 (fun A : AA => (fTurn A.1 A.2.1, A)) t w0 σ) : OkI PRG 60 231 [.ref 97] σ (fun w σ' => w0 = w ∧ J7 t σ') := k7m _ hJ (fun h => km_8 h) (fun A hv => hv) (fun n w σ1 A hv hR h => by
  obtain ⟨lv, hl, -⟩ := hR.1
  obtain ⟨e, e2⟩ := u_turn h hv.1 hl hR.2.1 hv.2.1
  subst e
  exact ⟨e2, hR, cS.refl _⟩)
theorem k7x_9 {t : Int} {σ : Sg} (hJ : J7 t σ) : OkI PRG 60 133 [.ref 0] σ (fun w σ' => M7 (fun A : AA => (fMay A.1 A.2.1, A)) t w σ') := k7x _ hJ (kx_9 hJ.1) (fun n w σ1 A hv hC h => by
  obtain ⟨e, e2⟩ := t_may h hv.1 hC.1 hC.2.1 hv.2.1
  subst e
  exact ⟨e2, hC, mS.refl _⟩)
theorem k7m_9 {w0 : Int32} {t : Int} {σ : Sg} (hJ : M7 (fun A : AA => (fMay A.1 A.2.1, A)) t w0 σ) : OkI PRG 60 234 [.ref 97] σ (fun w σ' => w0 = w ∧ J7 t σ') := k7m _ hJ (fun h => km_9 h) (fun A hv => hv) (fun n w σ1 A hv hR h => by
  obtain ⟨lv, hl, -⟩ := hR.1
  obtain ⟨e, e2⟩ := u_may h hv.1 hl hR.2.1 hv.2.1
  subst e
  exact ⟨e2, hR, cS.refl _⟩)
theorem k7x_10 {x1 : Int32} {t : Int} {σ : Sg} (hJ : J7 t σ) : OkI PRG 60 136 [.ref 0, .int x1] σ (fun w σ' => M7 (fun A : AA => ((fPlay A.1 x1 A.2.1 : Int32 × Option GA).1, upG A (fPlay A.1 x1 A.2.1 : Int32 × Option GA).2)) t w σ') := k7x _ hJ (kx_10 hJ.1) (fun n w σ1 A hv hC h => (fun a => ⟨a.1, hC.up a.2.2 a.2.1, a.2.2.mS rfl⟩) (t_play h hv.1 hC.1 hC.2.1 hv.2.1))
theorem k7m_10 {w0 : Int32} {x1 : Int32} {t : Int} {σ : Sg} (hJ : M7 (fun A : AA => ((fPlay A.1 x1 A.2.1 : Int32 × Option GA).1, upG A (fPlay A.1 x1 A.2.1 : Int32 × Option GA).2)) t w0 σ) : OkI PRG 60 237 [.ref 97, .int x1] σ (fun w σ' => w0 = w ∧ J7 t σ') := k7m _ hJ (fun h => km_10 h) (fun A hv => hv.up (v_play hv.1 hv.2.1)) (fun n w σ1 A hv hR h => by
  obtain ⟨lv, hl, -⟩ := hR.1
  have a := u_play h hv.1 hl hR.2.1 hv.2.1
  exact ⟨a.1, hR.up a.2.2 a.2.1, a.2.2.cS⟩)
theorem k7x_11 {x1 : Int32} {t : Int} {σ : Sg} (hJ : J7 t σ) : OkI PRG 60 137 [.ref 0, .int x1] σ (fun w σ' => M7 (fun A : AA => ((fRev A.1 x1 A.2.1 : Int32 × Option GA).1, upG A (fRev A.1 x1 A.2.1 : Int32 × Option GA).2)) t w σ') := k7x _ hJ (kx_11 hJ.1) (fun n w σ1 A hv hC h => (fun a => ⟨a.1, hC.up a.2.2 a.2.1, a.2.2.mS rfl⟩) (t_rev h hv.1 hC.1 hC.2.1 hv.2.1))
theorem k7m_11 {w0 : Int32} {x1 : Int32} {t : Int} {σ : Sg} (hJ : M7 (fun A : AA => ((fRev A.1 x1 A.2.1 : Int32 × Option GA).1, upG A (fRev A.1 x1 A.2.1 : Int32 × Option GA).2)) t w0 σ) : OkI PRG 60 238 [.ref 97, .int x1] σ (fun w σ' => w0 = w ∧ J7 t σ') := k7m _ hJ (fun h => km_11 h) (fun A hv => hv.up (v_rev hv.1 hv.2.1)) (fun n w σ1 A hv hR h => by
  obtain ⟨lv, hl, -⟩ := hR.1
  have a := u_rev h hv.1 hl hR.2.1 hv.2.1
  exact ⟨a.1, hR.up a.2.2 a.2.1, a.2.2.cS⟩)
theorem k7x_12 {t : Int} {σ : Sg} (hJ : J7 t σ) : OkI PRG 60 138 [.ref 0] σ (fun w σ' => M7 (fun A : AA => ((fUndo A.2.1 : Int32 × Option GA).1, upG A (fUndo A.2.1 : Int32 × Option GA).2)) t w σ') := k7x _ hJ (kx_12 hJ.1) (fun n w σ1 A hv hC h => (fun a => ⟨a.1, hC.up a.2.2 a.2.1, a.2.2.mS rfl⟩) (t_undo h hv.1 hC.2.1 hv.2.1))
theorem k7m_12 {w0 : Int32} {t : Int} {σ : Sg} (hJ : M7 (fun A : AA => ((fUndo A.2.1 : Int32 × Option GA).1, upG A (fUndo A.2.1 : Int32 × Option GA).2)) t w0 σ) : OkI PRG 60 239 [.ref 97] σ (fun w σ' => w0 = w ∧ J7 t σ') := k7m _ hJ (fun h => km_12 h) (fun A hv => hv.up (v_undo hv.2.1)) (fun n w σ1 A hv hR h => by
  obtain ⟨lv, hl, -⟩ := hR.1
  have a := u_undo h hv.1 hR.2.1 hv.2.1
  exact ⟨a.1, hR.up a.2.2 a.2.1, a.2.2.cS⟩)
theorem k7x_13 {x1 x2 : Int32} {t : Int} {σ : Sg} (hJ : J7 t σ) : OkI PRG 60 139 [.ref 0, .int x1, .int x2] σ (fun w σ' => M7 (fun A : AA => (fCard A.1 x1 x2 A.2.1, A)) t w σ') := k7x _ hJ (kx_13 hJ.1) (fun n w σ1 A hv hC h => by
  obtain ⟨e, e2⟩ := t_card h hv.1 hC.1 hC.2.1 hv.2.1
  subst e
  exact ⟨e2, hC, mS.refl _⟩)
theorem k7m_13 {w0 : Int32} {x1 x2 : Int32} {t : Int} {σ : Sg} (hJ : M7 (fun A : AA => (fCard A.1 x1 x2 A.2.1, A)) t w0 σ) : OkI PRG 60 244 [.ref 97, .int x1, .int x2] σ (fun w σ' => w0 = w ∧ J7 t σ') := k7m _ hJ (fun h => km_13 h) (fun A hv => hv) (fun n w σ1 A hv hR h => by
  obtain ⟨lv, hl, -⟩ := hR.1
  obtain ⟨e, e2⟩ := u_card h hv.1 hl hR.2.1 hv.2.1
  subst e
  exact ⟨e2, hR, cS.refl _⟩)
theorem k7x_14 {x1 : Int32} {t : Int} {σ : Sg} (hJ : J7 t σ) : OkI PRG 60 140 [.ref 0, .int x1] σ (fun w σ' => M7 (fun A : AA => (fTricks A.1 x1 A.2.1, A)) t w σ') := k7x _ hJ (kx_14 hJ.1) (fun n w σ1 A hv hC h => by
  obtain ⟨e, e2⟩ := t_tricks h hv.1 hC.2.1 hv.2.1
  subst e
  exact ⟨e2, hC, mS.refl _⟩)
theorem k7m_14 {w0 : Int32} {x1 : Int32} {t : Int} {σ : Sg} (hJ : M7 (fun A : AA => (fTricks A.1 x1 A.2.1, A)) t w0 σ) : OkI PRG 60 245 [.ref 97, .int x1] σ (fun w σ' => w0 = w ∧ J7 t σ') := k7m _ hJ (fun h => km_14 h) (fun A hv => hv) (fun n w σ1 A hv hR h => by
  obtain ⟨lv, hl, -⟩ := hR.1
  obtain ⟨e, e2⟩ := u_tricks h hv.1 hl hR.2.1 hv.2.1
  subst e
  exact ⟨e2, hR, cS.refl _⟩)
theorem k7x_15 {x1 : Int32} {t : Int} {σ : Sg} (hJ : J7 t σ) : OkI PRG 60 141 [.ref 0, .int x1] σ (fun w σ' => M7 (fun A : AA => (fWin A.1 x1 A.2.1, A)) t w σ') := k7x _ hJ (kx_15 hJ.1) (fun n w σ1 A hv hC h => by
  obtain ⟨e, e2⟩ := t_winner h hv.1 hC.2.1 hv.2.1
  subst e
  exact ⟨e2, hC, mS.refl _⟩)
theorem k7m_15 {w0 : Int32} {x1 : Int32} {t : Int} {σ : Sg} (hJ : M7 (fun A : AA => (fWin A.1 x1 A.2.1, A)) t w0 σ) : OkI PRG 60 246 [.ref 97, .int x1] σ (fun w σ' => w0 = w ∧ J7 t σ') := k7m _ hJ (fun h => km_15 h) (fun A hv => hv) (fun n w σ1 A hv hR h => by
  obtain ⟨lv, hl, -⟩ := hR.1
  obtain ⟨e, e2⟩ := u_winner h hv.1 hl hR.2.1 hv.2.1
  subst e
  exact ⟨e2, hR, cS.refl _⟩)
theorem k7x_16 {x1 x2 x3 : Int32} {t : Int} {σ : Sg} (hJ : J7 t σ) : OkI PRG 60 144 [.ref 0, .int x1, .int x2, .int x3] σ (fun _ σ' => J7 t σ') := k7I hJ (kx_16 hJ.1) (fun n v σ1 A hv hC hR h => (fun a => ⟨a.1, hR.ms a.2⟩) (x_ask h (by decide) (by decide) rfl hC))
theorem k7m_16 {x1 x2 x3 : Int32} {t : Int} {σ : Sg} (hJ : J7 t σ) : OkI PRG 60 256 [.ref 97, .int x1, .int x2, .int x3] σ (fun _ σ' => J7 t σ') := k7I hJ (km_16 hJ.1) (fun n v σ1 A hv hC hR h => (fun a => ⟨hC.cs a.2, a.1⟩) (m_askR hv hR h (by decide) (by decide) (by decide) rfl))
theorem k7x_17 {x1 x2 : Int32} {t : Int} {σ : Sg} (hJ : J7 t σ) : OkI PRG 60 147 [.ref 0, .int x1, .int x2] σ (fun _ σ' => J7 t σ') := k7I hJ (kx_17 hJ.1) (fun n v σ1 A hv hC hR h => (fun a => ⟨a.1, hR.ms a.2⟩) (x_ask h (by decide) (by decide) rfl hC))
theorem k7m_17 {x1 x2 : Int32} {t : Int} {σ : Sg} (hJ : J7 t σ) : OkI PRG 60 265 [.ref 97, .int x1, .int x2] σ (fun _ σ' => J7 t σ') := k7I hJ (km_17 hJ.1) (fun n v σ1 A hv hC hR h => (fun a => ⟨hC.cs a.2, a.1⟩) (m_askR hv hR h (by decide) (by decide) (by decide) rfl))
theorem k7x_18 {x1 x2 x3 x4 : Int32} {t : Int} {σ : Sg} (hJ : J7 t σ) : OkI PRG 60 149 [.ref 0, .int x1, .int x2, .int x3, .int x4] σ (fun _ σ' => J7 t σ') := k7I hJ (kx_18 hJ.1) (fun n v σ1 A hv hC hR h => (fun a => ⟨a.1, hR.ms a.2⟩) (x_ask h (by decide) (by decide) rfl hC))
theorem k7m_18 {x1 x2 x3 x4 : Int32} {t : Int} {σ : Sg} (hJ : J7 t σ) : OkI PRG 60 267 [.ref 97, .int x1, .int x2, .int x3, .int x4] σ (fun _ σ' => J7 t σ') := k7I hJ (km_18 hJ.1) (fun n v σ1 A hv hC hR h => (fun a => ⟨hC.cs a.2, a.1⟩) (m_askR hv hR h (by decide) (by decide) (by decide) rfl))
theorem k7x_19 {x1 x2 : Int32} {t : Int} {σ : Sg} (hJ : J7 t σ) : OkI PRG 60 150 [.ref 0, .int x1, .int x2] σ (fun _ σ' => J7 t σ') := k7I hJ (kx_19 hJ.1) (fun n v σ1 A hv hC hR h => (fun a => ⟨a.1, hR.ms a.2⟩) (x_ask h (by decide) (by decide) rfl hC))
theorem k7m_19 {x1 x2 : Int32} {t : Int} {σ : Sg} (hJ : J7 t σ) : OkI PRG 60 269 [.ref 97, .int x1, .int x2] σ (fun _ σ' => J7 t σ') := k7I hJ (km_19 hJ.1) (fun n v σ1 A hv hC hR h => (fun a => ⟨hC.cs a.2, a.1⟩) (m_askR hv hR h (by decide) (by decide) (by decide) rfl))
theorem k7x_20 {x1 x2 x3 : Int32} {t : Int} {σ : Sg} (hJ : J7 t σ) : OkI PRG 60 148 [.ref 0, .int x1, .int x2, .int x3] σ (fun _ σ' => J7 t σ') := k7I hJ (kx_20 hJ.1) (fun n v σ1 A hv hC hR h => (fun a => ⟨a.1, hR.ms a.2⟩) (x_ask h (by decide) (by decide) rfl hC))
theorem k7m_20 {x1 x2 x3 : Int32} {t : Int} {σ : Sg} (hJ : J7 t σ) : OkI PRG 60 266 [.ref 97, .int x1, .int x2, .int x3] σ (fun _ σ' => J7 t σ') := k7I hJ (km_20 hJ.1) (fun n v σ1 A hv hC hR h => (fun a => ⟨hC.cs a.2, a.1⟩) (m_askR hv hR h (by decide) (by decide) (by decide) rfl))
theorem k7x_21 {x1 x2 x3 x4 : Int32} {t : Int} {σ : Sg} (hJ : J7 t σ) : OkI PRG 60 151 [.ref 0, .int x1, .int x2, .int x3, .int x4] σ (fun _ σ' => J7 t σ') := k7I hJ (kx_21 hJ.1) (fun n v σ1 A hv hC hR h => (fun a => ⟨a.1, hR.ms a.2⟩) (x_ask h (by decide) (by decide) rfl hC))
theorem k7m_21 {x1 x2 x3 x4 : Int32} {t : Int} {σ : Sg} (hJ : J7 t σ) : OkI PRG 60 271 [.ref 97, .int x1, .int x2, .int x3, .int x4] σ (fun _ σ' => J7 t σ') := k7I hJ (km_21 hJ.1) (fun n v σ1 A hv hC hR h => (fun a => ⟨hC.cs a.2, a.1⟩) (m_askR hv hR h (by decide) (by decide) (by decide) rfl))
theorem k7x_22 {x1 : Int32} {t : Int} {σ : Sg} (hJ : J7 t σ) : OkI PRG 60 142 [.ref 0, .int x1] σ (fun w σ' => M7 (fun A : AA => (fRevs A.1 x1 A.2.1, A)) t w σ') := k7x _ hJ (kx_22 hJ.1) (fun n w σ1 A hv hC h => by
  obtain ⟨e, e2⟩ := t_revokes h hv.1 hC.1 hC.2.1 hv.2.1
  subst e
  exact ⟨e2, hC, mS.refl _⟩)
theorem k7m_22 {w0 : Int32} {x1 : Int32} {t : Int} {σ : Sg} (hJ : M7 (fun A : AA => (fRevs A.1 x1 A.2.1, A)) t w0 σ) : OkI PRG 60 247 [.ref 97, .int x1] σ (fun w σ' => w0 = w ∧ J7 t σ') := k7m _ hJ (fun h => km_22 h) (fun A hv => hv) (fun n w σ1 A hv hR h => by
  obtain ⟨lv, hl, -⟩ := hR.1
  obtain ⟨e, e2⟩ := u_revokes h hv.1 hl hR.2.1 hv.2.1
  subst e
  exact ⟨e2, hR, cS.refl _⟩)
theorem k7x_23 {t : Int} {σ : Sg} (hJ : J7 t σ) : OkI PRG 60 152 [.ref 0] σ (fun _ σ' => J7 t σ') := k7I hJ (kx_23 hJ.1) (fun n v σ1 A hv hC hR h => (fun a => ⟨a.1, hR.ms a.2⟩) (x_ask h (by decide) (by decide) rfl hC))
theorem k7m_23 {t : Int} {σ : Sg} (hJ : J7 t σ) : OkI PRG 60 284 [.ref 97] σ (fun _ σ' => J7 t σ') := k7I hJ (km_23 hJ.1) (fun n v σ1 A hv hC hR h => (fun a => ⟨hC.cs a.2, a.1⟩) (m_askR hv hR h (by decide) (by decide) (by decide) rfl))
theorem k7x_24 {x1 : Int32} {t : Int} {σ : Sg} (hJ : J7 t σ) : OkI PRG 60 153 [.ref 0, .int x1] σ (fun _ σ' => J7 t σ') := k7I hJ (kx_24 hJ.1) (fun n v σ1 A hv hC hR h => (fun a => ⟨a.1, hR.ms a.2⟩) (x_ask h (by decide) (by decide) rfl hC))
theorem k7m_24 {x1 : Int32} {t : Int} {σ : Sg} (hJ : J7 t σ) : OkI PRG 60 286 [.ref 97, .int x1] σ (fun _ σ' => J7 t σ') := k7I hJ (km_24 hJ.1) (fun n v σ1 A hv hC hR h => (fun a => ⟨hC.cs a.2, a.1⟩) (m_line hv hR h))
theorem k7x_25 {x1 x2 : Int32} {t : Int} {σ : Sg} (hJ : J7 t σ) : OkJ PRG 60 156 [.ref 0, .int x1, .int x2] σ (fun _ σ' => J7 t σ') := k7J hJ (kx_25 hJ.1) (fun n v σ1 A hv hC hR h => (fun a => ⟨a.1, hR.ms a.2⟩) (x_ask h (by decide) (by decide) rfl hC))
theorem k7m_25 {x1 x2 : Int32} {t : Int} {σ : Sg} (hJ : J7 t σ) : OkJ PRG 60 292 [.ref 97, .int x1, .int x2] σ (fun _ σ' => J7 t σ') := k7J hJ (km_25 hJ.1) (fun n v σ1 A hv hC hR h => (fun a => ⟨hC.cs a.2, a.1⟩) (m_askR hv hR h (by decide) (by decide) (by decide) rfl))
theorem k7x_26 {x1 : Int32} {t : Int} {σ : Sg} (hJ : J7 t σ) : OkI PRG 60 157 [.ref 0, .int x1] σ (fun _ σ' => J7 t σ') := k7I hJ (kx_26 hJ.1) (fun n v σ1 A hv hC hR h => (fun a => ⟨a.1, hR.ms a.2⟩) (x_ask h (by decide) (by decide) rfl hC))
theorem k7m_26 {x1 : Int32} {t : Int} {σ : Sg} (hJ : J7 t σ) : OkI PRG 60 294 [.ref 97, .int x1] σ (fun _ σ' => J7 t σ') := k7I hJ (km_26 hJ.1) (fun n v σ1 A hv hC hR h => (fun a => ⟨hC.cs a.2, a.1⟩) (m_askR hv hR h (by decide) (by decide) (by decide) rfl))
theorem k7x_27 {x1 x2 x3 : Int32} {t : Int} {σ : Sg} (hJ : J7 t σ) : OkI PRG 60 158 [.ref 0, .int x1, .int x2, .int x3] σ (fun _ σ' => J7 t σ') := k7I hJ (kx_27 hJ.1) (fun n v σ1 A hv hC hR h => (fun a => ⟨a.1, hR.ms a.2⟩) (x_ask h (by decide) (by decide) rfl hC))
theorem k7m_27 {x1 x2 x3 : Int32} {t : Int} {σ : Sg} (hJ : J7 t σ) : OkI PRG 60 295 [.ref 97, .int x1, .int x2, .int x3] σ (fun _ σ' => J7 t σ') := k7I hJ (km_27 hJ.1) (fun n v σ1 A hv hC hR h => (fun a => ⟨hC.cs a.2, a.1⟩) (m_askR hv hR h (by decide) (by decide) (by decide) rfl))
theorem k7x_28 {x1 x2 : Int32} {t : Int} {σ : Sg} (hJ : J7 t σ) : OkI PRG 60 159 [.ref 0, .int x1, .int x2] σ (fun _ σ' => J7 t σ') := k7I hJ (kx_28 hJ.1) (fun n v σ1 A hv hC hR h => (fun a => ⟨a.1, hR.ms a.2⟩) (x_ask h (by decide) (by decide) rfl hC))
theorem k7m_28 {x1 x2 : Int32} {t : Int} {σ : Sg} (hJ : J7 t σ) : OkI PRG 60 296 [.ref 97, .int x1, .int x2] σ (fun _ σ' => J7 t σ') := k7I hJ (km_28 hJ.1) (fun n v σ1 A hv hC hR h => (fun a => ⟨hC.cs a.2, a.1⟩) (m_askR hv hR h (by decide) (by decide) (by decide) rfl))
theorem k7x_29 {x1 : Int32} {t : Int} {σ : Sg} (hJ : J7 t σ) : OkI PRG 60 160 [.ref 0, .int x1] σ (fun _ σ' => J7 t σ') := k7I hJ (kx_29 hJ.1) (fun n v σ1 A hv hC hR h => (fun a => ⟨a.1, hR.ms a.2⟩) (x_ask h (by decide) (by decide) rfl hC))
theorem k7m_29 {x1 : Int32} {t : Int} {σ : Sg} (hJ : J7 t σ) : OkI PRG 60 298 [.ref 97, .int x1] σ (fun _ σ' => J7 t σ') := k7I hJ (km_29 hJ.1) (fun n v σ1 A hv hC hR h => (fun a => ⟨hC.cs a.2, a.1⟩) (m_askR hv hR h (by decide) (by decide) (by decide) rfl))
theorem k7x_30 {x1 : Int32} {t : Int} {σ : Sg} (hJ : J7 t σ) : OkI PRG 60 161 [.ref 0, .int x1] σ (fun _ σ' => J7 t σ') := k7I hJ (kx_30 hJ.1) (fun n v σ1 A hv hC hR h => (fun a => ⟨a.1, hR.ms a.2⟩) (x_tries (x_differs h) hC))
theorem k7m_30 {x1 : Int32} {t : Int} {σ : Sg} (hJ : J7 t σ) : OkI PRG 60 299 [.ref 97, .int x1] σ (fun _ σ' => J7 t σ') := k7I hJ (km_30 hJ.1) (fun n v σ1 A hv hC hR h => (fun a => ⟨hC.cs a.2, a.1⟩) (m_differs hv hR h))
theorem k7x_31 {x1 : Int32} {t : Int} {σ : Sg} (hJ : J7 t σ) : OkI PRG 60 162 [.ref 0, .int x1] σ (fun _ σ' => J7 t σ') := k7I hJ (kx_31 hJ.1) (fun n v σ1 A hv hC hR h => (fun a => ⟨a.1, hR.ms a.2⟩) (x_ask h (by decide) (by decide) rfl hC))
theorem k7m_31 {x1 : Int32} {t : Int} {σ : Sg} (hJ : J7 t σ) : OkI PRG 60 301 [.ref 97, .int x1] σ (fun _ σ' => J7 t σ') := k7I hJ (km_31 hJ.1) (fun n v σ1 A hv hC hR h => (fun a => ⟨hC.cs a.2, a.1⟩) (m_askR hv hR h (by decide) (by decide) (by decide) rfl))
theorem k7x_32 {x1 : Int32} {t : Int} {σ : Sg} (hJ : J7 t σ) : OkJ PRG 60 163 [.ref 0, .int x1] σ (fun _ σ' => J7 t σ') := k7J hJ (kx_32 hJ.1) (fun n v σ1 A hv hC hR h => (fun a => ⟨a.1, hR.ms a.2⟩) (x_ask h (by decide) (by decide) rfl hC))
theorem k7m_32 {x1 : Int32} {t : Int} {σ : Sg} (hJ : J7 t σ) : OkJ PRG 60 302 [.ref 97, .int x1] σ (fun _ σ' => J7 t σ') := k7J hJ (km_32 hJ.1) (fun n v σ1 A hv hC hR h => (fun a => ⟨hC.cs a.2, a.1⟩) (m_askR hv hR h (by decide) (by decide) (by decide) rfl))
theorem k7x_33 {x1 x2 x3 : Int32} {t : Int} {σ : Sg} (hJ : J7 t σ) : OkI PRG 60 165 [.ref 0, .int x1, .int x2, .int x3] σ (fun _ σ' => J7 t σ') := k7I hJ (kx_33 hJ.1) (fun n v σ1 A hv hC hR h => (fun a => ⟨a.1, hR.ms a.2⟩) (x_tries (x_try h (by decide) (by decide) rfl) hC))
theorem k7m_33 {x1 x2 x3 : Int32} {t : Int} {σ : Sg} (hJ : J7 t σ) : OkI PRG 60 308 [.ref 97, .int x1, .int x2, .int x3] σ (fun _ σ' => J7 t σ') := k7I hJ (km_33 hJ.1) (fun n v σ1 A hv hC hR h => (fun a => ⟨hC.cs a.2, a.1⟩) (m_gain hv hR h))
theorem k7x_34 {x1 x2 x3 : Int32} {t : Int} {σ : Sg} (hJ : J7 t σ) : OkI PRG 60 166 [.ref 0, .int x1, .int x2, .int x3] σ (fun _ σ' => J7 t σ') := k7I hJ (kx_34 hJ.1) (fun n v σ1 A hv hC hR h => (fun a => ⟨a.1, hR.ms a.2⟩) (x_tries (x_try h (by decide) (by decide) rfl) hC))
theorem k7m_34 {x1 x2 x3 : Int32} {t : Int} {σ : Sg} (hJ : J7 t σ) : OkI PRG 60 309 [.ref 97, .int x1, .int x2, .int x3] σ (fun _ σ' => J7 t σ') := k7I hJ (km_34 hJ.1) (fun n v σ1 A hv hC hR h => (fun a => ⟨hC.cs a.2, a.1⟩) (m_best hv hR h))
theorem k7x_35 {t : Int} {σ : Sg} (hJ : J7 t σ) : OkI PRG 60 167 [.ref 0] σ (fun w σ' => M7 (fun A : AA => fBook A) t w σ') := k7x _ hJ (kx_35 hJ.1) (fun n w σ1 A hv hC h => t_book h hv hC)
theorem k7m_35 {w0 : Int32} {t : Int} {σ : Sg} (hJ : M7 (fun A : AA => fBook A) t w0 σ) : OkI PRG 60 310 [.ref 97] σ (fun w σ' => w0 = w ∧ J7 t σ') := k7m _ hJ (fun h => km_35 h) (fun A hv => v_book hv) (fun n w σ1 A hv hR h => u_book h hv hR)
theorem k7x_36 {x1 : Int32} {t : Int} {σ : Sg} (hJ : J7 t σ) : OkI PRG 60 168 [.ref 0, .int x1] σ (fun _ σ' => J7 t σ') := k7I hJ (kx_36 hJ.1) (fun n v σ1 A hv hC hR h => (fun a => ⟨a.1, hR.ms a.2⟩) (x_ask h (by decide) (by decide) rfl hC))
theorem k7m_36 {x1 : Int32} {t : Int} {σ : Sg} (hJ : J7 t σ) : OkI PRG 60 312 [.ref 97, .int x1] σ (fun _ σ' => J7 t σ') := k7I hJ (km_36 hJ.1) (fun n v σ1 A hv hC hR h => (fun a => ⟨hC.cs a.2, a.1⟩) (m_askR hv hR h (by decide) (by decide) (by decide) rfl))
theorem k7x_37 {x1 x2 x3 : Int32} {t : Int} {σ : Sg} (hJ : J7 t σ) : OkI PRG 60 170 [.ref 0, .int x1, .int x2, .int x3] σ (fun _ σ' => J7 t σ') := k7I hJ (kx_37 hJ.1) (fun n v σ1 A hv hC hR h => (fun a => ⟨a.1, hR.ms a.2⟩) (x_ask h (by decide) (by decide) rfl hC))
theorem k7m_37 {x1 x2 x3 : Int32} {t : Int} {σ : Sg} (hJ : J7 t σ) : OkI PRG 60 314 [.ref 97, .int x1, .int x2, .int x3] σ (fun _ σ' => J7 t σ') := k7I hJ (km_37 hJ.1) (fun n v σ1 A hv hC hR h => (fun a => ⟨hC.cs a.2, a.1⟩) (m_askR hv hR h (by decide) (by decide) (by decide) rfl))
theorem k7x_38 {x1 x2 : Int32} {t : Int} {σ : Sg} (hJ : J7 t σ) : OkI PRG 60 171 [.ref 0, .int x1, .int x2] σ (fun _ σ' => J7 t σ') := k7I hJ (kx_38 hJ.1) (fun n v σ1 A hv hC hR h => (fun a => ⟨a.1, hR.ms a.2⟩) (x_ask h (by decide) (by decide) rfl hC))
theorem k7m_38 {x1 x2 : Int32} {t : Int} {σ : Sg} (hJ : J7 t σ) : OkI PRG 60 318 [.ref 97, .int x1, .int x2] σ (fun _ σ' => J7 t σ') := k7I hJ (km_38 hJ.1) (fun n v σ1 A hv hC hR h => (fun a => ⟨hC.cs a.2, a.1⟩) (m_askR hv hR h (by decide) (by decide) (by decide) rfl))
theorem k7x_39 {x1 x2 : Int32} {t : Int} {σ : Sg} (hJ : J7 t σ) : OkI PRG 60 172 [.ref 0, .int x1, .int x2] σ (fun _ σ' => J7 t σ') := k7I hJ (kx_39 hJ.1) (fun n v σ1 A hv hC hR h => (fun a => ⟨a.1, hR.ms a.2⟩) (x_ask h (by decide) (by decide) rfl hC))
theorem k7m_39 {x1 x2 : Int32} {t : Int} {σ : Sg} (hJ : J7 t σ) : OkI PRG 60 319 [.ref 97, .int x1, .int x2] σ (fun _ σ' => J7 t σ') := k7I hJ (km_39 hJ.1) (fun n v σ1 A hv hC hR h => (fun a => ⟨hC.cs a.2, a.1⟩) (m_askR hv hR h (by decide) (by decide) (by decide) rfl))
theorem k7x_40 {t : Int} {σ : Sg} (hJ : J7 t σ) : OkI PRG 60 173 [.ref 0] σ (fun _ σ' => J7 t σ') := k7I hJ (kx_40 hJ.1) (fun n v σ1 A hv hC hR h => (fun a => ⟨a.1, hR.ms a.2⟩) (x_ask h (by decide) (by decide) rfl hC))
theorem k7m_40 {t : Int} {σ : Sg} (hJ : J7 t σ) : OkI PRG 60 320 [.ref 97] σ (fun _ σ' => J7 t σ') := k7I hJ (km_40 hJ.1) (fun n v σ1 A hv hC hR h => (fun a => ⟨hC.cs a.2, a.1⟩) (m_askR hv hR h (by decide) (by decide) (by decide) rfl))
theorem k7x_41 {x1 : Int32} {t : Int} {σ : Sg} (hJ : J7 t σ) : OkI PRG 60 174 [.ref 0, .int x1] σ (fun w σ' => M7 (fun A : AA => fHold A x1) t w σ') := k7x _ hJ (kx_41 hJ.1) (fun n w σ1 A hv hC h => t_hold h hv hC)
theorem k7m_41 {w0 : Int32} {x1 : Int32} {t : Int} {σ : Sg} (hJ : M7 (fun A : AA => fHold A x1) t w0 σ) : OkI PRG 60 321 [.ref 97, .int x1] σ (fun w σ' => w0 = w ∧ J7 t σ') := k7m _ hJ (fun h => km_41 h) (fun A hv => v_hold hv) (fun n w σ1 A hv hR h => u_hold h hv hR)
theorem k7x_42 {x1 : Int32} {t : Int} {σ : Sg} (hJ : J7 t σ) : OkI PRG 60 175 [.ref 0, .int x1] σ (fun w σ' => M7 (fun A : AA => fRest A x1) t w σ') := k7x _ hJ (kx_42 hJ.1) (fun n w σ1 A hv hC h => t_rest h hv hC)
theorem k7m_42 {w0 : Int32} {x1 : Int32} {t : Int} {σ : Sg} (hJ : M7 (fun A : AA => fRest A x1) t w0 σ) : OkI PRG 60 322 [.ref 97, .int x1] σ (fun w σ' => w0 = w ∧ J7 t σ') := k7m _ hJ (fun h => km_42 h) (fun A hv => v_rest hv) (fun n w σ1 A hv hR h => u_rest h hv hR)
theorem k7x_43 {x1 : Int32} {t : Int} {σ : Sg} (hJ : J7 t σ) : OkI PRG 60 177 [.ref 0, .int x1] σ (fun w σ' => M7 (fun A : AA => (fCount A (nI t.toNat) x1, A)) t w σ') := k7x _ hJ (kx_43 hJ.1) (fun n w σ1 A hv hC h => by
  have hr := hJ.1.1.rg
  obtain ⟨e, e2⟩ := t_count h hv hC
  subst e
  rw [nI_of3 hJ.1.1.2.1 hr.1.1 hr.1.2] at e2
  exact ⟨e2, hC, mS.refl _⟩)
theorem k7m_43 {w0 : Int32} {x1 : Int32} {t : Int} {σ : Sg} (hJ : M7 (fun A : AA => (fCount A (nI t.toNat) x1, A)) t w0 σ) : OkI PRG 60 323 [.ref 97, .int x1] σ (fun w σ' => w0 = w ∧ J7 t σ') := k7m _ hJ (fun h => km_43 h) (fun A hv => hv) (fun n w σ1 A hv hR h => by
  have hr := hJ.1.1.rg
  obtain ⟨e, e2⟩ := u_count h hv hR
  subst e
  rw [nI_of3 hJ.1.1.2.2 hr.2.1 hr.2.2] at e2
  exact ⟨e2, hR, cS.refl _⟩)
