/-! both sides, call by call, with the customs' programs -/
abbrev BP : Type := AA × PPt
def kO (E : List Nat) : Bool := ([6, 7, 8, 31, 32] : List Nat).all (fun q => !(E.contains q))
def bdR (lv nc : Nat) (PP : PPt) (σ : Sg) : Prop := ∀ k, k < nc → ruB (420 * lv) (150 * lv) (420 * lv + 420) (150 * lv + 150) σ (12 * lv + 2 * k) (PP k).1 ∧ ruB (420 * lv) (150 * lv) (420 * lv + 420) (150 * lv + 150) σ (12 * lv + 2 * k + 1) (PP k).2
def RP (nc : Nat) (PP : PPt) (σ : Sg) : Prop := ∀ lv, lv < 2 → σ.1 97 18 = nI lv → bdR lv nc PP σ
def V8 (B : BP) : Prop := V7 B.1 ∧ gPP B.1.1.2.2.2.1 B.2
def C8 (B : BP) (σ : Sg) : Prop := C7 B.1 σ ∧ cpC B.1.1.2.2.2.1 B.2 σ ∧ adG B.1.1 B.2 B.1.2.1 σ
def R8 (B : BP) (σ : Sg) : Prop := R7 B.1 σ ∧ RP B.1.1.2.2.2.1 B.2 σ
def W8 (B : BP) (σ : Sg) : Prop := V8 B ∧ C8 B σ ∧ R8 B σ
def J8 (t : Int) (σ : Sg) : Prop := J5 t σ ∧ ∃ B, W8 B σ
def M8 (f : BP → Int32 × BP) (t : Int) (w : Int32) (σ : Sg) : Prop := J5 t σ ∧ ∃ B, V8 B ∧ C8 (f B).2 σ ∧ R8 B σ ∧ w = (f B).1
def up8 (f : AA → Int32 × AA) (B : BP) : Int32 × BP := ((f B.1).1, (f B.1).2, B.2)
section Zp
variable {B : BP} {nc : Nat} {PP : PPt} {mi n : Nat} {av : List Value} {t : Int} {σ σ1 : Sg} {w0 : Int32} {v : Option Value}
theorem cpC.k (h : cpC nc PP σ) (hf : ∀ q, q = 6 ∨ q = 7 ∨ q = 8 → ∀ j, σ1.1 q j = σ.1 q j) : cpC nc PP σ1 := fun k hk => (h k hk).fr14 (fun x => hf 8 (by omega) x) (fun x => ⟨hf 6 (by omega) x, hf 7 (by omega) x⟩)
theorem cpC.run (h : cpC nc PP σ) (hr : RCx PRG n mi av σ v σ1) (hm : SXp.contains mi = true) (hm2 : SXpm.contains mi = true) (ha : nZs ZXp av = true) : cpC nc PP σ1 := h.k (fun q hq j => frXp hr hm hm2 ha q (by omega) (by rcases hq with rfl | rfl | rfl <;> rfl) j)
theorem ruB.kw {c0 l0 c l r : Nat} {ls : List Lt} (h : ruB c0 l0 c l σ r ls) (h1 : σ1.1 112 r = σ.1 112 r ∧ σ1.1 113 r = σ.1 113 r) (h2 : ∀ q x, 114 ≤ q → q ≤ 119 → l0 ≤ x → x < l → σ1.1 q x = σ.1 q x) (h3 : ∀ x, c0 ≤ x → x < c → σ1.1 120 x = σ.1 120 x ∧ σ1.1 121 x = σ.1 121 x) : ruB c0 l0 c l σ1 r ls := by
  obtain ⟨i, a, b, e1, e2, f⟩ := h
  exact ⟨i, a, b, h1.1.trans e1, h1.2.trans e2, f.fr (Nat.le_refl c) h3 (fun q x p1 p2 p3 p4 => h2 q x p1 p2 (by omega) (by omega))⟩
theorem bdR.side {lv : Nat} (h : bdR lv nc PP σ) (h6 : nc ≤ 6) (h1 : ∀ r, 12 * lv ≤ r → r < 12 * lv + 12 → σ1.1 112 r = σ.1 112 r ∧ σ1.1 113 r = σ.1 113 r) (h2 : ∀ q x, 114 ≤ q → q ≤ 119 → 150 * lv ≤ x → x < 150 * lv + 150 → σ1.1 q x = σ.1 q x) (h3 : ∀ x, 420 * lv ≤ x → x < 420 * lv + 420 → σ1.1 120 x = σ.1 120 x ∧ σ1.1 121 x = σ.1 121 x) : bdR lv nc PP σ1 := fun k hk => ⟨(h k hk).1.kw (h1 _ (by omega) (by omega)) h2 h3, (h k hk).2.kw (h1 _ (by omega) (by omega)) h2 h3⟩
theorem RP.k (h : RP nc PP σ) (e18 : σ1.1 97 18 = σ.1 97 18) (hf : ∀ q, 112 ≤ q → q ≤ 121 → ∀ j, σ1.1 q j = σ.1 q j) : RP nc PP σ1 := fun lv hl e k hk => ⟨(h lv hl (by rw [← e18]; exact e) k hk).1.kw ⟨hf 112 (by omega) (by omega) _, hf 113 (by omega) (by omega) _⟩ (fun q x a b _ _ => hf q (by omega) (by omega) x) (fun x _ _ => ⟨hf 120 (by omega) (by omega) x, hf 121 (by omega) (by omega) x⟩), (h lv hl (by rw [← e18]; exact e) k hk).2.kw ⟨hf 112 (by omega) (by omega) _, hf 113 (by omega) (by omega) _⟩ (fun q x a b _ _ => hf q (by omega) (by omega) x) (fun x _ _ => ⟨hf 120 (by omega) (by omega) x, hf 121 (by omega) (by omega) x⟩)⟩
theorem bdR.cp {lv : Nat} (h : bdR lv nc PP σ) (hl : lv < 2) : cpR lv nc PP σ := fun k hk => ⟨(h k hk).1.R (by omega) (by omega), (h k hk).2.R (by omega) (by omega)⟩
theorem RP.run (h : RP nc PP σ) (hr : RCx PRG n mi av σ v σ1) (hm : SRp.contains mi = true) (hm2 : SRpm.contains mi = true) (ha : nZs ZRp av = true) : RP nc PP σ1 := by
  have f := frRp hr hm hm2 ha
  have cv : ∀ q, q < 122 → 112 ≤ q → ERp.contains q = false := by decide +kernel
  exact h.k (hr.fldQ (q0 := 97) (c := 12) (k0 := 18) rfl nfRp18 hm2) (fun q a b j => f q (by omega) (cv q (by omega) a) j)
theorem C8.cs (h : C8 B σ) (hf : cS σ σ1) : C8 B σ1 := ⟨h.1.cs hf, h.2.1.k (fun q hq j => hf q (by omega) (by rcases hq with rfl | rfl | rfl <;> rfl) j), h.2.2.ex (fun q hq j => hf q (by omega) (by rcases hq with rfl | rfl <;> rfl) j)⟩
theorem C8.ask {E : List Nat} (h : C8 B σ) (hf : exc E σ σ1) (h7 : C7 B.1 σ1) (hE : kO E = true) : C8 B σ1 := by
  have e : ∀ q, q ∈ ([6, 7, 8, 31, 32] : List Nat) → ∀ j, σ1.1 q j = σ.1 q j := fun q hq => hf q (by revert q; decide) (by
    have := List.all_eq_true.mp hE q hq
    simpa using this)
  exact ⟨h7, h.2.1.k (fun q hq j => e q (by rcases hq with rfl | rfl | rfl <;> decide) j), h.2.2.ex (fun q hq j => e q (by rcases hq with rfl | rfl <;> decide) j)⟩
theorem R8.ms (h : R8 B σ) (hf : mS σ σ1) : R8 B σ1 := ⟨h.1.ms hf, h.2.k (hf 97 (by decide) (by decide) 18) (fun q a b j => hf q (by omega) (by omega) j)⟩
theorem x_ask8 (h : RCx PRG n mi av σ v σ1) (hm : SXq.contains mi = true) (hm2 : SXqm.contains mi = true) (ha : nZs ZXq av = true) (hC : C8 B σ) : C8 B σ1 ∧ mS σ σ1 := by
  have f := frXq h hm hm2 ha
  exact ⟨hC.ask f (hC.1.ex f rfl) rfl, f.mS rfl⟩
theorem x_tries8 (h : exc ETr σ σ1) (hC : C8 B σ) : C8 B σ1 ∧ mS σ σ1 := ⟨hC.ask h (hC.1.ex h rfl) rfl, h.mS rfl⟩
theorem m_8 (hv : V8 B) (hR : R8 B σ) (h : RCx PRG n mi av σ v σ1) (hm : SQr.contains mi = true) (hm2 : SQrm.contains mi = true) (hm3 : SQ2.contains mi = true) (ha : nZs ZQr av = true) : R8 B σ1 ∧ cS σ σ1 := by
  have a := m_askR hv.1 hR.1 h hm hm2 hm3 ha
  have f := frQr h hm hm2 ha
  have cv : ∀ q, q < 122 → 112 ≤ q → EQr.contains q = false := by decide +kernel
  exact ⟨⟨a.1, hR.2.k (h.fldQ (q0 := 97) (c := 12) (k0 := 18) rfl nfQ218 hm3) (fun q a b j => f q (by omega) (cv q (by omega) a) j)⟩, a.2⟩
theorem m_8t (hR : R8 B σ) (h : RCx PRG n mi av σ v σ1) (hm : SRt.contains mi = true) (hm2 : SRtm.contains mi = true) (ha : nZs ZRt av = true) (a : R7 B.1 σ1 ∧ cS σ σ1) : R8 B σ1 ∧ cS σ σ1 := by
  have f := frRt h hm hm2 ha
  have cv : ∀ q, q < 122 → 112 ≤ q → ERt.contains q = false := by decide +kernel
  exact ⟨⟨a.1, hR.2.k (h.fldQ (q0 := 97) (c := 12) (k0 := 18) rfl nfRt18 hm2) (fun q a b j => f q (by omega) (cv q (by omega) a) j)⟩, a.2⟩
theorem wk8 {Q : Option Value → Sg → Prop} (hW : ∃ A, W8 A σ) (hk : Ok PRG 60 mi av σ Q) (hs : ∀ n v σ' A, V8 A → C8 A σ → R8 A σ → RCx PRG n mi av σ v σ' → C8 A σ' ∧ R8 A σ') : Ok PRG 60 mi av σ (fun v σ' => Q v σ' ∧ ∃ A, W8 A σ') := by
  obtain ⟨A, hv, hC, hR⟩ := hW
  exact Ok.part hk (fun n d m hm v σ' hrun => ⟨A, hv, hs n v σ' A hv hC hR ⟨m, d, hm, hrun⟩⟩)
theorem wk8I {P : Int32 → Sg → Prop} (hW : ∃ A, W8 A σ) (hk : OkI PRG 60 mi av σ P) (hs : ∀ n v σ' A, V8 A → C8 A σ → R8 A σ → RCx PRG n mi av σ v σ' → C8 A σ' ∧ R8 A σ') : OkI PRG 60 mi av σ (fun w σ' => P w σ' ∧ ∃ A, W8 A σ') := by
  refine Ok.mono (wk8 hW hk hs) (fun v σ' hq => ?_)
  obtain ⟨⟨w, hw, j⟩, a⟩ := hq
  exact ⟨w, hw, j, a⟩
theorem k8I (hJ : J8 t σ) (hk : OkI PRG 60 mi av σ (fun _ σ' => J5 t σ')) (hs : ∀ n v σ' A, V8 A → C8 A σ → R8 A σ → RCx PRG n mi av σ v σ' → C8 A σ' ∧ R8 A σ') : OkI PRG 60 mi av σ (fun _ σ' => J8 t σ') := wk8I hJ.2 hk hs
theorem k8J (hJ : J8 t σ) (hk : OkJ PRG 60 mi av σ (fun _ σ' => J5 t σ')) (hs : ∀ n v σ' A, V8 A → C8 A σ → R8 A σ → RCx PRG n mi av σ v σ' → C8 A σ' ∧ R8 A σ') : OkJ PRG 60 mi av σ (fun _ σ' => J8 t σ') := by
  refine Ok.mono (wk8 hJ.2 hk hs) (fun v σ' hq => ?_)
  obtain ⟨⟨w, hw, j⟩, a⟩ := hq
  exact ⟨w, hw, j, a⟩
/-- a call that is compared: the class first -/
theorem k8x (f : BP → Int32 × BP) (hJ : J8 t σ) (hk : OkI PRG 60 mi av σ (fun _ σ' => J5 t σ')) (hs : ∀ n w σ' B, V8 B → C8 B σ → RCx PRG n mi av σ (some (.int w)) σ' → w = (f B).1 ∧ C8 (f B).2 σ' ∧ mS σ σ') : OkI PRG 60 mi av σ (fun w σ' => M8 f t w σ') := by
  obtain ⟨A, hv, hC, hR⟩ := hJ.2
  have hP := Ok.part (Q' := fun v σ' => ∀ w : Int32, v = some (.int w) → w = (f A).1 ∧ C8 (f A).2 σ' ∧ mS σ σ') hk (fun n d m hm v σ' hrun w e => by
    subst e
    exact hs n w σ' A hv hC ⟨m, d, hm, hrun⟩)
  refine Ok.mono hP (fun v σ' hq => ?_)
  obtain ⟨⟨w, hw, p⟩, s⟩ := hq
  obtain ⟨s1, s2, s3⟩ := s w hw
  exact ⟨w, hw, p, A, hv, s2, hR.ms s3, s1⟩
theorem k8m (f : BP → Int32 × BP) (hJ : M8 f t w0 σ) (hk : J5 t σ → OkI PRG 60 mi av σ (fun _ σ' => J5 t σ')) (hf : ∀ B, V8 B → V8 (f B).2) (hs : ∀ n w σ' B, V8 B → R8 B σ → RCx PRG n mi av σ (some (.int w)) σ' → w = (f B).1 ∧ R8 (f B).2 σ' ∧ cS σ σ') : OkI PRG 60 mi av σ (fun w σ' => w0 = w ∧ J8 t σ') := by
  obtain ⟨A, hv, hC, hR, ew⟩ := hJ.2
  have hP := Ok.part (Q' := fun v σ' => ∀ w : Int32, v = some (.int w) → w = (f A).1 ∧ R8 (f A).2 σ' ∧ cS σ σ') (hk hJ.1) (fun n d m hm v σ' hrun w e => by
    subst e
    exact hs n w σ' A hv hR ⟨m, d, hm, hrun⟩)
  refine Ok.mono hP (fun v σ' hq => ?_)
  obtain ⟨⟨w, hw, p⟩, s⟩ := hq
  obtain ⟨s1, s2, s3⟩ := s w hw
  exact ⟨w, hw, ew.trans s1.symm, p, _, hf A hv, hC.cs s3, s2⟩
/-- the same of a call that keeps the laws -/
theorem up_x {f : AA → Int32 × AA} {w : Int32} (hn : (f B.1).2.1 = B.1.1) (h : RCx PRG n mi av σ v σ1) (hm : SXp.contains mi = true) (hm2 : SXpm.contains mi = true) (hz : nZs ZXp av = true) (hC : C8 B σ) (a : w = (f B.1).1 ∧ C7 (f B.1).2 σ1 ∧ mS σ σ1) (ha : adG B.1.1 B.2 (f B.1).2.2.1 σ1) : w = (up8 f B).1 ∧ C8 (up8 f B).2 σ1 ∧ mS σ σ1 := by
  have e1 : (up8 f B).2.1.1 = B.1.1 := hn
  refine ⟨a.1, ⟨a.2.1, ?_, ?_⟩, a.2.2⟩
  · rw [e1]; exact hC.2.1.run h hm hm2 hz
  · rw [e1]; exact ha
theorem up_m {f : AA → Int32 × AA} {w : Int32} (hn : (f B.1).2.1 = B.1.1) (h : RCx PRG n mi av σ v σ1) (hm : SRp.contains mi = true) (hm2 : SRpm.contains mi = true) (hz : nZs ZRp av = true) (hR : R8 B σ) (a : w = (f B.1).1 ∧ R7 (f B.1).2 σ1 ∧ cS σ σ1) : w = (up8 f B).1 ∧ R8 (up8 f B).2 σ1 ∧ cS σ σ1 := by
  have e1 : (up8 f B).2.1.1 = B.1.1 := hn
  refine ⟨a.1, ⟨a.2.1, ?_⟩, a.2.2⟩
  rw [e1]; exact hR.2.run h hm hm2 hz
theorem up_v {f : AA → Int32 × AA} (hn : (f B.1).2.1 = B.1.1) (h : V8 B) (hv : V7 (f B.1).2) : V8 (up8 f B).2 := by
  have e1 : (up8 f B).2.1.1 = B.1.1 := hn
  exact ⟨hv, by rw [e1]; exact h.2⟩
theorem hold_l8 {A : AA} {x : Int32} : (fHold A x).2.1 = A.1 ∧ (fHold A x).2.2.1 = A.2.1 := by
  unfold fHold
  split
  · exact ⟨rfl, rfl⟩
  · split
    · exact ⟨rfl, rfl⟩
    · split <;> exact ⟨rfl, rfl⟩
theorem rest_l8 {A : AA} {x : Int32} : (fRest A x).2.1 = A.1 := by
  unfold fRest
  split
  · split <;> rfl
  · split
    · split <;> rfl
    · rfl
theorem book_l8 {A : AA} : (fBook A).2.1 = A.1 ∧ (fBook A).2.2.1 = A.2.1 := by
  unfold fBook
  split
  · exact ⟨rfl, rfl⟩
  · split <;> exact ⟨rfl, rfl⟩
theorem R8.jm (h : R8 B σ) : ∃ lv, jMl B.1.1 lv B.2 σ := by
  obtain ⟨⟨⟨lv, h1, h2, h3⟩, -⟩, hp⟩ := h
  exact ⟨lv, h1, (hp lv h1.1 h1.2.1).cp h1.1, h1.1, h1.2.1, h2, h3⟩
end Zp
theorem k8x_0 {x1 x2 x3 x4 x5_ : Int32} {t : Int} {σ : Sg} (hJ : (J5 t σ) ∧ ∃ A, W8 A σ) : OkI PRG 60 121 [.ref 0, .int x1, .int x2, .int x3, .int x4, .int x5_] σ (fun w σ' => ∃ a', fedTo t w.toInt a' ∧ (JT a' t σ' ∧ MF (x5 x1 x2 x3 x4 x5_) t σ' ∧ KW σ') ∧ ∃ A, W8 A σ') := by
  refine Ok.mono (wk8I hJ.2 (kx_0 hJ.1) (fun n v σ1 A hv hC hR h => (fun a => ⟨a.1, hR.ms a.2⟩) (x_ask8 h (by decide) (by decide) rfl hC))) (fun v σ' hq => ?_)
  obtain ⟨w, hw, ⟨a', h1, h2⟩, h3⟩ := hq
  exact ⟨w, hw, a', h1, h2, h3⟩
theorem k8m_0 {x1 x2 x3 x4 x5_ : Int32} {a t : Int} {σ : Sg} (hJ : (JT a t σ ∧ MF (x5 x1 x2 x3 x4 x5_) t σ ∧ KW σ) ∧ ∃ A, W8 A σ) : OkI PRG 60 179 [.ref 97, .int x1, .int x2, .int x3, .int x4, .int x5_] σ (fun w σ' => ∃ b', fedTo t w.toInt b' ∧ (J6 a b' b' σ') ∧ ∃ A, W8 A σ') := by
  refine Ok.mono (wk8I hJ.2 (km_0 hJ.1) (fun n v σ1 A hv hC hR h => (fun a => ⟨hC.cs a.2, a.1⟩) (m_8 hv hR h (by decide) (by decide) (by decide) rfl))) (fun v σ' hq => ?_)
  obtain ⟨w, hw, ⟨a', h1, h2⟩, h3⟩ := hq
  exact ⟨w, hw, a', h1, h2, h3⟩
theorem k8x_1 {x1 : Int32} {t : Int} {σ : Sg} (hJ : (J5 t σ) ∧ ∃ A, W8 A σ) : OkI PRG 60 122 [.ref 0, .int x1] σ (fun w σ' => ∃ a', backTo t x1.toInt w.toInt a' ∧ (J6 a' t t σ') ∧ ∃ A, W8 A σ') := by
  refine Ok.mono (wk8I hJ.2 (kx_1 hJ.1) (fun n v σ1 A hv hC hR h => (fun a => ⟨a.1, hR.ms a.2⟩) (x_ask8 h (by decide) (by decide) rfl hC))) (fun v σ' hq => ?_)
  obtain ⟨w, hw, ⟨a', h1, h2⟩, h3⟩ := hq
  exact ⟨w, hw, a', h1, h2, h3⟩
theorem k8m_1 {x1 : Int32} {a t : Int} {σ : Sg} (hJ : (J6 a t t σ) ∧ ∃ A, W8 A σ) : OkI PRG 60 180 [.ref 97, .int x1] σ (fun w σ' => ∃ b', backTo t x1.toInt w.toInt b' ∧ (J6 a b' b' σ') ∧ ∃ A, W8 A σ') := by
  refine Ok.mono (wk8I hJ.2 (km_1 hJ.1) (fun n v σ1 A hv hC hR h => (fun a => ⟨hC.cs a.2, a.1⟩) (m_8 hv hR h (by decide) (by decide) (by decide) rfl))) (fun v σ' hq => ?_)
  obtain ⟨w, hw, ⟨a', h1, h2⟩, h3⟩ := hq
  exact ⟨w, hw, a', h1, h2, h3⟩
theorem k8x_3 {t : Int} {σ : Sg} (hJ : J8 t σ) : OkI PRG 60 125 [.ref 0] σ (fun w σ' => (w = σ'.1 97 17 ∧ J5 t σ') ∧ ∃ A, W8 A σ') := wk8I hJ.2 (kx_3 hJ.1) (fun n v σ1 A hv hC hR h => (fun a => ⟨a.1, hR.ms a.2⟩) (x_ask8 h (by decide) (by decide) rfl hC))
theorem k8m_3 {t : Int} {w0 : Int32} {σ : Sg} (hJ : (w0 = σ.1 97 17 ∧ J5 t σ) ∧ ∃ A, W8 A σ) : OkI PRG 60 205 [.ref 97] σ (fun w σ' => w0 = w ∧ J8 t σ') := by
  refine Ok.mono (wk8I hJ.2 (km_3 hJ.1) (fun n v σ1 A hv hC hR h => (fun a => ⟨hC.cs a.2, a.1⟩) (m_8 hv hR h (by decide) (by decide) (by decide) rfl))) (fun v σ' hq => ?_)
  obtain ⟨w, hw, ⟨h1, h2⟩, h3⟩ := hq
  exact ⟨w, hw, h1, h2, h3⟩
theorem k8x_4 {x1 : Int32} {t : Int} {σ : Sg} (hJ : J8 t σ) : OkI PRG 60 126 [.ref 0, .int x1] σ (fun w σ' => M8 (up8 (fun A : AA => (((1, some (dlF x1 (A.1.1 * A.1.2.1), 0, C0, C0, 0)) : Int32 × Option GA).1, upG A ((1, some (dlF x1 (A.1.1 * A.1.2.1), 0, C0, C0, 0)) : Int32 × Option GA).2))) t w σ') := k8x _ hJ (kx_4 hJ.1) (fun n w σ1 B hv hC h => by
  exact up_x (f := fun A : AA => (((1, some (dlF x1 (A.1.1 * A.1.2.1), 0, C0, C0, 0)) : Int32 × Option GA).1, upG A ((1, some (dlF x1 (A.1.1 * A.1.2.1), 0, C0, C0, 0)) : Int32 × Option GA).2)) rfl h (by decide) (by decide) rfl hC ((fun a => ⟨a.1, hC.1.up a.2.2 a.2.1, a.2.2.mS rfl⟩) (t_deal h hv.1.1 hC.1.1)) ((fun i hi => absurd hi (Nat.not_lt_zero _))))
theorem k8m_4 {w0 : Int32} {x1 : Int32} {t : Int} {σ : Sg} (hJ : M8 (up8 (fun A : AA => (((1, some (dlF x1 (A.1.1 * A.1.2.1), 0, C0, C0, 0)) : Int32 × Option GA).1, upG A ((1, some (dlF x1 (A.1.1 * A.1.2.1), 0, C0, C0, 0)) : Int32 × Option GA).2))) t w0 σ) : OkI PRG 60 222 [.ref 97, .int x1] σ (fun w σ' => w0 = w ∧ J8 t σ') := k8m _ hJ (fun h => km_4 h) (fun B hv => up_v (f := fun A : AA => (((1, some (dlF x1 (A.1.1 * A.1.2.1), 0, C0, C0, 0)) : Int32 × Option GA).1, upG A ((1, some (dlF x1 (A.1.1 * A.1.2.1), 0, C0, C0, 0)) : Int32 × Option GA).2)) rfl hv (hv.1.up (v_0 (u := 0) (by decide)))) (fun n w σ1 B hv hR h => by
  obtain ⟨lv, hl, -⟩ := hR.1.1
  exact up_m (f := fun A : AA => (((1, some (dlF x1 (A.1.1 * A.1.2.1), 0, C0, C0, 0)) : Int32 × Option GA).1, upG A ((1, some (dlF x1 (A.1.1 * A.1.2.1), 0, C0, C0, 0)) : Int32 × Option GA).2)) rfl h (by decide) (by decide) rfl hR ((fun a => ⟨a.1, hR.1.up a.2.2 a.2.1, a.2.2.cS⟩) (u_deal h hv.1.1 hl)))
theorem k8x_5 {x1 x2 x3 : Int32} {t : Int} {σ : Sg} (hJ : J8 t σ) : OkI PRG 60 128 [.ref 0, .int x1, .int x2, .int x3] σ (fun w σ' => M8 (up8 (fun A : AA => ((fHands A.1 x1 x2 x3 A.2.1 : Int32 × Option GA).1, upG A (fHands A.1 x1 x2 x3 A.2.1 : Int32 × Option GA).2))) t w σ') := k8x _ hJ (kx_5 hJ.1) (fun n w σ1 B hv hC h => by
  exact up_x (f := fun A : AA => ((fHands A.1 x1 x2 x3 A.2.1 : Int32 × Option GA).1, upG A (fHands A.1 x1 x2 x3 A.2.1 : Int32 × Option GA).2)) rfl h (by decide) (by decide) rfl hC ((fun a => ⟨a.1, hC.1.up a.2.2 a.2.1, a.2.2.mS rfl⟩) (t_hands h hv.1.1 hC.1.1 hC.1.2.1)) (adG.ex (adG_hands hC.2.2) (fun q hq j => frHd h (by decide) (by decide) rfl q (by omega) (by rcases hq with rfl | rfl <;> rfl) j)))
theorem k8m_5 {w0 : Int32} {x1 x2 x3 : Int32} {t : Int} {σ : Sg} (hJ : M8 (up8 (fun A : AA => ((fHands A.1 x1 x2 x3 A.2.1 : Int32 × Option GA).1, upG A (fHands A.1 x1 x2 x3 A.2.1 : Int32 × Option GA).2))) t w0 σ) : OkI PRG 60 223 [.ref 97, .int x1, .int x2, .int x3] σ (fun w σ' => w0 = w ∧ J8 t σ') := k8m _ hJ (fun h => km_5 h) (fun B hv => up_v (f := fun A : AA => ((fHands A.1 x1 x2 x3 A.2.1 : Int32 × Option GA).1, upG A (fHands A.1 x1 x2 x3 A.2.1 : Int32 × Option GA).2)) rfl hv (hv.1.up (v_hands hv.1.2.1))) (fun n w σ1 B hv hR h => by
  obtain ⟨lv, hl, -⟩ := hR.1.1
  exact up_m (f := fun A : AA => ((fHands A.1 x1 x2 x3 A.2.1 : Int32 × Option GA).1, upG A (fHands A.1 x1 x2 x3 A.2.1 : Int32 × Option GA).2)) rfl h (by decide) (by decide) rfl hR ((fun a => ⟨a.1, hR.1.up a.2.2 a.2.1, a.2.2.cS⟩) (u_hands h hv.1.1 hl hR.1.2.1)))
theorem k8x_6 {x1 : Int32} {t : Int} {σ : Sg} (hJ : J8 t σ) : OkI PRG 60 130 [.ref 0, .int x1] σ (fun w σ' => M8 (up8 (fun A : AA => ((fLead x1 A.2.1 : Int32 × Option GA).1, upG A (fLead x1 A.2.1 : Int32 × Option GA).2))) t w σ') := k8x _ hJ (kx_6 hJ.1) (fun n w σ1 B hv hC h => by
  exact up_x (f := fun A : AA => ((fLead x1 A.2.1 : Int32 × Option GA).1, upG A (fLead x1 A.2.1 : Int32 × Option GA).2)) rfl h (by decide) (by decide) rfl hC ((fun a => ⟨a.1, hC.1.up a.2.2 a.2.1, a.2.2.mS rfl⟩) (t_lead h hv.1.1 hC.1.2.1 hv.1.2.1)) (adG.ex (adG_lead hC.2.2) (fun q hq j => frHd h (by decide) (by decide) rfl q (by omega) (by rcases hq with rfl | rfl <;> rfl) j)))
theorem k8m_6 {w0 : Int32} {x1 : Int32} {t : Int} {σ : Sg} (hJ : M8 (up8 (fun A : AA => ((fLead x1 A.2.1 : Int32 × Option GA).1, upG A (fLead x1 A.2.1 : Int32 × Option GA).2))) t w0 σ) : OkI PRG 60 224 [.ref 97, .int x1] σ (fun w σ' => w0 = w ∧ J8 t σ') := k8m _ hJ (fun h => km_6 h) (fun B hv => up_v (f := fun A : AA => ((fLead x1 A.2.1 : Int32 × Option GA).1, upG A (fLead x1 A.2.1 : Int32 × Option GA).2)) rfl hv (hv.1.up (v_lead hv.1.2.1))) (fun n w σ1 B hv hR h => by
  obtain ⟨lv, hl, -⟩ := hR.1.1
  exact up_m (f := fun A : AA => ((fLead x1 A.2.1 : Int32 × Option GA).1, upG A (fLead x1 A.2.1 : Int32 × Option GA).2)) rfl h (by decide) (by decide) rfl hR ((fun a => ⟨a.1, hR.1.up a.2.2 a.2.1, a.2.2.cS⟩) (u_lead h hv.1.1 hR.1.2.1 hv.1.2.1)))
theorem k8x_7 {x1 x2 : Int32} (hx : 0 ≤ x2.toInt ∧ x2.toInt ≤ 1) {t : Int} {σ : Sg} (hJ : J8 t σ) : OkI PRG 60 131 [.ref 0, .int x1, .int x2] σ (fun w σ' => M8 (up8 (fun A : AA => (fHand x1 x2 A.2.1, A))) t w σ') := k8x _ hJ (kx_7 hx hJ.1) (fun n w σ1 B hv hC h => by
  obtain ⟨e, e2⟩ := t_hand h hC.1.2.1
  subst e
  exact up_x (f := fun A : AA => (fHand x1 x2 A.2.1, A)) rfl h (by decide) (by decide) rfl hC ⟨e2, hC.1, mS.refl _⟩ hC.2.2)
theorem k8m_7 {w0 : Int32} {x1 x2 : Int32} {t : Int} {σ : Sg} (hJ : M8 (up8 (fun A : AA => (fHand x1 x2 A.2.1, A))) t w0 σ) : OkI PRG 60 227 [.ref 97, .int x1, .int x2] σ (fun w σ' => w0 = w ∧ J8 t σ') := k8m _ hJ (fun h => km_7 h) (fun B hv => up_v (f := fun A : AA => (fHand x1 x2 A.2.1, A)) rfl hv (hv.1)) (fun n w σ1 B hv hR h => by
  obtain ⟨lv, hl, -⟩ := hR.1.1
  obtain ⟨e, e2⟩ := u_hand h hv.1.1 hR.1.2.1 hv.1.2.1
  subst e
  exact up_m (f := fun A : AA => (fHand x1 x2 A.2.1, A)) rfl h (by decide) (by decide) rfl hR ⟨e2, hR.1, cS.refl _⟩)
theorem k8x_8 {t : Int} {σ : Sg} (hJ : J8 t σ) : OkI PRG 60 132 [.ref 0] σ (fun w σ' => M8 (up8 (fun A : AA => (fTurn A.1 A.2.1, A))) t w σ') := k8x _ hJ (kx_8 hJ.1) (fun n w σ1 B hv hC h => by
  obtain ⟨e, e2⟩ := t_turn h hC.1.2.1
  subst e
  exact up_x (f := fun A : AA => (fTurn A.1 A.2.1, A)) rfl h (by decide) (by decide) rfl hC ⟨e2, hC.1, mS.refl _⟩ hC.2.2)
theorem k8m_8 {w0 : Int32} {t : Int} {σ : Sg} (hJ : M8 (up8 (fun A : AA => (fTurn A.1 A.2.1, A))) t w0 σ) : OkI PRG 60 231 [.ref 97] σ (fun w σ' => w0 = w ∧ J8 t σ') := k8m _ hJ (fun h => km_8 h) (fun B hv => up_v (f := fun A : AA => (fTurn A.1 A.2.1, A)) rfl hv (hv.1)) (fun n w σ1 B hv hR h => by
  obtain ⟨lv, hl, -⟩ := hR.1.1
  obtain ⟨e, e2⟩ := u_turn h hv.1.1 hl hR.1.2.1 hv.1.2.1
  subst e
  exact up_m (f := fun A : AA => (fTurn A.1 A.2.1, A)) rfl h (by decide) (by decide) rfl hR ⟨e2, hR.1, cS.refl _⟩)
theorem k8x_9 {t : Int} {σ : Sg} (hJ : J8 t σ) : OkI PRG 60 133 [.ref 0] σ (fun w σ' => M8 (up8 (fun A : AA => (fMay A.1 A.2.1, A))) t w σ') := k8x _ hJ (kx_9 hJ.1) (fun n w σ1 B hv hC h => by
  obtain ⟨e, e2⟩ := t_may h hv.1.1 hC.1.1 hC.1.2.1 hv.1.2.1
  subst e
  exact up_x (f := fun A : AA => (fMay A.1 A.2.1, A)) rfl h (by decide) (by decide) rfl hC ⟨e2, hC.1, mS.refl _⟩ hC.2.2)
theorem k8m_9 {w0 : Int32} {t : Int} {σ : Sg} (hJ : M8 (up8 (fun A : AA => (fMay A.1 A.2.1, A))) t w0 σ) : OkI PRG 60 234 [.ref 97] σ (fun w σ' => w0 = w ∧ J8 t σ') := k8m _ hJ (fun h => km_9 h) (fun B hv => up_v (f := fun A : AA => (fMay A.1 A.2.1, A)) rfl hv (hv.1)) (fun n w σ1 B hv hR h => by
  obtain ⟨lv, hl, -⟩ := hR.1.1
  obtain ⟨e, e2⟩ := u_may h hv.1.1 hl hR.1.2.1 hv.1.2.1
  subst e
  exact up_m (f := fun A : AA => (fMay A.1 A.2.1, A)) rfl h (by decide) (by decide) rfl hR ⟨e2, hR.1, cS.refl _⟩)
theorem k8x_10 {x1 : Int32} {t : Int} {σ : Sg} (hJ : J8 t σ) : OkI PRG 60 136 [.ref 0, .int x1] σ (fun w σ' => M8 (up8 (fun A : AA => ((fPlay A.1 x1 A.2.1 : Int32 × Option GA).1, upG A (fPlay A.1 x1 A.2.1 : Int32 × Option GA).2))) t w σ') := k8x _ hJ (kx_10 hJ.1) (fun n w σ1 B hv hC h => by
  exact up_x (f := fun A : AA => ((fPlay A.1 x1 A.2.1 : Int32 × Option GA).1, upG A (fPlay A.1 x1 A.2.1 : Int32 × Option GA).2)) rfl h (by decide) (by decide) rfl hC ((fun a => ⟨a.1, hC.1.up a.2.2 a.2.1, a.2.2.mS rfl⟩) (t_play h hv.1.1 hC.1.1 hC.1.2.1 hv.1.2.1)) (t_playA h hv.1.1 hC.1.1 hC.2.1 hv.2 hC.1.2.1 hv.1.2.1 hC.2.2))
theorem k8m_10 {w0 : Int32} {x1 : Int32} {t : Int} {σ : Sg} (hJ : M8 (up8 (fun A : AA => ((fPlay A.1 x1 A.2.1 : Int32 × Option GA).1, upG A (fPlay A.1 x1 A.2.1 : Int32 × Option GA).2))) t w0 σ) : OkI PRG 60 237 [.ref 97, .int x1] σ (fun w σ' => w0 = w ∧ J8 t σ') := k8m _ hJ (fun h => km_10 h) (fun B hv => up_v (f := fun A : AA => ((fPlay A.1 x1 A.2.1 : Int32 × Option GA).1, upG A (fPlay A.1 x1 A.2.1 : Int32 × Option GA).2)) rfl hv (hv.1.up (v_play hv.1.1 hv.1.2.1))) (fun n w σ1 B hv hR h => by
  obtain ⟨lv, hl, -⟩ := hR.1.1
  exact up_m (f := fun A : AA => ((fPlay A.1 x1 A.2.1 : Int32 × Option GA).1, upG A (fPlay A.1 x1 A.2.1 : Int32 × Option GA).2)) rfl h (by decide) (by decide) rfl hR ((fun a => ⟨a.1, hR.1.up a.2.2 a.2.1, a.2.2.cS⟩) (u_play h hv.1.1 hl hR.1.2.1 hv.1.2.1)))
theorem k8x_11 {x1 : Int32} {t : Int} {σ : Sg} (hJ : J8 t σ) : OkI PRG 60 137 [.ref 0, .int x1] σ (fun w σ' => M8 (up8 (fun A : AA => ((fRev A.1 x1 A.2.1 : Int32 × Option GA).1, upG A (fRev A.1 x1 A.2.1 : Int32 × Option GA).2))) t w σ') := k8x _ hJ (kx_11 hJ.1) (fun n w σ1 B hv hC h => by
  exact up_x (f := fun A : AA => ((fRev A.1 x1 A.2.1 : Int32 × Option GA).1, upG A (fRev A.1 x1 A.2.1 : Int32 × Option GA).2)) rfl h (by decide) (by decide) rfl hC ((fun a => ⟨a.1, hC.1.up a.2.2 a.2.1, a.2.2.mS rfl⟩) (t_rev h hv.1.1 hC.1.1 hC.1.2.1 hv.1.2.1)) (t_revA h hv.1.1 hC.1.1 hC.2.1 hv.2 hC.1.2.1 hv.1.2.1 hC.2.2))
theorem k8m_11 {w0 : Int32} {x1 : Int32} {t : Int} {σ : Sg} (hJ : M8 (up8 (fun A : AA => ((fRev A.1 x1 A.2.1 : Int32 × Option GA).1, upG A (fRev A.1 x1 A.2.1 : Int32 × Option GA).2))) t w0 σ) : OkI PRG 60 238 [.ref 97, .int x1] σ (fun w σ' => w0 = w ∧ J8 t σ') := k8m _ hJ (fun h => km_11 h) (fun B hv => up_v (f := fun A : AA => ((fRev A.1 x1 A.2.1 : Int32 × Option GA).1, upG A (fRev A.1 x1 A.2.1 : Int32 × Option GA).2)) rfl hv (hv.1.up (v_rev hv.1.1 hv.1.2.1))) (fun n w σ1 B hv hR h => by
  obtain ⟨lv, hl, -⟩ := hR.1.1
  exact up_m (f := fun A : AA => ((fRev A.1 x1 A.2.1 : Int32 × Option GA).1, upG A (fRev A.1 x1 A.2.1 : Int32 × Option GA).2)) rfl h (by decide) (by decide) rfl hR ((fun a => ⟨a.1, hR.1.up a.2.2 a.2.1, a.2.2.cS⟩) (u_rev h hv.1.1 hl hR.1.2.1 hv.1.2.1)))
theorem k8x_12 {t : Int} {σ : Sg} (hJ : J8 t σ) : OkI PRG 60 138 [.ref 0] σ (fun w σ' => M8 (up8 (fun A : AA => ((fUndo A.2.1 : Int32 × Option GA).1, upG A (fUndo A.2.1 : Int32 × Option GA).2))) t w σ') := k8x _ hJ (kx_12 hJ.1) (fun n w σ1 B hv hC h => by
  exact up_x (f := fun A : AA => ((fUndo A.2.1 : Int32 × Option GA).1, upG A (fUndo A.2.1 : Int32 × Option GA).2)) rfl h (by decide) (by decide) rfl hC ((fun a => ⟨a.1, hC.1.up a.2.2 a.2.1, a.2.2.mS rfl⟩) (t_undo h hv.1.1 hC.1.2.1 hv.1.2.1)) (adG.ex (adG_undo hC.2.2) (fun q hq j => frHd h (by decide) (by decide) rfl q (by omega) (by rcases hq with rfl | rfl <;> rfl) j)))
theorem k8m_12 {w0 : Int32} {t : Int} {σ : Sg} (hJ : M8 (up8 (fun A : AA => ((fUndo A.2.1 : Int32 × Option GA).1, upG A (fUndo A.2.1 : Int32 × Option GA).2))) t w0 σ) : OkI PRG 60 239 [.ref 97] σ (fun w σ' => w0 = w ∧ J8 t σ') := k8m _ hJ (fun h => km_12 h) (fun B hv => up_v (f := fun A : AA => ((fUndo A.2.1 : Int32 × Option GA).1, upG A (fUndo A.2.1 : Int32 × Option GA).2)) rfl hv (hv.1.up (v_undo hv.1.2.1))) (fun n w σ1 B hv hR h => by
  obtain ⟨lv, hl, -⟩ := hR.1.1
  exact up_m (f := fun A : AA => ((fUndo A.2.1 : Int32 × Option GA).1, upG A (fUndo A.2.1 : Int32 × Option GA).2)) rfl h (by decide) (by decide) rfl hR ((fun a => ⟨a.1, hR.1.up a.2.2 a.2.1, a.2.2.cS⟩) (u_undo h hv.1.1 hR.1.2.1 hv.1.2.1)))
theorem k8x_13 {x1 x2 : Int32} {t : Int} {σ : Sg} (hJ : J8 t σ) : OkI PRG 60 139 [.ref 0, .int x1, .int x2] σ (fun w σ' => M8 (up8 (fun A : AA => (fCard A.1 x1 x2 A.2.1, A))) t w σ') := k8x _ hJ (kx_13 hJ.1) (fun n w σ1 B hv hC h => by
  obtain ⟨e, e2⟩ := t_card h hv.1.1 hC.1.1 hC.1.2.1 hv.1.2.1
  subst e
  exact up_x (f := fun A : AA => (fCard A.1 x1 x2 A.2.1, A)) rfl h (by decide) (by decide) rfl hC ⟨e2, hC.1, mS.refl _⟩ hC.2.2)
theorem k8m_13 {w0 : Int32} {x1 x2 : Int32} {t : Int} {σ : Sg} (hJ : M8 (up8 (fun A : AA => (fCard A.1 x1 x2 A.2.1, A))) t w0 σ) : OkI PRG 60 244 [.ref 97, .int x1, .int x2] σ (fun w σ' => w0 = w ∧ J8 t σ') := k8m _ hJ (fun h => km_13 h) (fun B hv => up_v (f := fun A : AA => (fCard A.1 x1 x2 A.2.1, A)) rfl hv (hv.1)) (fun n w σ1 B hv hR h => by
  obtain ⟨lv, hl, -⟩ := hR.1.1
  obtain ⟨e, e2⟩ := u_card h hv.1.1 hl hR.1.2.1 hv.1.2.1
  subst e
  exact up_m (f := fun A : AA => (fCard A.1 x1 x2 A.2.1, A)) rfl h (by decide) (by decide) rfl hR ⟨e2, hR.1, cS.refl _⟩)
theorem k8x_14 {x1 : Int32} {t : Int} {σ : Sg} (hJ : J8 t σ) : OkI PRG 60 140 [.ref 0, .int x1] σ (fun w σ' => M8 (up8 (fun A : AA => (fTricks A.1 x1 A.2.1, A))) t w σ') := k8x _ hJ (kx_14 hJ.1) (fun n w σ1 B hv hC h => by
  obtain ⟨e, e2⟩ := t_tricks h hv.1.1 hC.1.2.1 hv.1.2.1
  subst e
  exact up_x (f := fun A : AA => (fTricks A.1 x1 A.2.1, A)) rfl h (by decide) (by decide) rfl hC ⟨e2, hC.1, mS.refl _⟩ hC.2.2)
theorem k8m_14 {w0 : Int32} {x1 : Int32} {t : Int} {σ : Sg} (hJ : M8 (up8 (fun A : AA => (fTricks A.1 x1 A.2.1, A))) t w0 σ) : OkI PRG 60 245 [.ref 97, .int x1] σ (fun w σ' => w0 = w ∧ J8 t σ') := k8m _ hJ (fun h => km_14 h) (fun B hv => up_v (f := fun A : AA => (fTricks A.1 x1 A.2.1, A)) rfl hv (hv.1)) (fun n w σ1 B hv hR h => by
  obtain ⟨lv, hl, -⟩ := hR.1.1
  obtain ⟨e, e2⟩ := u_tricks h hv.1.1 hl hR.1.2.1 hv.1.2.1
  subst e
  exact up_m (f := fun A : AA => (fTricks A.1 x1 A.2.1, A)) rfl h (by decide) (by decide) rfl hR ⟨e2, hR.1, cS.refl _⟩)
theorem k8x_15 {x1 : Int32} {t : Int} {σ : Sg} (hJ : J8 t σ) : OkI PRG 60 141 [.ref 0, .int x1] σ (fun w σ' => M8 (up8 (fun A : AA => (fWin A.1 x1 A.2.1, A))) t w σ') := k8x _ hJ (kx_15 hJ.1) (fun n w σ1 B hv hC h => by
  obtain ⟨e, e2⟩ := t_winner h hv.1.1 hC.1.2.1 hv.1.2.1
  subst e
  exact up_x (f := fun A : AA => (fWin A.1 x1 A.2.1, A)) rfl h (by decide) (by decide) rfl hC ⟨e2, hC.1, mS.refl _⟩ hC.2.2)
theorem k8m_15 {w0 : Int32} {x1 : Int32} {t : Int} {σ : Sg} (hJ : M8 (up8 (fun A : AA => (fWin A.1 x1 A.2.1, A))) t w0 σ) : OkI PRG 60 246 [.ref 97, .int x1] σ (fun w σ' => w0 = w ∧ J8 t σ') := k8m _ hJ (fun h => km_15 h) (fun B hv => up_v (f := fun A : AA => (fWin A.1 x1 A.2.1, A)) rfl hv (hv.1)) (fun n w σ1 B hv hR h => by
  obtain ⟨lv, hl, -⟩ := hR.1.1
  obtain ⟨e, e2⟩ := u_winner h hv.1.1 hl hR.1.2.1 hv.1.2.1
  subst e
  exact up_m (f := fun A : AA => (fWin A.1 x1 A.2.1, A)) rfl h (by decide) (by decide) rfl hR ⟨e2, hR.1, cS.refl _⟩)
theorem k8x_16 {x1 x2 x3 : Int32} {t : Int} {σ : Sg} (hJ : J8 t σ) : OkI PRG 60 144 [.ref 0, .int x1, .int x2, .int x3] σ (fun w σ' => M8 (fun B : BP => (fSays B.1.1 B.2 x1 x2 x3 B.1.2.1, B)) t w σ') := k8x _ hJ (kx_16 hJ.1) (fun n w σ1 B hv hC h => ⟨(t_says h hv.1.1 hC.1.1 hC.1.2.1 hv.1.2.1 hC.2.2).2, x_ask8 h (by decide) (by decide) rfl hC⟩)
theorem k8m_16 {w0 : Int32} {x1 x2 x3 : Int32} {t : Int} {σ : Sg} (hJ : M8 (fun B : BP => (fSays B.1.1 B.2 x1 x2 x3 B.1.2.1, B)) t w0 σ) : OkI PRG 60 256 [.ref 97, .int x1, .int x2, .int x3] σ (fun w σ' => w0 = w ∧ J8 t σ') := k8m _ hJ (fun h => km_16 h) (fun B hv => hv) (fun n w σ1 B hv hR h => by
  obtain ⟨lv, hM⟩ := hR.jm
  exact ⟨(u_says h hv.1.1 hM hv.2 hR.1.2.1 hv.1.2.1).2, m_8 hv hR h (by decide) (by decide) (by decide) rfl⟩)
theorem k8x_17 {x1 x2 : Int32} {t : Int} {σ : Sg} (hJ : J8 t σ) : OkI PRG 60 147 [.ref 0, .int x1, .int x2] σ (fun _ σ' => J8 t σ') := k8I hJ (kx_17 hJ.1) (fun n v σ1 A hv hC hR h => (fun a => ⟨a.1, hR.ms a.2⟩) (x_ask8 h (by decide) (by decide) rfl hC))
theorem k8m_17 {x1 x2 : Int32} {t : Int} {σ : Sg} (hJ : J8 t σ) : OkI PRG 60 265 [.ref 97, .int x1, .int x2] σ (fun _ σ' => J8 t σ') := k8I hJ (km_17 hJ.1) (fun n v σ1 A hv hC hR h => (fun a => ⟨hC.cs a.2, a.1⟩) (m_8 hv hR h (by decide) (by decide) (by decide) rfl))
theorem k8x_18 {x1 x2 x3 x4 : Int32} {t : Int} {σ : Sg} (hJ : J8 t σ) : OkI PRG 60 149 [.ref 0, .int x1, .int x2, .int x3, .int x4] σ (fun _ σ' => J8 t σ') := k8I hJ (kx_18 hJ.1) (fun n v σ1 A hv hC hR h => (fun a => ⟨a.1, hR.ms a.2⟩) (x_ask8 h (by decide) (by decide) rfl hC))
theorem k8m_18 {x1 x2 x3 x4 : Int32} {t : Int} {σ : Sg} (hJ : J8 t σ) : OkI PRG 60 267 [.ref 97, .int x1, .int x2, .int x3, .int x4] σ (fun _ σ' => J8 t σ') := k8I hJ (km_18 hJ.1) (fun n v σ1 A hv hC hR h => (fun a => ⟨hC.cs a.2, a.1⟩) (m_8 hv hR h (by decide) (by decide) (by decide) rfl))
theorem k8x_19 {x1 x2 : Int32} {t : Int} {σ : Sg} (hJ : J8 t σ) : OkI PRG 60 150 [.ref 0, .int x1, .int x2] σ (fun _ σ' => J8 t σ') := k8I hJ (kx_19 hJ.1) (fun n v σ1 A hv hC hR h => (fun a => ⟨a.1, hR.ms a.2⟩) (x_ask8 h (by decide) (by decide) rfl hC))
theorem k8m_19 {x1 x2 : Int32} {t : Int} {σ : Sg} (hJ : J8 t σ) : OkI PRG 60 269 [.ref 97, .int x1, .int x2] σ (fun _ σ' => J8 t σ') := k8I hJ (km_19 hJ.1) (fun n v σ1 A hv hC hR h => (fun a => ⟨hC.cs a.2, a.1⟩) (m_8 hv hR h (by decide) (by decide) (by decide) rfl))
theorem k8x_20 {x1 x2 x3 : Int32} {t : Int} {σ : Sg} (hJ : J8 t σ) : OkI PRG 60 148 [.ref 0, .int x1, .int x2, .int x3] σ (fun _ σ' => J8 t σ') := k8I hJ (kx_20 hJ.1) (fun n v σ1 A hv hC hR h => (fun a => ⟨a.1, hR.ms a.2⟩) (x_ask8 h (by decide) (by decide) rfl hC))
theorem k8m_20 {x1 x2 x3 : Int32} {t : Int} {σ : Sg} (hJ : J8 t σ) : OkI PRG 60 266 [.ref 97, .int x1, .int x2, .int x3] σ (fun _ σ' => J8 t σ') := k8I hJ (km_20 hJ.1) (fun n v σ1 A hv hC hR h => (fun a => ⟨hC.cs a.2, a.1⟩) (m_8 hv hR h (by decide) (by decide) (by decide) rfl))
theorem k8x_21 {x1 x2 x3 x4 : Int32} {t : Int} {σ : Sg} (hJ : J8 t σ) : OkI PRG 60 151 [.ref 0, .int x1, .int x2, .int x3, .int x4] σ (fun _ σ' => J8 t σ') := k8I hJ (kx_21 hJ.1) (fun n v σ1 A hv hC hR h => (fun a => ⟨a.1, hR.ms a.2⟩) (x_ask8 h (by decide) (by decide) rfl hC))
theorem k8m_21 {x1 x2 x3 x4 : Int32} {t : Int} {σ : Sg} (hJ : J8 t σ) : OkI PRG 60 271 [.ref 97, .int x1, .int x2, .int x3, .int x4] σ (fun _ σ' => J8 t σ') := k8I hJ (km_21 hJ.1) (fun n v σ1 A hv hC hR h => (fun a => ⟨hC.cs a.2, a.1⟩) (m_8 hv hR h (by decide) (by decide) (by decide) rfl))
theorem k8x_22 {x1 : Int32} {t : Int} {σ : Sg} (hJ : J8 t σ) : OkI PRG 60 142 [.ref 0, .int x1] σ (fun w σ' => M8 (up8 (fun A : AA => (fRevs A.1 x1 A.2.1, A))) t w σ') := k8x _ hJ (kx_22 hJ.1) (fun n w σ1 B hv hC h => by
  obtain ⟨e, e2⟩ := t_revokes h hv.1.1 hC.1.1 hC.1.2.1 hv.1.2.1
  subst e
  exact up_x (f := fun A : AA => (fRevs A.1 x1 A.2.1, A)) rfl h (by decide) (by decide) rfl hC ⟨e2, hC.1, mS.refl _⟩ hC.2.2)
theorem k8m_22 {w0 : Int32} {x1 : Int32} {t : Int} {σ : Sg} (hJ : M8 (up8 (fun A : AA => (fRevs A.1 x1 A.2.1, A))) t w0 σ) : OkI PRG 60 247 [.ref 97, .int x1] σ (fun w σ' => w0 = w ∧ J8 t σ') := k8m _ hJ (fun h => km_22 h) (fun B hv => up_v (f := fun A : AA => (fRevs A.1 x1 A.2.1, A)) rfl hv (hv.1)) (fun n w σ1 B hv hR h => by
  obtain ⟨lv, hl, -⟩ := hR.1.1
  obtain ⟨e, e2⟩ := u_revokes h hv.1.1 hl hR.1.2.1 hv.1.2.1
  subst e
  exact up_m (f := fun A : AA => (fRevs A.1 x1 A.2.1, A)) rfl h (by decide) (by decide) rfl hR ⟨e2, hR.1, cS.refl _⟩)
theorem k8x_23 {t : Int} {σ : Sg} (hJ : J8 t σ) : OkI PRG 60 152 [.ref 0] σ (fun _ σ' => J8 t σ') := k8I hJ (kx_23 hJ.1) (fun n v σ1 A hv hC hR h => (fun a => ⟨a.1, hR.ms a.2⟩) (x_ask8 h (by decide) (by decide) rfl hC))
theorem k8m_23 {t : Int} {σ : Sg} (hJ : J8 t σ) : OkI PRG 60 284 [.ref 97] σ (fun _ σ' => J8 t σ') := k8I hJ (km_23 hJ.1) (fun n v σ1 A hv hC hR h => (fun a => ⟨hC.cs a.2, a.1⟩) (m_8 hv hR h (by decide) (by decide) (by decide) rfl))
theorem k8x_24 {x1 : Int32} {t : Int} {σ : Sg} (hJ : J8 t σ) : OkI PRG 60 153 [.ref 0, .int x1] σ (fun _ σ' => J8 t σ') := k8I hJ (kx_24 hJ.1) (fun n v σ1 A hv hC hR h => (fun a => ⟨a.1, hR.ms a.2⟩) (x_ask8 h (by decide) (by decide) rfl hC))
theorem k8m_24 {x1 : Int32} {t : Int} {σ : Sg} (hJ : J8 t σ) : OkI PRG 60 286 [.ref 97, .int x1] σ (fun _ σ' => J8 t σ') := k8I hJ (km_24 hJ.1) (fun n v σ1 A hv hC hR h => (fun a => ⟨hC.cs a.2, a.1⟩) (m_8t hR h (by decide) (by decide) rfl (m_line hv.1 hR.1 h)))
theorem k8x_25 {x1 x2 : Int32} {t : Int} {σ : Sg} (hJ : J8 t σ) : OkJ PRG 60 156 [.ref 0, .int x1, .int x2] σ (fun _ σ' => J8 t σ') := k8J hJ (kx_25 hJ.1) (fun n v σ1 A hv hC hR h => (fun a => ⟨a.1, hR.ms a.2⟩) (x_ask8 h (by decide) (by decide) rfl hC))
theorem k8m_25 {x1 x2 : Int32} {t : Int} {σ : Sg} (hJ : J8 t σ) : OkJ PRG 60 292 [.ref 97, .int x1, .int x2] σ (fun _ σ' => J8 t σ') := k8J hJ (km_25 hJ.1) (fun n v σ1 A hv hC hR h => (fun a => ⟨hC.cs a.2, a.1⟩) (m_8 hv hR h (by decide) (by decide) (by decide) rfl))
theorem k8x_26 {x1 : Int32} {t : Int} {σ : Sg} (hJ : J8 t σ) : OkI PRG 60 157 [.ref 0, .int x1] σ (fun _ σ' => J8 t σ') := k8I hJ (kx_26 hJ.1) (fun n v σ1 A hv hC hR h => (fun a => ⟨a.1, hR.ms a.2⟩) (x_ask8 h (by decide) (by decide) rfl hC))
theorem k8m_26 {x1 : Int32} {t : Int} {σ : Sg} (hJ : J8 t σ) : OkI PRG 60 294 [.ref 97, .int x1] σ (fun _ σ' => J8 t σ') := k8I hJ (km_26 hJ.1) (fun n v σ1 A hv hC hR h => (fun a => ⟨hC.cs a.2, a.1⟩) (m_8 hv hR h (by decide) (by decide) (by decide) rfl))
theorem k8x_27 {x1 x2 x3 : Int32} {t : Int} {σ : Sg} (hJ : J8 t σ) : OkI PRG 60 158 [.ref 0, .int x1, .int x2, .int x3] σ (fun _ σ' => J8 t σ') := k8I hJ (kx_27 hJ.1) (fun n v σ1 A hv hC hR h => (fun a => ⟨a.1, hR.ms a.2⟩) (x_ask8 h (by decide) (by decide) rfl hC))
theorem k8m_27 {x1 x2 x3 : Int32} {t : Int} {σ : Sg} (hJ : J8 t σ) : OkI PRG 60 295 [.ref 97, .int x1, .int x2, .int x3] σ (fun _ σ' => J8 t σ') := k8I hJ (km_27 hJ.1) (fun n v σ1 A hv hC hR h => (fun a => ⟨hC.cs a.2, a.1⟩) (m_8 hv hR h (by decide) (by decide) (by decide) rfl))
theorem k8x_28 {x1 x2 : Int32} {t : Int} {σ : Sg} (hJ : J8 t σ) : OkI PRG 60 159 [.ref 0, .int x1, .int x2] σ (fun _ σ' => J8 t σ') := k8I hJ (kx_28 hJ.1) (fun n v σ1 A hv hC hR h => (fun a => ⟨a.1, hR.ms a.2⟩) (x_ask8 h (by decide) (by decide) rfl hC))
theorem k8m_28 {x1 x2 : Int32} {t : Int} {σ : Sg} (hJ : J8 t σ) : OkI PRG 60 296 [.ref 97, .int x1, .int x2] σ (fun _ σ' => J8 t σ') := k8I hJ (km_28 hJ.1) (fun n v σ1 A hv hC hR h => (fun a => ⟨hC.cs a.2, a.1⟩) (m_8 hv hR h (by decide) (by decide) (by decide) rfl))
theorem k8x_29 {x1 : Int32} {t : Int} {σ : Sg} (hJ : J8 t σ) : OkI PRG 60 160 [.ref 0, .int x1] σ (fun _ σ' => J8 t σ') := k8I hJ (kx_29 hJ.1) (fun n v σ1 A hv hC hR h => (fun a => ⟨a.1, hR.ms a.2⟩) (x_ask8 h (by decide) (by decide) rfl hC))
theorem k8m_29 {x1 : Int32} {t : Int} {σ : Sg} (hJ : J8 t σ) : OkI PRG 60 298 [.ref 97, .int x1] σ (fun _ σ' => J8 t σ') := k8I hJ (km_29 hJ.1) (fun n v σ1 A hv hC hR h => (fun a => ⟨hC.cs a.2, a.1⟩) (m_8 hv hR h (by decide) (by decide) (by decide) rfl))
theorem k8x_30 {x1 : Int32} {t : Int} {σ : Sg} (hJ : J8 t σ) : OkI PRG 60 161 [.ref 0, .int x1] σ (fun _ σ' => J8 t σ') := k8I hJ (kx_30 hJ.1) (fun n v σ1 A hv hC hR h => (fun a => ⟨a.1, hR.ms a.2⟩) (x_tries8 (x_differs h) hC))
theorem k8m_30 {x1 : Int32} {t : Int} {σ : Sg} (hJ : J8 t σ) : OkI PRG 60 299 [.ref 97, .int x1] σ (fun _ σ' => J8 t σ') := k8I hJ (km_30 hJ.1) (fun n v σ1 A hv hC hR h => (fun a => ⟨hC.cs a.2, a.1⟩) (m_8t hR h (by decide) (by decide) rfl (m_differs hv.1 hR.1 h)))
theorem k8x_31 {x1 : Int32} {t : Int} {σ : Sg} (hJ : J8 t σ) : OkI PRG 60 162 [.ref 0, .int x1] σ (fun w σ' => M8 (fun B : BP => (fLies B.1.1 B.2 x1 B.1.2.1, B)) t w σ') := k8x _ hJ (kx_31 hJ.1) (fun n w σ1 B hv hC h => ⟨(t_lies h hv.1.1 hC.1.1 hC.2.1 hv.2 hC.1.2.1 hv.1.2.1).2, x_ask8 h (by decide) (by decide) rfl hC⟩)
theorem k8m_31 {w0 : Int32} {x1 : Int32} {t : Int} {σ : Sg} (hJ : M8 (fun B : BP => (fLies B.1.1 B.2 x1 B.1.2.1, B)) t w0 σ) : OkI PRG 60 301 [.ref 97, .int x1] σ (fun w σ' => w0 = w ∧ J8 t σ') := k8m _ hJ (fun h => km_31 h) (fun B hv => hv) (fun n w σ1 B hv hR h => by
  obtain ⟨lv, hM⟩ := hR.jm
  exact ⟨(u_lies h hv.1.1 hM hv.2 hR.1.2.1 hv.1.2.1).2, m_8 hv hR h (by decide) (by decide) (by decide) rfl⟩)
theorem k8x_32 {x1 : Int32} {t : Int} {σ : Sg} (hJ : J8 t σ) : OkJ PRG 60 163 [.ref 0, .int x1] σ (fun _ σ' => J8 t σ') := k8J hJ (kx_32 hJ.1) (fun n v σ1 A hv hC hR h => (fun a => ⟨a.1, hR.ms a.2⟩) (x_ask8 h (by decide) (by decide) rfl hC))
theorem k8m_32 {x1 : Int32} {t : Int} {σ : Sg} (hJ : J8 t σ) : OkJ PRG 60 302 [.ref 97, .int x1] σ (fun _ σ' => J8 t σ') := k8J hJ (km_32 hJ.1) (fun n v σ1 A hv hC hR h => (fun a => ⟨hC.cs a.2, a.1⟩) (m_8 hv hR h (by decide) (by decide) (by decide) rfl))
theorem k8x_33 {x1 x2 x3 : Int32} {t : Int} {σ : Sg} (hJ : J8 t σ) : OkI PRG 60 165 [.ref 0, .int x1, .int x2, .int x3] σ (fun _ σ' => J8 t σ') := k8I hJ (kx_33 hJ.1) (fun n v σ1 A hv hC hR h => (fun a => ⟨a.1, hR.ms a.2⟩) (x_tries8 (x_try h (by decide) (by decide) rfl) hC))
theorem k8m_33 {x1 x2 x3 : Int32} {t : Int} {σ : Sg} (hJ : J8 t σ) : OkI PRG 60 308 [.ref 97, .int x1, .int x2, .int x3] σ (fun _ σ' => J8 t σ') := k8I hJ (km_33 hJ.1) (fun n v σ1 A hv hC hR h => (fun a => ⟨hC.cs a.2, a.1⟩) (m_8t hR h (by decide) (by decide) rfl (m_gain hv.1 hR.1 h)))
theorem k8x_34 {x1 x2 x3 : Int32} {t : Int} {σ : Sg} (hJ : J8 t σ) : OkI PRG 60 166 [.ref 0, .int x1, .int x2, .int x3] σ (fun _ σ' => J8 t σ') := k8I hJ (kx_34 hJ.1) (fun n v σ1 A hv hC hR h => (fun a => ⟨a.1, hR.ms a.2⟩) (x_tries8 (x_try h (by decide) (by decide) rfl) hC))
theorem k8m_34 {x1 x2 x3 : Int32} {t : Int} {σ : Sg} (hJ : J8 t σ) : OkI PRG 60 309 [.ref 97, .int x1, .int x2, .int x3] σ (fun _ σ' => J8 t σ') := k8I hJ (km_34 hJ.1) (fun n v σ1 A hv hC hR h => (fun a => ⟨hC.cs a.2, a.1⟩) (m_8t hR h (by decide) (by decide) rfl (m_best hv.1 hR.1 h)))
theorem k8x_35 {t : Int} {σ : Sg} (hJ : J8 t σ) : OkI PRG 60 167 [.ref 0] σ (fun w σ' => M8 (up8 (fun A : AA => fBook A)) t w σ') := k8x _ hJ (kx_35 hJ.1) (fun n w σ1 B hv hC h => by
  exact up_x (f := fun A : AA => fBook A) book_l8.1 h (by decide) (by decide) rfl hC (t_book h hv.1 hC.1) (by rw [book_l8.2]; exact hC.2.2.ex (fun q hq j => frHd h (by decide) (by decide) rfl q (by omega) (by rcases hq with rfl | rfl <;> rfl) j)))
theorem k8m_35 {w0 : Int32} {t : Int} {σ : Sg} (hJ : M8 (up8 (fun A : AA => fBook A)) t w0 σ) : OkI PRG 60 310 [.ref 97] σ (fun w σ' => w0 = w ∧ J8 t σ') := k8m _ hJ (fun h => km_35 h) (fun B hv => up_v (f := fun A : AA => fBook A) book_l8.1 hv (v_book hv.1)) (fun n w σ1 B hv hR h => by
  exact up_m (f := fun A : AA => fBook A) book_l8.1 h (by decide) (by decide) rfl hR (u_book h hv.1 hR.1))
theorem k8x_36 {x1 : Int32} {t : Int} {σ : Sg} (hJ : J8 t σ) : OkI PRG 60 168 [.ref 0, .int x1] σ (fun _ σ' => J8 t σ') := k8I hJ (kx_36 hJ.1) (fun n v σ1 A hv hC hR h => (fun a => ⟨a.1, hR.ms a.2⟩) (x_ask8 h (by decide) (by decide) rfl hC))
theorem k8m_36 {x1 : Int32} {t : Int} {σ : Sg} (hJ : J8 t σ) : OkI PRG 60 312 [.ref 97, .int x1] σ (fun _ σ' => J8 t σ') := k8I hJ (km_36 hJ.1) (fun n v σ1 A hv hC hR h => (fun a => ⟨hC.cs a.2, a.1⟩) (m_8 hv hR h (by decide) (by decide) (by decide) rfl))
theorem k8x_37 {x1 x2 x3 : Int32} {t : Int} {σ : Sg} (hJ : J8 t σ) : OkI PRG 60 170 [.ref 0, .int x1, .int x2, .int x3] σ (fun _ σ' => J8 t σ') := k8I hJ (kx_37 hJ.1) (fun n v σ1 A hv hC hR h => (fun a => ⟨a.1, hR.ms a.2⟩) (x_ask8 h (by decide) (by decide) rfl hC))
theorem k8m_37 {x1 x2 x3 : Int32} {t : Int} {σ : Sg} (hJ : J8 t σ) : OkI PRG 60 314 [.ref 97, .int x1, .int x2, .int x3] σ (fun _ σ' => J8 t σ') := k8I hJ (km_37 hJ.1) (fun n v σ1 A hv hC hR h => (fun a => ⟨hC.cs a.2, a.1⟩) (m_8 hv hR h (by decide) (by decide) (by decide) rfl))
theorem k8x_38 {x1 x2 : Int32} {t : Int} {σ : Sg} (hJ : J8 t σ) : OkI PRG 60 171 [.ref 0, .int x1, .int x2] σ (fun _ σ' => J8 t σ') := k8I hJ (kx_38 hJ.1) (fun n v σ1 A hv hC hR h => (fun a => ⟨a.1, hR.ms a.2⟩) (x_ask8 h (by decide) (by decide) rfl hC))
theorem k8m_38 {x1 x2 : Int32} {t : Int} {σ : Sg} (hJ : J8 t σ) : OkI PRG 60 318 [.ref 97, .int x1, .int x2] σ (fun _ σ' => J8 t σ') := k8I hJ (km_38 hJ.1) (fun n v σ1 A hv hC hR h => (fun a => ⟨hC.cs a.2, a.1⟩) (m_8 hv hR h (by decide) (by decide) (by decide) rfl))
theorem k8x_39 {x1 x2 : Int32} {t : Int} {σ : Sg} (hJ : J8 t σ) : OkI PRG 60 172 [.ref 0, .int x1, .int x2] σ (fun _ σ' => J8 t σ') := k8I hJ (kx_39 hJ.1) (fun n v σ1 A hv hC hR h => (fun a => ⟨a.1, hR.ms a.2⟩) (x_ask8 h (by decide) (by decide) rfl hC))
theorem k8m_39 {x1 x2 : Int32} {t : Int} {σ : Sg} (hJ : J8 t σ) : OkI PRG 60 319 [.ref 97, .int x1, .int x2] σ (fun _ σ' => J8 t σ') := k8I hJ (km_39 hJ.1) (fun n v σ1 A hv hC hR h => (fun a => ⟨hC.cs a.2, a.1⟩) (m_8 hv hR h (by decide) (by decide) (by decide) rfl))
theorem k8x_40 {t : Int} {σ : Sg} (hJ : J8 t σ) : OkI PRG 60 173 [.ref 0] σ (fun _ σ' => J8 t σ') := k8I hJ (kx_40 hJ.1) (fun n v σ1 A hv hC hR h => (fun a => ⟨a.1, hR.ms a.2⟩) (x_ask8 h (by decide) (by decide) rfl hC))
theorem k8m_40 {t : Int} {σ : Sg} (hJ : J8 t σ) : OkI PRG 60 320 [.ref 97] σ (fun _ σ' => J8 t σ') := k8I hJ (km_40 hJ.1) (fun n v σ1 A hv hC hR h => (fun a => ⟨hC.cs a.2, a.1⟩) (m_8 hv hR h (by decide) (by decide) (by decide) rfl))
theorem k8x_41 {x1 : Int32} {t : Int} {σ : Sg} (hJ : J8 t σ) : OkI PRG 60 174 [.ref 0, .int x1] σ (fun w σ' => M8 (up8 (fun A : AA => fHold A x1)) t w σ') := k8x _ hJ (kx_41 hJ.1) (fun n w σ1 B hv hC h => by
  exact up_x (f := fun A : AA => fHold A x1) hold_l8.1 h (by decide) (by decide) rfl hC (t_hold h hv.1 hC.1) (by rw [hold_l8.2]; exact hC.2.2.ex (fun q hq j => t_holdA h hv.1 hC.1 q (by omega) j)))
theorem k8m_41 {w0 : Int32} {x1 : Int32} {t : Int} {σ : Sg} (hJ : M8 (up8 (fun A : AA => fHold A x1)) t w0 σ) : OkI PRG 60 321 [.ref 97, .int x1] σ (fun w σ' => w0 = w ∧ J8 t σ') := k8m _ hJ (fun h => km_41 h) (fun B hv => up_v (f := fun A : AA => fHold A x1) hold_l8.1 hv (v_hold hv.1)) (fun n w σ1 B hv hR h => by
  exact up_m (f := fun A : AA => fHold A x1) hold_l8.1 h (by decide) (by decide) rfl hR (u_hold h hv.1 hR.1))
theorem k8x_42 {x1 : Int32} {t : Int} {σ : Sg} (hJ : J8 t σ) : OkI PRG 60 175 [.ref 0, .int x1] σ (fun w σ' => M8 (up8 (fun A : AA => fRest A x1)) t w σ') := k8x _ hJ (kx_42 hJ.1) (fun n w σ1 B hv hC h => by
  exact up_x (f := fun A : AA => fRest A x1) rest_l8 h (by decide) (by decide) rfl hC (t_rest h hv.1 hC.1) (by have e := t_restA h hv.1 hC.1 hC.2.1 hv.2 hC.2.2; rw [rest_l8] at e; exact e))
theorem k8m_42 {w0 : Int32} {x1 : Int32} {t : Int} {σ : Sg} (hJ : M8 (up8 (fun A : AA => fRest A x1)) t w0 σ) : OkI PRG 60 322 [.ref 97, .int x1] σ (fun w σ' => w0 = w ∧ J8 t σ') := k8m _ hJ (fun h => km_42 h) (fun B hv => up_v (f := fun A : AA => fRest A x1) rest_l8 hv (v_rest hv.1)) (fun n w σ1 B hv hR h => by
  exact up_m (f := fun A : AA => fRest A x1) rest_l8 h (by decide) (by decide) rfl hR (u_rest h hv.1 hR.1))
theorem k8x_43 {x1 : Int32} {t : Int} {σ : Sg} (hJ : J8 t σ) : OkI PRG 60 177 [.ref 0, .int x1] σ (fun w σ' => M8 (up8 (fun A : AA => (fCount A (nI t.toNat) x1, A))) t w σ') := k8x _ hJ (kx_43 hJ.1) (fun n w σ1 B hv hC h => by
  have hr := hJ.1.1.rg
  obtain ⟨e, e2⟩ := t_count h hv.1 hC.1
  subst e
  rw [nI_of3 hJ.1.1.2.1 hr.1.1 hr.1.2] at e2
  exact up_x (f := fun A : AA => (fCount A (nI t.toNat) x1, A)) rfl h (by decide) (by decide) rfl hC ⟨e2, hC.1, mS.refl _⟩ hC.2.2)
theorem k8m_43 {w0 : Int32} {x1 : Int32} {t : Int} {σ : Sg} (hJ : M8 (up8 (fun A : AA => (fCount A (nI t.toNat) x1, A))) t w0 σ) : OkI PRG 60 323 [.ref 97, .int x1] σ (fun w σ' => w0 = w ∧ J8 t σ') := k8m _ hJ (fun h => km_43 h) (fun B hv => up_v (f := fun A : AA => (fCount A (nI t.toNat) x1, A)) rfl hv (hv.1)) (fun n w σ1 B hv hR h => by
  have hr := hJ.1.1.rg
  obtain ⟨e, e2⟩ := u_count h hv.1 hR.1
  subst e
  rw [nI_of3 hJ.1.1.2.2 hr.2.1 hr.2.2] at e2
  exact up_m (f := fun A : AA => (fCount A (nI t.toNat) x1, A)) rfl h (by decide) (by decide) rfl hR ⟨e2, hR.1, cS.refl _⟩)
