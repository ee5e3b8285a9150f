/-! ranges of numbers along the pure machine: states, what they say -/
abbrev SI : Type := Nat × Int × Int × Nat × Int × List (Nat × Int × Int)
abbrev ME : Type := Nat × Nat × Nat × Nat
abbrev AS : Type := List SI × List (Nat × Nat) × List Nat × List ME
abbrev SEG : Type := Nat × Nat × Int × Int
/-- what is asked of a call's values, of its cells before, of its answer, if the answer isn't 0, of its cells behind; what it may write; how deep it goes; 1: the answer says that the first lies between the others -/
abbrev SP : Type := List (Nat × Int × Int) × List (Nat × Nat × Int × Int) × Option (Nat × Int × Int) × List (Nat × Int × Int) × List (Nat × Nat × Int × Int) × List (Nat × Nat × Nat) × Nat × Nat × List (Nat × Nat)
def FL : Int := -2147483648
def FH : Int := 2147483647
def kdn (q : Nat) : Option Nat := (LAY[q]?).map (fun c => c.1)
theorem kdn_knd {q κ : Nat} (h : kdn q = some κ) : knd q = KND[κ]? := by
  unfold kdn at h
  unfold knd
  cases hq : LAY[q]? with
  | none => rw [hq] at h; cases h
  | some c => rw [hq] at h; cases h; rfl
def inM (ms : List (Nat × Nat × Nat)) (κ k : Nat) : Bool := ms.any (fun m => Nat.beq m.1 κ && (Nat.ble m.2.1 k && Nat.ble k m.2.2))
def tyR (σ : Sg) : Prop := ∀ q κ c fs k κ', kdn q = some κ → KND[κ]? = some (0, c, fs) → fs[k]? = some (3, κ') → σ.1 q k = 0 ∨ ∃ q' : Nat, 0 < q' ∧ q' < 1000 ∧ σ.1 q k = Int32.ofNat q' ∧ kdn q' = some κ'
def tyI (TY : List (List SEG)) (σ : Sg) : Prop := ∀ q κ, kdn q = some κ → ∀ g ∈ TY.getD κ [], ∀ k, g.1 ≤ k → k ≤ g.2.1 → g.2.2.1 ≤ (σ.1 q k).toInt ∧ (σ.1 q k).toInt ≤ g.2.2.2
def typed (TY : List (List SEG)) (σ : Sg) : Prop := tyI TY σ ∧ tyR σ
def frame (ms : List (Nat × Nat × Nat)) (σ0 σ : Sg) : Prop := ∀ q κ k, kdn q = some κ → inM ms κ k = false → σ.1 q k = σ0.1 q k
def iv (ρ : List Value) (s : Nat) (x : Int) : Prop := ∃ w : Int32, ρ[s]? = some (.int w) ∧ w.toInt = x
def okS (ρ : List Value) (si : SI) (v : Value) : Prop := match si.1 with
  | 0 => ∃ w : Int32, v = .int w ∧ si.2.1 ≤ w.toInt ∧ w.toInt ≤ si.2.2.1 ∧ (∃ y, iv ρ si.2.2.2.1 y ∧ w.toInt = y + si.2.2.2.2.1) ∧ (¬ w = 0 → ∀ t ∈ si.2.2.2.2.2, ∃ y, iv ρ t.1 y ∧ t.2.1 ≤ y ∧ y ≤ t.2.2)
  | 1 => ∃ q, v = .ref q ∧ kdn q = some si.2.1.toNat
  | 2 => v = .null ∨ ∃ q, v = .ref q ∧ kdn q = some si.2.1.toNat
  | _ => ∃ w, v = .long w
def memOK (ρ : List Value) (σ : Sg) (e : ME) : Prop := match e.1 with
  | 0 => ∃ q, ρ[e.2.1]? = some (.ref q) ∧ ρ[e.2.2.2]? = some (.int (σ.1 q e.2.2.1))
  | 1 => ∃ q j, ρ[e.2.1]? = some (.ref q) ∧ ρ[e.2.2.1]? = some (.int j) ∧ ρ[e.2.2.2]? = some (.int (σ.1 q j.toNatClampNeg))
  | 2 => ∃ q, ρ[e.2.1]? = some (.ref q) ∧ ρ[e.2.2.2]? = some (.ref (tg q e.2.2.1))
  | 3 => ∃ x y : Int32, ρ[e.2.1]? = some (.int x) ∧ ρ[e.2.2.1]? = some (.int y) ∧ y.toInt + ((e.2.2.2 : Nat) : Int) ≤ x.toInt
  | 4 => ∃ x : Int32, ρ[e.2.1]? = some (.int x) ∧ ¬ x = 0
  | 5 => ∃ r x : Int32, ρ[e.2.1]? = some (.int r) ∧ ρ[e.2.2.1]? = some (.int x) ∧ (r = 0 → 0 ≤ x.toInt ∧ x.toInt ≤ 2 ^ e.2.2.2 - 1)
  | 6 => ∃ x : Int32, ρ[e.2.1]? = some (.int x) ∧ x.toBitVec.toNat % 4 = e.2.2.1
  | _ => True
/-- what stands still while a method runs -/
def Glo (TY : List (List SEG)) (I : Sg → Prop) (ms : List (Nat × Nat × Nat)) (σ0 σ : Sg) : Prop := typed TY σ ∧ I σ ∧ frame ms σ0 σ
def Rel (ρ0 ρ : List Value) (a : AS) (ls : Lcl) (st : List Value) (σ : Sg) : Prop :=
  ρ.length = a.1.length ∧ (∀ (s : Nat) (si : SI), a.1[s]? = some si → ∃ v : Value, ρ[s]? = some v ∧ okS ρ si v) ∧ (∀ p ∈ a.2.1, ∃ v : Value, ls.lookup p.1 = some v ∧ ρ[p.2]? = some v) ∧ a.2.2.1.map (fun s => ρ[s]?) = st.map some ∧ (∀ e ∈ a.2.2.2, memOK ρ σ e) ∧ (∃ r, ρ = ρ0 ++ r)
theorem iv_app {ρ : List Value} {s : Nat} {x : Int} (r : List Value) (h : iv ρ s x) : iv (ρ ++ r) s x := by
  obtain ⟨w, h1, h2⟩ := h
  exact ⟨w, by rw [List.getElem?_append_left (List.getElem?_eq_some_iff.mp h1).1]; exact h1, h2⟩
theorem at_app {ρ : List Value} {s : Nat} {v : Value} (r : List Value) (h : ρ[s]? = some v) : (ρ ++ r)[s]? = some v := by
  rw [List.getElem?_append_left (List.getElem?_eq_some_iff.mp h).1]; exact h
theorem okS_app {ρ : List Value} {si : SI} {v : Value} (r : List Value) (h : okS ρ si v) : okS (ρ ++ r) si v := by
  unfold okS at h ⊢
  split at h
  · obtain ⟨w, h1, h2, h3, ⟨y, h4, h5⟩, h6⟩ := h
    exact ⟨w, h1, h2, h3, ⟨y, iv_app r h4, h5⟩, fun hw t ht => by obtain ⟨z, g1, g2, g3⟩ := h6 hw t ht; exact ⟨z, iv_app r g1, g2, g3⟩⟩
  · exact h
  · exact h
  · exact h
theorem memOK_app {ρ : List Value} {σ : Sg} {e : ME} (r : List Value) (h : memOK ρ σ e) : memOK (ρ ++ r) σ e := by
  unfold memOK at h ⊢
  split at h
  · obtain ⟨q, h1, h2⟩ := h; exact ⟨q, at_app r h1, at_app r h2⟩
  · obtain ⟨q, j, h1, h2, h3⟩ := h; exact ⟨q, j, at_app r h1, at_app r h2, at_app r h3⟩
  · obtain ⟨q, h1, h2⟩ := h; exact ⟨q, at_app r h1, at_app r h2⟩
  · obtain ⟨x, y, h1, h2, h3⟩ := h; exact ⟨x, y, at_app r h1, at_app r h2, h3⟩
  · obtain ⟨x, h1, h2⟩ := h; exact ⟨x, at_app r h1, h2⟩
  · obtain ⟨r0, x, h1, h2, h3⟩ := h; exact ⟨r0, x, at_app r h1, at_app r h2, h3⟩
  · obtain ⟨x, h1, h2⟩ := h; exact ⟨x, at_app r h1, h2⟩
  · trivial
section RelL
variable {ρ0 ρ : List Value} {S : List SI} {L : List (Nat × Nat)} {K : List Nat} {M : List ME} {ls : Lcl} {st : List Value} {σ : Sg}
/-- a new number -/
theorem Rel.grow {si : SI} {v : Value} (h : Rel ρ0 ρ (S, L, K, M) ls st σ) (hv : okS (ρ ++ [v]) si v) : Rel ρ0 (ρ ++ [v]) (S ++ [si], L, K, M) ls st σ ∧ (ρ ++ [v])[S.length]? = some v := by
  obtain ⟨h1, h2, h3, h4, h5, r, h6⟩ := h
  have hlast : (ρ ++ [v])[S.length]? = some v := by rw [← h1]; simp
  refine ⟨⟨by simp at h1 ⊢; omega, ?_, ?_, ?_, ?_, ?_⟩, hlast⟩
  · intro s si' hs
    by_cases hlt : s < S.length
    · rw [List.getElem?_append_left hlt] at hs
      obtain ⟨w, g1, g2⟩ := h2 s si' hs
      exact ⟨w, at_app _ g1, okS_app _ g2⟩
    · have hlt2 := (List.getElem?_eq_some_iff.mp hs).1
      simp at hlt2
      have : s = S.length := by omega
      subst this
      rw [List.getElem?_append_right (Nat.le_refl _)] at hs
      simp at hs
      subst hs
      exact ⟨v, hlast, hv⟩
  · intro p hp
    obtain ⟨w, g1, g2⟩ := h3 p hp
    exact ⟨w, g1, at_app _ g2⟩
  · rw [← h4]
    apply List.map_congr_left
    intro s hs
    have : ρ[s]? ∈ st.map some := by rw [← h4]; exact List.mem_map.mpr ⟨s, hs, rfl⟩
    obtain ⟨w, -, hw⟩ := List.mem_map.mp this
    rw [at_app _ hw.symm, ← hw]
  · intro e he
    exact memOK_app _ (h5 e he)
  · exact ⟨r ++ [v], by rw [h6, List.append_assoc]⟩
theorem Rel.push {s : Nat} {v : Value} (h : Rel ρ0 ρ (S, L, K, M) ls st σ) (hv : ρ[s]? = some v) : Rel ρ0 ρ (S, L, s :: K, M) ls (v :: st) σ := by
  obtain ⟨h1, h2, h3, h4, h5, h6⟩ := h
  exact ⟨h1, h2, h3, by simp only [List.map_cons]; rw [hv, h4], h5, h6⟩
theorem Rel.pushN {si : SI} {v : Value} (h : Rel ρ0 ρ (S, L, K, M) ls st σ) (hv : okS (ρ ++ [v]) si v) : Rel ρ0 (ρ ++ [v]) (S ++ [si], L, S.length :: K, M) ls (v :: st) σ := by
  obtain ⟨g1, g2⟩ := h.grow hv
  exact g1.push g2
theorem Rel.pop {s : Nat} (h : Rel ρ0 ρ (S, L, s :: K, M) ls st σ) : ∃ v r, st = v :: r ∧ ρ[s]? = some v ∧ Rel ρ0 ρ (S, L, K, M) ls r σ := by
  obtain ⟨h1, h2, h3, h4, h5, h6⟩ := h
  cases st with
  | nil => cases h4
  | cons v r =>
    simp only [List.map_cons] at h4
    injection h4 with e1 e2
    exact ⟨v, r, rfl, e1, h1, h2, h3, e2, h5, h6⟩
/-- the number of a name -/
theorem Rel.val {s : Nat} {si : SI} (h : Rel ρ0 ρ (S, L, K, M) ls st σ) (hs : S[s]? = some si) : ∃ v, ρ[s]? = some v ∧ okS ρ si v := h.2.1 s si hs
end RelL
def gS (S : List SI) (s : Nat) : SI := (S[s]?).getD (9, 0, 0, 0, 0, [])
theorem gS_some {S : List SI} {s t : Nat} (h : (gS S s).1 = t) (ht : t ≠ 9) : S[s]? = some (gS S s) := by
  unfold gS at h ⊢
  cases hs : S[s]? with
  | none => rw [hs] at h; exact absurd h.symm ht
  | some si => rfl
def imax (a b : Int) : Int := if a ≤ b then b else a
def imin (a b : Int) : Int := if a ≤ b then a else b
/-- the range of a name, by itself and by its base -/
def ivl (S : List SI) (s : Nat) : Int × Int := if Nat.beq (gS S (gS S s).2.2.2.1).1 0 then (imax (gS S s).2.1 ((gS S (gS S s).2.2.2.1).2.1 + (gS S s).2.2.2.2.1), imin (gS S s).2.2.1 ((gS S (gS S s).2.2.2.1).2.2.1 + (gS S s).2.2.2.2.1)) else ((gS S s).2.1, (gS S s).2.2.1)
theorem okS_int {ρ : List Value} {si : SI} {v : Value} (h : okS ρ si v) (ht : si.1 = 0) : ∃ w : Int32, v = .int w ∧ si.2.1 ≤ w.toInt ∧ w.toInt ≤ si.2.2.1 ∧ (∃ y, iv ρ si.2.2.2.1 y ∧ w.toInt = y + si.2.2.2.2.1) ∧ (¬ w = 0 → ∀ t ∈ si.2.2.2.2.2, ∃ y, iv ρ t.1 y ∧ t.2.1 ≤ y ∧ y ≤ t.2.2) := by
  unfold okS at h
  rw [ht] at h
  exact h
theorem Rel.int {ρ0 ρ : List Value} {S : List SI} {L : List (Nat × Nat)} {K : List Nat} {M : List ME} {ls : Lcl} {st : List Value} {σ : Sg} (h : Rel ρ0 ρ (S, L, K, M) ls st σ) {s : Nat} (ht : (gS S s).1 = 0) : ∃ w : Int32, ρ[s]? = some (.int w) ∧ (ivl S s).1 ≤ w.toInt ∧ w.toInt ≤ (ivl S s).2 ∧ ∃ y, iv ρ (gS S s).2.2.2.1 y ∧ w.toInt = y + (gS S s).2.2.2.2.1 := by
  obtain ⟨v, h1, h2⟩ := h.val (gS_some ht (by decide))
  obtain ⟨w, rfl, h3, h4, ⟨y, h5, h6⟩, -⟩ := okS_int h2 ht
  refine ⟨w, h1, ?_, ?_, y, h5, h6⟩
  · unfold ivl
    split
    · rename_i hb
      have hb := Nat.eq_of_beq_eq_true hb
      obtain ⟨v2, g1, g2⟩ := h.val (gS_some hb (by decide))
      obtain ⟨w2, rfl, g3, g4, -⟩ := okS_int g2 hb
      obtain ⟨w3, e1, e2⟩ := h5
      rw [g1] at e1
      cases e1
      unfold imax
      simp only
      split <;> omega
    · exact h3
  · unfold ivl
    split
    · rename_i hb
      have hb := Nat.eq_of_beq_eq_true hb
      obtain ⟨v2, g1, g2⟩ := h.val (gS_some hb (by decide))
      obtain ⟨w2, rfl, g3, g4, -⟩ := okS_int g2 hb
      obtain ⟨w3, e1, e2⟩ := h5
      rw [g1] at e1
      cases e1
      unfold imin
      simp only
      split <;> omega
    · exact h4
theorem Rel.ref {ρ0 ρ : List Value} {S : List SI} {L : List (Nat × Nat)} {K : List Nat} {M : List ME} {ls : Lcl} {st : List Value} {σ : Sg} (h : Rel ρ0 ρ (S, L, K, M) ls st σ) {s : Nat} (ht : (gS S s).1 = 1) : ∃ q, ρ[s]? = some (.ref q) ∧ kdn q = some (gS S s).2.1.toNat := by
  obtain ⟨v, h1, h2⟩ := h.val (gS_some ht (by decide))
  unfold okS at h2
  rw [ht] at h2
  obtain ⟨q, rfl, h3⟩ := h2
  exact ⟨q, h1, h3⟩
theorem Rel.long {ρ0 ρ : List Value} {S : List SI} {L : List (Nat × Nat)} {K : List Nat} {M : List ME} {ls : Lcl} {st : List Value} {σ : Sg} (h : Rel ρ0 ρ (S, L, K, M) ls st σ) {s : Nat} (ht : (gS S s).1 = 3) : ∃ w, ρ[s]? = some (.long w) := by
  obtain ⟨v, h1, h2⟩ := h.val (gS_some ht (by decide))
  unfold okS at h2
  rw [ht] at h2
  obtain ⟨w, rfl⟩ := h2
  exact ⟨w, h1⟩
/-- a new number with no base but itself -/
theorem okS_new {ρ : List Value} {w : Int32} {lo hi : Int} {n : Nat} (hn : ρ.length = n) (h1 : lo ≤ w.toInt) (h2 : w.toInt ≤ hi) : okS (ρ ++ [.int w]) (0, lo, hi, n, 0, []) (.int w) := by
  refine ⟨w, rfl, h1, h2, ⟨w.toInt, ⟨w, by rw [← hn]; simp, rfl⟩, by simp⟩, fun _ t ht => absurd ht List.not_mem_nil⟩
/-- a new number by another's base -/
theorem okS_off {ρ : List Value} {w : Int32} {lo hi : Int} {b : Nat} {o y : Int} (h1 : lo ≤ w.toInt) (h2 : w.toInt ≤ hi) (hb : iv ρ b y) (ho : w.toInt = y + o) : okS (ρ ++ [.int w]) (0, lo, hi, b, o, []) (.int w) :=
  ⟨w, rfl, h1, h2, ⟨y, iv_app _ hb, ho⟩, fun _ t ht => absurd ht List.not_mem_nil⟩
theorem w_lo (w : Int32) : FL ≤ w.toInt := by have := Int32.le_toInt w; unfold FL; omega
theorem w_hi (w : Int32) : w.toInt ≤ FH := by have := Int32.toInt_lt w; unfold FH; omega
