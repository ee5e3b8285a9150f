/-! what both sides hold between calls -/
abbrev LA : Type := Nat × Nat × Int32 × Nat × (Nat → Int32) × (Nat → Int32)
abbrev GA : Type := (Nat → Int32) × Int32 × (Nat → Int32) × (Nat → Int32) × Nat
abbrev AA : Type := LA × Option GA × Option GA × Option GA × Nat
def lV (l : LA) : Prop := lOK l.1 l.2.1 l.2.2.1 ∧ l.2.2.2.1 ≤ 6
def lC (l : LA) (σ : Sg) : Prop := LC l.1 l.2.1 l.2.2.1 σ ∧ σ.1 3 3 = nI l.2.2.2.1 ∧ ∀ k, k < l.2.2.2.1 → σ.1 4 k = l.2.2.2.2.1 k ∧ σ.1 5 k = l.2.2.2.2.2 k
def lR (l : LA) (σ : Sg) : Prop := ∃ lv, LR l.1 l.2.1 l.2.2.1 lv σ ∧ σ.1 109 lv = nI l.2.2.2.1 ∧ ∀ k, k < l.2.2.2.1 → σ.1 110 (6 * lv + k) = l.2.2.2.2.1 k ∧ σ.1 111 (6 * lv + k) = l.2.2.2.2.2 k
def vG (l : LA) : Option GA → Prop
  | none => True
  | some g => gV l.1 l.2.1 l.2.2.1 g.1 g.2.1 g.2.2.1 g.2.2.2.1 g.2.2.2.2
def cG22 (l : LA) : Option GA → Sg → Prop
  | none, σ => gN22 σ
  | some g, σ => gC22 l.1 l.2.1 l.2.2.1 g.1 g.2.1 g.2.2.1 g.2.2.2.1 g.2.2.2.2 σ
def cG46 (l : LA) : Option GA → Sg → Prop
  | none, σ => gN46 σ
  | some g, σ => gC46 l.1 l.2.1 l.2.2.1 g.1 g.2.1 g.2.2.1 g.2.2.2.1 g.2.2.2.2 σ
def cG58 (l : LA) : Option GA → Sg → Prop
  | none, σ => gN58 σ
  | some g, σ => gC58 l.1 l.2.1 l.2.2.1 g.1 g.2.1 g.2.2.1 g.2.2.2.1 g.2.2.2.2 σ
def rGo : Option GA → Sg → Prop
  | none, σ => rN σ
  | some g, σ => rG g.1 g.2.1 g.2.2.1 g.2.2.2.1 g.2.2.2.2 σ
def hG (q : Nat) (D : Nat → Int32) (ld : Int32) (C W : Nat → Int32) (m : Nat) (σ : Sg) : Prop := σ.1 152 q = 1 ∧ σ.1 154 q = ld ∧ σ.1 155 q = nI m ∧ (∀ p, p < 4 → σ.1 153 (4 * q + p) = D p) ∧ ∀ i, i < m → σ.1 156 (16 * q + i) = C i ∧ σ.1 157 (16 * q + i) = W i
def rH (q : Nat) : Option GA → Sg → Prop
  | none, σ => σ.1 152 q = 0
  | some g, σ => hG q g.1 g.2.1 g.2.2.1 g.2.2.2.1 g.2.2.2.2 σ
def C7 (A : AA) (σ : Sg) : Prop := lC A.1 σ ∧ cG22 A.1 A.2.1 σ ∧ cG46 A.1 A.2.2.1 σ ∧ cG58 A.1 A.2.2.2.1 σ ∧ σ.1 93 2 = nI A.2.2.2.2
def R7 (A : AA) (σ : Sg) : Prop := lR A.1 σ ∧ rGo A.2.1 σ ∧ rH 0 A.2.2.1 σ ∧ rH 1 A.2.2.2.1 σ ∧ σ.1 97 86 = nI A.2.2.2.2
def V7 (A : AA) : Prop := lV A.1 ∧ vG A.1 A.2.1 ∧ vG A.1 A.2.2.1 ∧ vG A.1 A.2.2.2.1 ∧ A.2.2.2.2 ≤ 8
/-- the class's cells, the reference's cells are as they were -/
def cS (σ σ' : Sg) : Prop := ∀ q, q < 97 → ([81, 82, 83, 84, 85, 86, 87, 88] : List Nat).contains q = false → ∀ j, σ'.1 q j = σ.1 q j
def mS (σ σ' : Sg) : Prop := ∀ q, 97 ≤ q → q < 158 → ∀ j, σ'.1 q j = σ.1 q j
theorem mS.refl (σ : Sg) : mS σ σ := fun _ _ _ _ => rfl
theorem cS.refl (σ : Sg) : cS σ σ := fun _ _ _ _ => rfl
theorem mS.trans {σ σ1 σ2 : Sg} (h : mS σ σ1) (h' : mS σ1 σ2) : mS σ σ2 := fun q a b j => (h' q a b j).trans (h q a b j)
theorem cS.trans {σ σ1 σ2 : Sg} (h : cS σ σ1) (h' : cS σ1 σ2) : cS σ σ2 := fun q a b j => (h' q a b j).trans (h q a b j)
theorem cS.put {σ σ1 : Sg} {q k : Nat} {x : Int32} (h : cS σ σ1) (hq : 97 ≤ q) : cS σ (s1 σ1 q k x) := fun q' a b j => by
  rw [s1_off (by omega)]
  exact h q' a b j
theorem exc.mS {E : List Nat} {σ σ' : Sg} (h : exc E σ σ') (hE : E.all (fun q => Nat.blt q 97) = true) : mS σ σ' := fun q a b j => h q b (by
  cases hc : E.contains q with
  | false => rfl
  | true =>
    have := List.all_eq_true.mp hE q (by simpa using hc)
    have := Nat.le_of_ble_eq_true this
    omega) j
theorem R7.ms {A : AA} {σ σ' : Sg} (h : R7 A σ) (hf : mS σ σ') : R7 A σ' := by
  obtain ⟨⟨lv, hl, hc, hk⟩, hg, h0, h1, hb⟩ := h
  have e : ∀ q, 97 ≤ q → q < 158 → ∀ j, σ'.1 q j = σ.1 q j := hf
  have hh : ∀ q o, rH q o σ → rH q o σ' := by
    intro q o h
    cases o with
    | none => exact (e 152 (by decide) (by decide) q).trans h
    | some g =>
      obtain ⟨a1, a2, a3, a4, a5⟩ := h
      exact ⟨(e 152 (by decide) (by decide) q).trans a1, (e 154 (by decide) (by decide) q).trans a2, (e 155 (by decide) (by decide) q).trans a3, fun p hp => (e 153 (by decide) (by decide) _).trans (a4 p hp), fun i hi => ⟨(e 156 (by decide) (by decide) _).trans (a5 i hi).1, (e 157 (by decide) (by decide) _).trans (a5 i hi).2⟩⟩
  refine ⟨⟨lv, ⟨hl.1, (e 97 (by decide) (by decide) 18).trans hl.2.1, (e 106 (by decide) (by decide) lv).trans hl.2.2.1, (e 107 (by decide) (by decide) lv).trans hl.2.2.2.1, ?_⟩, (e 109 (by decide) (by decide) lv).trans hc, fun k hk' => ⟨(e 110 (by decide) (by decide) _).trans (hk k hk').1, (e 111 (by decide) (by decide) _).trans (hk k hk').2⟩⟩, ?_, hh 0 _ h0, hh 1 _ h1, (e 97 (by decide) (by decide) 86).trans hb⟩
  · rw [e 106 (by decide) (by decide) lv, e 108 (by decide) (by decide) lv]; exact hl.2.2.2.2
  · revert hg
    cases A.2.1 with
    | none => exact fun hg => ⟨(e 97 (by decide) (by decide) 45).trans hg.1, (e 97 (by decide) (by decide) 48).trans hg.2⟩
    | some g => exact fun hg => ⟨(e 97 (by decide) (by decide) 45).trans hg.1, (e 97 (by decide) (by decide) 47).trans hg.2.1, (e 97 (by decide) (by decide) 48).trans hg.2.2.1, fun p hp => (e 125 (by decide) (by decide) p).trans (hg.2.2.2.1 p hp), fun i hi => ⟨(e 126 (by decide) (by decide) i).trans (hg.2.2.2.2 i hi).1, (e 127 (by decide) (by decide) i).trans (hg.2.2.2.2 i hi).2⟩⟩
theorem lC.fr {l : LA} {E : List Nat} {σ σ' : Sg} (h : lC l σ) (hf : exc E σ σ') (h3 : E.contains 3 = false) (h4 : E.contains 4 = false) (h5 : E.contains 5 = false) (h9 : E.contains 9 = false) (h10 : E.contains 10 = false) : lC l σ' :=
  ⟨h.1.fr hf h3 h9 h10, (hf 3 (by decide) h3 3).trans h.2.1, fun k hk => ⟨(hf 4 (by decide) h4 k).trans (h.2.2 k hk).1, (hf 5 (by decide) h5 k).trans (h.2.2 k hk).2⟩⟩
theorem cG22.fr {l : LA} {o : Option GA} {E : List Nat} {σ σ' : Sg} (h : cG22 l o σ) (hf : exc E σ σ') (hE : gO22 E = true) (h22 : E.contains 22 = false) : cG22 l o σ' := by
  cases o with
  | none => exact ⟨(hf 22 (by decide) h22 2).trans h.1, (hf 22 (by decide) h22 6).trans h.2.1, (hf 22 (by decide) h22 7).trans h.2.2⟩
  | some g => exact gD22.fr h hf hE
theorem cG46.fr {l : LA} {o : Option GA} {E : List Nat} {σ σ' : Sg} (h : cG46 l o σ) (hf : exc E σ σ') (hE : gO46 E = true) (h22 : E.contains 46 = false) : cG46 l o σ' := by
  cases o with
  | none => exact ⟨(hf 46 (by decide) h22 2).trans h.1, (hf 46 (by decide) h22 6).trans h.2.1, (hf 46 (by decide) h22 7).trans h.2.2⟩
  | some g => exact gD46.fr h hf hE
theorem cG58.fr {l : LA} {o : Option GA} {E : List Nat} {σ σ' : Sg} (h : cG58 l o σ) (hf : exc E σ σ') (hE : gO58 E = true) (h22 : E.contains 58 = false) : cG58 l o σ' := by
  cases o with
  | none => exact ⟨(hf 58 (by decide) h22 2).trans h.1, (hf 58 (by decide) h22 6).trans h.2.1, (hf 58 (by decide) h22 7).trans h.2.2⟩
  | some g => exact gD58.fr h hf hE
theorem cS.exc {σ σ' : Sg} (h : cS σ σ') : exc [81, 82, 83, 84, 85, 86, 87, 88, 97, 98, 99, 100, 101, 102, 103, 104, 105, 106, 107, 108, 109, 110, 111, 112, 113, 114, 115, 116, 117, 118, 119, 120, 121, 122, 123, 124, 125, 126, 127, 128, 129, 130, 131, 132, 133, 134, 135, 136, 137, 138, 139, 140, 141, 142, 143, 144, 145, 146, 147, 148, 149, 150, 151, 152, 153, 154, 155, 156, 157] σ σ' := by
  have key : ∀ q, q < 158 → ([81, 82, 83, 84, 85, 86, 87, 88, 97, 98, 99, 100, 101, 102, 103, 104, 105, 106, 107, 108, 109, 110, 111, 112, 113, 114, 115, 116, 117, 118, 119, 120, 121, 122, 123, 124, 125, 126, 127, 128, 129, 130, 131, 132, 133, 134, 135, 136, 137, 138, 139, 140, 141, 142, 143, 144, 145, 146, 147, 148, 149, 150, 151, 152, 153, 154, 155, 156, 157] : List Nat).contains q = false → q < 97 ∧ ([81, 82, 83, 84, 85, 86, 87, 88] : List Nat).contains q = false := by decide +kernel
  intro q hq hE j
  exact h q (key q hq hE).1 (key q hq hE).2 j
theorem C7.cs {A : AA} {σ σ' : Sg} (h : C7 A σ) (hf : cS σ σ') : C7 A σ' := by
  obtain ⟨h1, h2, h3, h4, h5⟩ := h
  exact ⟨h1.fr hf.exc rfl rfl rfl rfl rfl, h2.fr hf.exc rfl rfl, h3.fr hf.exc rfl rfl, h4.fr hf.exc rfl rfl, (hf 93 (by decide) (by decide) 2).trans h5⟩
/-- the game changes, all else stays -/
def upG (A : AA) (g : Option GA) : AA := (A.1, g, A.2.2)
theorem C7.up {A : AA} {g : Option GA} {σ σ' : Sg} (h : C7 A σ) (hf : exc E22 σ σ') (hg : cG22 A.1 g σ') : C7 (upG A g) σ' := by
  obtain ⟨h1, h2, h3, h4, h5⟩ := h
  exact ⟨h1.fr hf rfl rfl rfl rfl rfl, hg, h3.fr hf rfl rfl, h4.fr hf rfl rfl, (hf 93 (by decide) rfl 2).trans h5⟩
theorem V7.up {A : AA} {g : Option GA} (h : V7 A) (hg : vG A.1 g) : V7 (upG A g) := ⟨h.1, hg, h.2.2⟩
