/-! the reference runs a program -/
def rkC (k : Nat) : Nat := if k = 3 then 0 else if k = 27 then 1 else k - 3
def cgX (σ : Sg) : Nat → Cd → Prop
  | _, [] => True
  | a, e :: p => (σ.1 120 a = nI (rkC e.1) ∧ ((e.1 = 3 ∨ e.1 = 27) → σ.1 121 a = e.2)) ∧ cgX σ (a + 1) p
theorem cgX.fr {σ σ' : Sg} : ∀ {p : Cd} {a : Nat}, cgX σ a p → (∀ j, a ≤ j → j < a + p.length → σ'.1 120 j = σ.1 120 j ∧ σ'.1 121 j = σ.1 121 j) → cgX σ' a p := by
  intro p
  induction p with
  | nil => intro a _ _; trivial
  | cons e p ih =>
    intro a hs h
    have hl : (e :: p).length = p.length + 1 := rfl
    obtain ⟨k1, k2⟩ := h a (Nat.le_refl a) (by omega)
    exact ⟨⟨k1.trans hs.1.1, fun q => k2.trans (hs.1.2 q)⟩, ih hs.2 (fun j j1 j2 => h j (by omega) (by omega))⟩
/-- what a question of the judge may change: its pile, its flag -/
def jR (σ σ' : Sg) : Prop := (∀ q j, ¬ q = 124 → ¬ (q = 97 ∧ j = 44) → σ'.1 q j = σ.1 q j) ∧ σ'.2 = σ.2
theorem jR.refl (σ : Sg) : jR σ σ := ⟨fun _ _ _ _ => rfl, rfl⟩
theorem jR.trans {σ σ1 σ2 : Sg} (h : jR σ σ1) (h' : jR σ1 σ2) : jR σ σ2 := ⟨fun q j a b => (h'.1 q j a b).trans (h.1 q j a b), h'.2.trans h.2⟩
theorem jR.put {σ σ1 : Sg} {k : Nat} {x : Int32} (h : jR σ σ1) : jR σ (s1 σ1 124 k x) := ⟨fun q j a b => by rw [s1_off (fun e => a e.1)]; exact h.1 q j a b, h.2⟩
theorem jR.flag {σ σ1 : Sg} {x : Int32} (h : jR σ σ1) : jR σ (s1 σ1 97 44 x) := ⟨fun q j a b => by rw [s1_off b]; exact h.1 q j a b, h.2⟩
theorem cgX.jr {σ σ' : Sg} {p : Cd} {a : Nat} (h : cgX σ a p) (hj : jR σ σ') : cgX σ' a p := h.fr (fun j _ _ => ⟨hj.1 120 j (by decide) (by omega), hj.1 121 j (by decide) (by omega)⟩)
def teQ (σ : Sg) (r : List Int32 × Bool) (v : Option Value) (σ' : Sg) : Prop := jR σ σ' ∧ (r.2 = true → σ'.1 97 44 = 1) ∧ (r.2 = false → σ'.1 97 44 = 0 ∧ v = some (.int (hdX r.1)))
theorem rn_true {V : Nat → Int32} {L : Nat} {c : Cd} {st : List Int32} {h' : Nat} (hc : aX c) (a : hX L c st.length = some h') : (rnX V c (st, true)).2 = true := by
  have := (rn_base (V := V) c st [] true false h' hc a).1
  rw [List.append_nil] at this
  have e : (true || false) = true := rfl
  rw [e] at this
  rw [this]
  rfl
theorem te_loop {σ : Sg} {d : Nat} : ∀ (n : Nat) (p : Cd) (a : Nat) (st : List Int32) (σ' : Sg), cgX σ' a p → a + p.length ≤ 840 → aX p → hX 20 p st.length = some 1 → st.length ≤ 20 → skX 124 σ' st → jR σ σ' → σ'.1 97 44 = 0 → Pl PRG n d 206 10 [(0, .ref 97), (2, .int (nI (a + p.length))), (3, .int (nI st.length)), (4, .int (nI a))] [] σ' (teQ σ (rnX (fun i => σ.1 123 i) p (st, false))) := by
  intro n
  induction n using Nat.strongRecOn with
  | _ n ih =>
    intro p a st σ' hs hl ha hh h20 hk hf h44
    refine Pl.pos (fun n1 h1 => p_206_10 σ' (nI (a + p.length)) (nI st.length) (nI a) ?_)
    cases p with
    | nil =>
      have hst : st.length = 1 := by
        have : some st.length = some 1 := hh
        exact Option.some.inj this
      refine ⟨fun _ => ⟨hf, fun e => (by cases e), fun _ => ⟨h44, ?_⟩⟩, fun c => absurd ((nI_leI (by have : ([] : Cd).length = 0 := rfl; omega) (by omega)).mpr (Nat.le_refl a)) c⟩
      have e1 := len1 hst
      show some (Value.int (σ'.1 124 0)) = some (Value.int (hdX st))
      rw [e1] at hk
      rw [show σ'.1 124 0 = hdX st from hk.1]
    | cons e p =>
      have hl' : a + (p.length + 1) ≤ 840 := hl
      have elen : a + (e :: p).length = a + 1 + p.length := by show a + (p.length + 1) = _; omega
      obtain ⟨⟨he, he2⟩, hs⟩ := hs
      have hae := ha e List.mem_cons_self
      have hap : aX p := fun x hx => ha x (List.mem_cons_of_mem _ hx)
      have hh2 : (match h1X 20 e st.length with
        | none => none
        | some h' => hX 20 p h') = some 1 := hh
      cases e1 : h1X 20 e st.length with
      | none => rw [e1] at hh2; cases hh2
      | some g =>
      rw [e1] at hh2
      have hp : hX 20 p g = some 1 := hh2
      obtain ⟨-, s1n⟩ := st_num e1
      have hcs := h1_cases e1
      refine ⟨fun c => absurd ((nI_leI (by omega) (by omega)).mp c) (by rw [elen]; omega), fun _ _ => ?_⟩
      rw [nI_clamp (by omega), he]
      have go : ∀ (m : Nat), m < n → ∀ (x : Int32) (st2 : List Int32), skX 124 σ' st2 → st2.length < 20 → exX (fun i => σ.1 123 i) (st, false) e = (x :: st2, false) → Pl PRG m d 206 164 [(0, .ref 97), (2, .int (nI (a + (e :: p).length))), (3, .int (nI (st2.length + 1))), (4, .int (nI a))] [] (s1 σ' 124 st2.length x) (teQ σ (rnX (fun i => σ.1 123 i) (e :: p) (st, false))) := by
        intro m hm x st2 hk2 hl2 hx
        refine Pl.pos (fun m1 hm1 => p_206_164 _ _ _ _ ?_)
        rw [nI_1, elen]
        have lg : (x :: st2).length = g := by
          have := ex_len (V := fun i => σ.1 123 i) (s := (st, false)) e1
          rw [hx] at this
          exact this
        have := ih m1 (by omega) p (a + 1) (x :: st2) (s1 σ' 124 st2.length x) (hs.jr (jR.refl σ').put) (by omega) hap (by rw [lg]; exact hp) (by show st2.length + 1 ≤ 20; omega) ⟨s1_on, hk2.put (Nat.le_refl _)⟩ hf.put (by rw [s1_off (by omega)]; exact h44)
        show Pl PRG m1 d 206 10 _ [] _ (teQ σ (rnX (fun i => σ.1 123 i) p (exX (fun i => σ.1 123 i) (st, false) e)))
        rw [hx]
        exact this
      have rk3 : ∀ k, (k = 3 ∨ k = 27) → ¬ (2 : Int32) ≤ nI (rkC k) := by
        intro k hk
        rcases hk with rfl | rfl <;> decide
      by_cases c3 : e.1 = 3 ∨ e.1 = 27
      · obtain ⟨n1', k, hk1, hk2, hk3⟩ := s1n c3
        have h64 : st.length < 20 := by
          rcases hcs with q | q | q | q <;> omega
        refine ⟨fun c => absurd c (rk3 _ c3), fun _ => ⟨fun c _ _ => ?_, fun c _ _ _ => ?_⟩⟩
        · have e3 : e.1 = 3 := by
            rcases c3 with c3 | c3
            · exact c3
            · rw [c3] at c; exact absurd c (by decide)
          rw [nI_clamp (by omega), he2 (Or.inl e3), nI_1]
          exact go n1 (by omega) e.2 st hk h64 (by
            obtain ⟨k', x'⟩ := e
            obtain rfl : k' = 3 := e3
            rfl)
        · have e27 : e.1 = 27 := by
            rcases c3 with c3 | c3
            · rw [c3] at c; exact absurd (by decide) c
            · exact c3
          rw [nI_clamp (by omega), he2 (Or.inr e27), nI_1, hf.1 123 _ (by decide) (by omega)]
          exact go n1 (by omega) _ st hk h64 (by
            obtain ⟨k', x'⟩ := e
            obtain rfl : k' = 27 := e27
            rfl)
      · have hop : 5 ≤ e.1 ∧ e.1 ≤ 8 := by
          rcases hae with q | q | q
          · exact absurd (Or.inl q) c3
          · exact absurd (Or.inr q) c3
          · exact q
        have rk : rkC e.1 = e.1 - 3 := by
          unfold rkC
          rw [if_neg (by omega), if_neg (by omega)]
        rw [rk]
        have ek : ∀ j, j < 100 → (nI (e.1 - 3) = nI j ↔ e.1 - 3 = j) := fun j hj => nI_eq (by omega) (by omega)
        refine ⟨fun _ _ _ => ?_, fun c => absurd ((nI_leI (a := 2) (b := e.1 - 3) (by decide) (by omega)).mpr (by omega)) c⟩
        cases st with
        | nil =>
          exfalso
          have l0 : ([] : List Int32).length = 0 := rfl
          rw [l0] at hcs
          omega
        | cons b st1 =>
          cases st1 with
          | nil =>
            exfalso
            have l0 : ([b] : List Int32).length = 1 := rfl
            rw [l0] at hcs
            omega
          | cons a2 st2 =>
            have hb20 : st2.length + 1 + 1 ≤ 20 := h20
            have f1 : nI (b :: a2 :: st2).length + (-1 : Int32) = nI (st2.length + 1) := by
              rw [show nI (b :: a2 :: st2).length = nI (st2.length + 1 + 1) from rfl, ← nI_1 (st2.length + 1), Int32.add_assoc, show (1 : Int32) + (-1 : Int32) = 0 by decide, Int32.add_zero]
            have f2 : nI (st2.length + 1) - (1 : Int32) = nI st2.length := tp_s _
            rw [f1, f2, nI_clamp (by omega), nI_clamp (by omega), show σ'.1 124 (st2.length + 1) = b from hk.1, show σ'.1 124 st2.length = a2 from hk.2.1]
            have op : ∀ k, 5 ≤ k ∧ k ≤ 8 → e.1 = k → exX (fun i => σ.1 123 i) (b :: a2 :: st2, false) e = (opX k a2 b :: st2, (decide (k = 8) && decide (b = 0))) := fun k hk' hek => by
              obtain ⟨k', x'⟩ := e
              obtain rfl : k' = k := hek
              exact ex_op hk'
            have at109 : ∀ (m : Nat), m < n → (e.1 = 8 → ¬ b = 0) → Pl PRG m d 206 109 [(0, .ref 97), (2, .int (nI (a + (e :: p).length))), (3, .int (nI (st2.length + 1))), (4, .int (nI a)), (5, .int (nI (e.1 - 3))), (6, .int a2), (7, .int b)] [] σ' (teQ σ (rnX (fun i => σ.1 123 i) (e :: p) (b :: a2 :: st2, false))) := by
              intro m hm h8
              refine Pl.pos (fun m1 hm1 => p_206_109 _ _ _ _ _ _ _ ?_)
              rw [f2, nI_clamp (by omega)]
              refine ⟨fun c _ => ?_, fun c => ⟨fun c2 _ => ?_, fun c2 => ⟨fun c4 _ => ?_, fun c4 cb _ => ?_⟩⟩⟩
              · have e5 : e.1 = 5 := by have := (ek 2 (by decide)).mp c; omega
                exact go m1 (by omega) (a2 + b) st2 hk.2.2 (by omega) (op 5 (by decide) e5)
              · have e6 : e.1 = 6 := by have := (ek 3 (by decide)).mp c2; omega
                exact go m1 (by omega) (a2 - b) st2 hk.2.2 (by omega) (op 6 (by decide) e6)
              · have e7 : e.1 = 7 := by have := (ek 4 (by decide)).mp c4; omega
                exact go m1 (by omega) (a2 * b) st2 hk.2.2 (by omega) (op 7 (by decide) e7)
              · have e8 : e.1 = 8 := by
                  have q5 : ¬ e.1 - 3 = 2 := fun q => c ((ek 2 (by decide)).mpr q)
                  have q6 : ¬ e.1 - 3 = 3 := fun q => c2 ((ek 3 (by decide)).mpr q)
                  have q7 : ¬ e.1 - 3 = 4 := fun q => c4 ((ek 4 (by decide)).mpr q)
                  omega
                have := op 8 (by decide) e8
                rw [show opX 8 a2 b = a2 / b from if_neg cb, decide_eq_false cb] at this
                exact go m1 (by omega) (a2 / b) st2 hk.2.2 (by omega) this
            refine ⟨fun c => ⟨fun c0 => ?_, fun c0 => at109 n1 (by omega) (fun _ => c0)⟩, fun c => at109 n1 (by omega) (fun q => absurd ((ek 5 (by decide)).mpr (by omega)) c)⟩
            have e8 : e.1 = 8 := by have := (ek 5 (by decide)).mp c; omega
            have q := op 8 (by decide) e8
            rw [decide_eq_true c0] at q
            have lg : (opX 8 a2 b :: st2).length = g := by
              have := ex_len (V := fun i => σ.1 123 i) (s := (b :: a2 :: st2, false)) e1
              rw [q] at this
              exact this
            have tr : (rnX (fun i => σ.1 123 i) (e :: p) (b :: a2 :: st2, false)).2 = true := by
              show (rnX (fun i => σ.1 123 i) p (exX (fun i => σ.1 123 i) (b :: a2 :: st2, false) e)).2 = true
              rw [q]
              exact rn_true (L := 20) (h' := 1) hap (by rw [lg]; exact hp)
            exact ⟨hf.flag, fun _ => s1_on, fun z => by rw [tr] at z; cases z⟩
theorem rc206 {n a b : Nat} {c : Cd} {w : Int32} {σ σ1 : Sg} (h : RCx PRG n 206 [.ref 97, .int (nI a), .int (nI b)] σ (some (.int w)) σ1) (hb : b = a + c.length) (hc : cgX σ a c) (hl : b ≤ 840) (ha : aX c) (hh : hX 20 c 0 = some 1) : jR σ σ1 ∧ ((rnX (fun i => σ.1 123 i) c ([], false)).2 = true → σ1.1 97 44 = 1) ∧ ((rnX (fun i => σ.1 123 i) c ([], false)).2 = false → σ1.1 97 44 = 0 ∧ w = hdX (rnX (fun i => σ.1 123 i) c ([], false)).1) := by
  subst hb
  obtain ⟨k1, k2, k3⟩ := h.by (Q := teQ σ (rnX (fun i => σ.1 123 i) c ([], false))) (fun m d => p_206_0 σ (nI a) (nI (a + c.length)) (by
    exact te_loop m c a [] _ (hc.jr (jR.refl σ).flag) hl ha hh (by decide) trivial (jR.refl σ).flag s1_on))
  refine ⟨k1, k2, fun z => ?_⟩
  obtain ⟨q1, q2⟩ := k3 z
  cases q2
  exact ⟨q1, rfl⟩
/-- where a literal stands -/
def ltR (σ : Sg) (i : Nat) (l : Lt) : Prop := ∃ a, a + l.2.2.2.1.length + l.2.2.2.2.length ≤ 840 ∧ σ.1 117 i = nI a ∧ σ.1 118 i = nI (a + l.2.2.2.1.length) ∧ σ.1 119 i = nI (a + l.2.2.2.1.length + l.2.2.2.2.length) ∧ cgX σ a l.2.2.2.1 ∧ cgX σ (a + l.2.2.2.1.length) l.2.2.2.2 ∧ σ.1 114 i = nI (l.2.2.1 - 9) ∧ σ.1 115 i = b2i l.2.1 ∧ σ.1 116 i = b2i l.1
theorem ltR.jr {σ σ' : Sg} {i : Nat} {l : Lt} (h : ltR σ i l) (hj : jR σ σ') : ltR σ' i l := by
  obtain ⟨a, h1, h2, h3, h4, h5, h6, h7, h8, h9⟩ := h
  have e : ∀ q, ¬ q = 124 → ¬ q = 97 → σ'.1 q i = σ.1 q i := fun q a b => hj.1 q i a (fun e => b e.1)
  exact ⟨a, h1, (e 117 (by decide) (by decide)).trans h2, (e 118 (by decide) (by decide)).trans h3, (e 119 (by decide) (by decide)).trans h4, h5.jr hj, h6.jr hj, (e 114 (by decide) (by decide)).trans h7, (e 115 (by decide) (by decide)).trans h8, (e 116 (by decide) (by decide)).trans h9⟩
theorem b2i_1 {z : Bool} : (1 : Int32) = b2i z ↔ z = true := by cases z <;> decide
theorem b2i_z {z : Bool} : (0 : Int32) = b2i z ↔ z = false := by cases z <;> decide
theorem rc207 {n i : Nat} {l : Lt} {w : Int32} {σ σ1 : Sg} (h : RCx PRG n 207 [.ref 97, .int (nI i)] σ (some (.int w)) σ1) (hi : i < 300) (hl : ltR σ i l) (hg : gLt l) : jR σ σ1 ∧ w = b2i (ltX (fun i => σ.1 123 i) l) := by
  obtain ⟨a, h1, h2, h3, h4, h5, h6, h7, h8, h9⟩ := hl
  obtain ⟨⟨g1, g2⟩, ⟨g3, g4⟩, g5, g6⟩ := hg
  have rel9 : ∀ k, k < 4 → (nI (l.2.2.1 - 9) = nI k ↔ l.2.2.1 - 9 = k) := fun k hk => nI_eq (by omega) (by omega)
  obtain ⟨k1, k2⟩ := h.by (Q := fun v σ' => jR σ σ' ∧ v = some (.int (b2i (ltX (fun i => σ.1 123 i) l)))) (fun m d => p_207_0 σ (nI i) (fun _ _ w2 σ1 hw2 => by
    rw [nI_clamp (by omega), h2, h3] at hw2
    rw [nI_clamp (by omega)]
    obtain ⟨a1, a2, a3⟩ := rc206 hw2 rfl h5 (by omega) g2 g1
    intro _ _ w4 σ3 hw4
    rw [a1.1 118 _ (by decide) (by omega), a1.1 119 _ (by decide) (by omega), h3, h4] at hw4
    obtain ⟨b1, b2, b3⟩ := rc206 hw4 rfl (h6.jr a1) (by omega) g4 g3
    have V1 : (fun i => σ1.1 123 i) = fun i => σ.1 123 i := funext (fun i => a1.1 123 i (by decide) (by omega))
    rw [V1] at b2 b3
    have J := a1.trans b1
    have q14 : σ3.1 114 i = nI (l.2.2.1 - 9) := (J.1 114 i (by decide) (by omega)).trans h7
    have q15 : σ3.1 115 i = b2i l.2.1 := (J.1 115 i (by decide) (by omega)).trans h8
    have at154 : ∀ m2, ((!((rnX (fun i => σ.1 123 i) l.2.2.2.1 ([], false)).2 || (rnX (fun i => σ.1 123 i) l.2.2.2.2 ([], false)).2) && cmO l.2.2.1 (hdX (rnX (fun i => σ.1 123 i) l.2.2.2.1 ([], false)).1) (hdX (rnX (fun i => σ.1 123 i) l.2.2.2.2 ([], false)).1)) = false) → Pl PRG m2 d 207 154 [(0, .ref 97), (1, .int (nI i))] [] σ3 (fun v σ' => jR σ σ' ∧ v = some (.int (b2i (ltX (fun i => σ.1 123 i) l)))) := fun m2 hz => Pl.pos (fun m3 _ => p_207_154 σ3 (nI i) (fun _ => by
      rw [nI_clamp (by omega), q15]
      unfold ltX
      rw [hz]
      refine ⟨fun c => ⟨J, ?_⟩, fun c => ⟨J, ?_⟩⟩
      · rw [b2i_z.mp c]; rfl
      · cases hl : l.2.1 with
        | false => rw [hl] at c; exact absurd (by decide) c
        | true => rfl))
    have broken : ((rnX (fun i => σ.1 123 i) l.2.2.2.1 ([], false)).2 || (rnX (fun i => σ.1 123 i) l.2.2.2.2 ([], false)).2) = true → Pl PRG m d 207 51 [(0, .ref 97), (1, .int (nI i)), (2, .int w2), (4, .int w4)] [] σ3 (fun v σ' => jR σ σ' ∧ v = some (.int (b2i (ltX (fun i => σ.1 123 i) l)))) := fun hz => Pl.pos (fun m2 _ => p_207_51 σ3 (nI i) w2 w4 (by
      have z : ∀ b, (!((rnX (fun i => σ.1 123 i) l.2.2.2.1 ([], false)).2 || (rnX (fun i => σ.1 123 i) l.2.2.2.2 ([], false)).2) && b) = false := fun b => by rw [hz]; rfl
      have e := fun m2 => at154 m2 (z _)
      exact fun _ => ⟨fun _ => ⟨fun _ => e m2, fun _ => e m2⟩, fun _ _ => ⟨fun _ => ⟨fun _ => e m2, fun _ => e m2⟩, fun _ _ => ⟨fun _ => ⟨fun _ => e m2, fun _ => e m2⟩, fun _ => ⟨fun _ => e m2, fun _ => e m2⟩⟩⟩⟩))
    cases z1 : (rnX (fun i => σ.1 123 i) l.2.2.2.1 ([], false)).2 with
    | true =>
      have e44 := a2 z1
      refine ⟨fun c => by rw [e44] at c; exact absurd c (by decide), fun _ => broken (by rw [z1]; rfl)⟩
    | false =>
      obtain ⟨a44, aw⟩ := a3 z1
      refine ⟨fun _ => ?_, fun c => absurd a44 c⟩
      cases z2 : (rnX (fun i => σ.1 123 i) l.2.2.2.2 ([], false)).2 with
      | true =>
        have e44 := b2 z2
        refine ⟨fun c => by rw [e44] at c; exact absurd c (by decide), fun _ => broken (by rw [z2, Bool.or_true])⟩
      | false =>
        obtain ⟨b44, bw⟩ := b3 z2
        refine ⟨fun _ _ => ?_, fun c => absurd b44 c⟩
        rw [← aw, ← bw, z1, z2] at at154
        rw [q14, q15]
        have good : ∀ r, cmO l.2.2.1 w2 w4 = r → r = true → ((inR (nI i) 300 = true → (((1 : Int32) = b2i l.2.1 → jR σ σ3 ∧ some (Value.int (0 : Int32)) = some (Value.int (b2i (ltX (fun i => σ.1 123 i) l)))) ∧ (¬ (1 : Int32) = b2i l.2.1 → jR σ σ3 ∧ some (Value.int (1 : Int32)) = some (Value.int (b2i (ltX (fun i => σ.1 123 i) l))))))) := by
          intro r hr hr2 _
          have el : ltX (fun i => σ.1 123 i) l = (true ^^ l.2.1) := by
            unfold ltX
            rw [z1, z2, ← aw, ← bw, hr, hr2]
            rfl
          rw [el]
          refine ⟨fun c => ⟨J, ?_⟩, fun c => ⟨J, ?_⟩⟩
          · rw [b2i_1.mp c]; rfl
          · cases hl : l.2.1 with
            | true => rw [hl] at c; exact absurd (by decide) c
            | false => rfl
        have bad : ∀ m2, cmO l.2.2.1 w2 w4 = false → Pl PRG m2 d 207 154 [(0, .ref 97), (1, .int (nI i))] [] σ3 (fun v σ' => jR σ σ' ∧ v = some (.int (b2i (ltX (fun i => σ.1 123 i) l)))) := fun m2 hr => at154 m2 (by rw [hr]; rfl)
        refine ⟨fun c0 => ?_, fun c0 _ => ⟨fun c1 => ?_, fun c1 _ => ⟨fun c2 => ?_, fun c2 => ?_⟩⟩⟩
        · have e9 : l.2.2.1 = 9 := by have := (rel9 0 (by decide)).mp c0; omega
          have cm : cmO l.2.2.1 w2 w4 = decide (w2 = w4) := by rw [e9]; rfl
          exact ⟨fun c => good _ cm (decide_eq_true c), fun c => bad m (by rw [cm]; exact decide_eq_false c)⟩
        · have e9 : l.2.2.1 = 10 := by have := (rel9 1 (by decide)).mp c1; omega
          have cm : cmO l.2.2.1 w2 w4 = !(decide (w2 = w4)) := by rw [e9]; rfl
          exact ⟨fun c => bad m (by rw [cm, decide_eq_true c]; rfl), fun c => good _ cm (by rw [decide_eq_false c]; rfl)⟩
        · have e9 : l.2.2.1 = 11 := by have := (rel9 2 (by decide)).mp c2; omega
          have cm : cmO l.2.2.1 w2 w4 = decide (w2 < w4) := by rw [e9]; rfl
          refine ⟨fun c => bad m (by rw [cm]; exact decide_eq_false (fun h => by rw [Int32.lt_iff_toInt_lt] at h; rw [Int32.le_iff_toInt_le] at c; omega)), fun c => good _ cm (decide_eq_true (by rw [Int32.lt_iff_toInt_lt]; rw [Int32.le_iff_toInt_le] at c; omega))⟩
        · have e9 : l.2.2.1 = 12 := by
            have q0 : ¬ l.2.2.1 - 9 = 0 := fun q => c0 ((rel9 0 (by decide)).mpr q)
            have q1 : ¬ l.2.2.1 - 9 = 1 := fun q => c1 ((rel9 1 (by decide)).mpr q)
            have q2 : ¬ l.2.2.1 - 9 = 2 := fun q => c2 ((rel9 2 (by decide)).mpr q)
            omega
          have cm : cmO l.2.2.1 w2 w4 = decide (w2 ≤ w4) := by rw [e9]; rfl
          refine ⟨fun c => bad m (by rw [cm]; exact decide_eq_false (fun h => by rw [Int32.lt_iff_toInt_lt] at c; rw [Int32.le_iff_toInt_le] at h; omega)), fun c => good _ cm (decide_eq_true (by rw [Int32.le_iff_toInt_le]; rw [Int32.lt_iff_toInt_lt] at c; omega))⟩))
  cases k2
  exact ⟨k1, rfl⟩
def lsR (σ : Sg) : Nat → List Lt → Prop
  | _, [] => True
  | i, l :: ls => ltR σ i l ∧ lsR σ (i + 1) ls
theorem lsR.jr {σ σ' : Sg} (hj : jR σ σ') : ∀ {ls : List Lt} {i : Nat}, lsR σ i ls → lsR σ' i ls := by
  intro ls
  induction ls with
  | nil => intro i _; trivial
  | cons l ls ih => intro i h; exact ⟨h.1.jr hj, ih h.2⟩
theorem ru_loop {σ : Sg} {d r e : Nat} (hr : r < 24) (he : e ≤ 300) : ∀ (n : Nat) (ls : List Lt) (i : Nat) (all : Bool) (σ' : Sg), lsR σ' i ls → e = i + ls.length → (∀ l ∈ ls, gLt l) → jR σ σ' → σ'.1 113 r = nI e → Pl PRG n d 208 9 [(0, .ref 97), (1, .int (nI r)), (2, .int (b2i all)), (3, .int (nI i))] [] σ' (fun v σ' => jR σ σ' ∧ v = some (.int (b2i (ruX (fun i => σ.1 123 i) all ls)))) := by
  intro n
  induction n using Nat.strongRecOn with
  | _ n ih =>
    intro ls i all σ' hs hl hg hf h13
    refine Pl.pos (fun n1 h1 => p_208_9 σ' (nI r) (b2i all) (nI i) (fun _ => ?_))
    rw [nI_clamp (by omega), h13]
    cases ls with
    | nil =>
      have : e = i := hl
      exact ⟨fun _ _ => ⟨hf, rfl⟩, fun c => absurd ((nI_leI (by omega) (by omega)).mpr (by omega)) c⟩
    | cons l ls =>
      have hl' : e = i + (ls.length + 1) := hl
      obtain ⟨hs1, hs2⟩ := hs
      have hg1 := hg l List.mem_cons_self
      have hg2 : ∀ l ∈ ls, gLt l := fun x hx => hg x (List.mem_cons_of_mem _ hx)
      have h16 : σ'.1 116 i = b2i l.1 := by
        obtain ⟨-, -, -, -, -, -, -, -, -, h16⟩ := hs1
        exact h16
      refine ⟨fun c => absurd ((nI_leI (by omega) (by omega)).mp c) (by omega), fun _ _ => ?_⟩
      rw [nI_clamp (by omega), h16]
      have V1 : (fun i => σ'.1 123 i) = fun i => σ.1 123 i := funext (fun i => hf.1 123 i (by decide) (by omega))
      have u : ruX (fun i => σ.1 123 i) all (l :: ls) = if l.1 = true then (if all = true then true else ruX (fun i => σ.1 123 i) (ltX (fun i => σ.1 123 i) l) ls) else ruX (fun i => σ.1 123 i) (all && ltX (fun i => σ.1 123 i) l) ls := rfl
      have at9 : ∀ (m : Nat), m < n → ∀ (a2 : Bool) (σ2 : Sg), jR σ' σ2 → ruX (fun i => σ.1 123 i) a2 ls = ruX (fun i => σ.1 123 i) all (l :: ls) → Pl PRG m d 208 9 [(0, .ref 97), (1, .int (nI r)), (2, .int (b2i a2)), (3, .int (nI (i + 1)))] [] σ2 (fun v σ' => jR σ σ' ∧ v = some (.int (b2i (ruX (fun i => σ.1 123 i) all (l :: ls))))) := fun m hm a2 σ2 hj hu => by
        have := ih m hm ls (i + 1) a2 σ2 (hs2.jr hj) (by omega) hg2 (hf.trans hj) ((hj.1 113 r (by decide) (by omega)).trans h13)
        rw [hu] at this
        exact this
      have at61 : ∀ (m : Nat), m ≤ n → ∀ (σ2 : Sg), jR σ' σ2 → ruX (fun i => σ.1 123 i) false ls = ruX (fun i => σ.1 123 i) all (l :: ls) → Pl PRG m d 208 61 [(0, .ref 97), (1, .int (nI r)), (3, .int (nI i))] [] σ2 (fun v σ' => jR σ σ' ∧ v = some (.int (b2i (ruX (fun i => σ.1 123 i) all (l :: ls))))) := fun m hm σ2 hj hu => Pl.pos (fun m1 hm1 => p_208_61 σ2 (nI r) (nI i) (by
        rw [nI_1]
        exact at9 m1 (by omega) false σ2 hj hu))
      have at45 : ∀ (m : Nat), m ≤ n → ∀ (a1 : Bool), ruX (fun i => σ.1 123 i) (a1 && ltX (fun i => σ.1 123 i) l) ls = ruX (fun i => σ.1 123 i) all (l :: ls) → Pl PRG m d 208 45 [(0, .ref 97), (1, .int (nI r)), (2, .int (b2i a1)), (3, .int (nI i))] [] σ' (fun v σ' => jR σ σ' ∧ v = some (.int (b2i (ruX (fun i => σ.1 123 i) all (l :: ls))))) := by
        intro m hm a1 hu
        refine Pl.pos (fun m1 hm1 => p_208_45 σ' (nI r) (b2i a1) (nI i) ⟨fun c => ?_, fun c w2 σ2 h2 _ => ?_⟩)
        · rw [b2i_0.mp c, Bool.false_and] at hu
          exact at61 m1 (by omega) σ' (jR.refl σ') hu
        · have a1t : a1 = true := by
            cases hl : a1 with
            | true => rfl
            | false => rw [hl] at c; exact absurd rfl c
          obtain ⟨k1, k2⟩ := rc207 h2 (by omega) hs1 hg1
          rw [V1] at k2
          rw [a1t, Bool.true_and] at hu
          refine ⟨fun z => ?_, fun z => ?_⟩
          · rw [k2] at z
            rw [b2i_0.mp z] at hu
            exact at61 m1 (by omega) σ2 k1 hu
          · have lt : ltX (fun i => σ.1 123 i) l = true := by
              cases hl : ltX (fun i => σ.1 123 i) l with
              | true => rfl
              | false => rw [k2, hl] at z; exact absurd rfl z
            rw [lt] at hu
            rw [nI_1]
            exact at9 m1 (by omega) true σ2 k1 hu
      have h34 : ∀ (m : Nat), m ≤ n → (l.1 = true → all = false) → Pl PRG m d 208 34 [(0, .ref 97), (1, .int (nI r)), (2, .int (b2i all)), (3, .int (nI i))] [] σ' (fun v σ' => jR σ σ' ∧ v = some (.int (b2i (ruX (fun i => σ.1 123 i) all (l :: ls))))) := fun m hm hal => Pl.pos (fun m1 hm1 => p_208_34 σ' (nI r) (b2i all) (nI i) (fun _ => by
        rw [nI_clamp (by omega), h16]
        refine ⟨fun c => at45 m1 (by omega) all ?_, fun c => at45 m1 (by omega) true ?_⟩
        · rw [u, b2i_0.mp c, if_neg (by decide)]
        · have lt : l.1 = true := by
            cases hl : l.1 with
            | true => rfl
            | false => rw [hl] at c; exact absurd rfl c
          rw [u, lt, if_pos rfl, hal lt, if_neg (by decide), Bool.true_and]))
      refine ⟨fun c => h34 n1 (by omega) (fun q => by rw [q] at c; exact absurd c (by decide)), fun c => ⟨fun c2 => h34 n1 (by omega) (fun _ => b2i_0.mp c2), fun c2 => ⟨hf, ?_⟩⟩⟩
      have lt : l.1 = true := by
        cases hl : l.1 with
        | true => rfl
        | false => rw [hl] at c; exact absurd rfl c
      have at_ : all = true := by
        cases hl : all with
        | true => rfl
        | false => rw [hl] at c2; exact absurd rfl c2
      rw [u, lt, if_pos rfl, at_, if_pos rfl]
      rfl
/-- where a part of a custom stands -/
def ruR (σ : Sg) (r : Nat) (ls : List Lt) : Prop := ∃ i, i + ls.length ≤ 300 ∧ σ.1 112 r = nI i ∧ σ.1 113 r = nI (i + ls.length) ∧ lsR σ i ls
theorem rc208 {n r : Nat} {ls : List Lt} {w : Int32} {σ σ1 : Sg} (h : RCx PRG n 208 [.ref 97, .int (nI r)] σ (some (.int w)) σ1) (hr : r < 24) (hl : ruR σ r ls) (hg : ∀ l ∈ ls, gLt l) : jR σ σ1 ∧ w = b2i (ruX (fun i => σ.1 123 i) false ls) := by
  obtain ⟨i, h1, h2, h3, h4⟩ := hl
  obtain ⟨k1, k2⟩ := h.by (Q := fun v σ' => jR σ σ' ∧ v = some (.int (b2i (ruX (fun i => σ.1 123 i) false ls)))) (fun m d => p_208_0 σ (nI r) (fun _ => by
    rw [nI_clamp (by omega), h2]
    exact ru_loop hr (e := i + ls.length) h1 m ls i false σ h4 rfl hg (jR.refl σ) h3))
  cases k2
  exact ⟨k1, rfl⟩
