/-! the judge of the class runs a program -/
def stX (e : Nat × Int32) : Int32 := nI e.1 ||| (e.2 <<< ((8 : Int32) &&& 31))
theorem st_3 : ∀ a, a < 100 → ∀ b, b < 100 → (((nI 3 ||| (nI (100 * a + b) <<< ((8 : Int32) &&& 31))) &&& (255 : Int32)) = nI 3 ∧ ((nI 3 ||| (nI (100 * a + b) <<< ((8 : Int32) &&& 31))) >>> ((8 : Int32) &&& 31)) = nI (100 * a + b)) := by decide +kernel
theorem st_27 : ∀ b, b < 14 → (((nI 27 ||| (nI b <<< ((8 : Int32) &&& 31))) &&& (255 : Int32)) = nI 27 ∧ ((nI 27 ||| (nI b <<< ((8 : Int32) &&& 31))) >>> ((8 : Int32) &&& 31)) = nI b) := by decide +kernel
theorem st_0 : ∀ k, k < 40 → (((nI k ||| ((0 : Int32) <<< ((8 : Int32) &&& 31))) &&& (255 : Int32)) = nI k) := by decide +kernel
theorem i_rgN {x : Int32} {N : Nat} (hN : N < 100000) (h0 : 0 ≤ x) (h1 : x < nI N) : ∃ m, m < N ∧ x = nI m := by
  rw [Int32.le_iff_toInt_le] at h0
  rw [Int32.lt_iff_toInt_lt, nI_toInt (by omega)] at h1
  have z : (0 : Int32).toInt = 0 := rfl
  exact ⟨x.toInt.toNat, by omega, i_nI (by omega) (by omega)⟩
theorem st_num {e : Nat × Int32} {L h h' : Nat} (a : h1X L e h = some h') : (stX e &&& (255 : Int32)) = nI e.1 ∧ ((e.1 = 3 ∨ e.1 = 27) → (stX e >>> ((8 : Int32) &&& 31)) = e.2 ∧ ∃ m, m < 10000 ∧ e.2 = nI m ∧ (e.1 = 27 → m < 14)) := by
  obtain ⟨k, x⟩ := e
  unfold h1X at a
  split at a
  · rename_i e3
    obtain rfl : k = 3 := e3
    split at a
    · rename_i c
      obtain ⟨m, hm, rfl⟩ := i_rgN (N := 10000) (by decide) c.2.1 c.2.2
      have := st_3 (m / 100) (by omega) (m % 100) (by omega)
      rw [Nat.div_add_mod] at this
      exact ⟨this.1, fun _ => ⟨this.2, m, hm, rfl, fun e => by simp at e⟩⟩
    · cases a
  · split at a
    · rename_i e27
      obtain rfl : k = 27 := e27
      split at a
      · rename_i c
        obtain ⟨m, hm, rfl⟩ := i_rgN (N := 14) (by decide) c.2.1 c.2.2
        have := st_27 m hm
        exact ⟨this.1, fun _ => ⟨this.2, m, by omega, rfl, fun _ => hm⟩⟩
      · cases a
    · rename_i n3 n27
      have hk : k < 40 ∧ x = 0 := by
        split at a
        · rename_i e25
          split at a
          · rename_i c
            exact ⟨by have : k = 25 := e25; omega, c.2⟩
          · cases a
        · split at a
          · rename_i c
            have c1 : x = 0 := c.1
            have c2 : (5 ≤ k ∧ k ≤ 12) ∨ k = 23 ∨ k = 24 := c.2
            exact ⟨by omega, c1⟩
          · cases a
      obtain ⟨h1, rfl⟩ := hk
      refine ⟨st_0 k h1, fun e => ?_⟩
      rcases e with e | e
      · exact absurd e n3
      · exact absurd e n27
def sgX (σ : Sg) : Nat → Cd → Prop
  | _, [] => True
  | a, e :: p => σ.1 8 a = stX e ∧ sgX σ (a + 1) p
theorem sgX.fr {σ σ' : Sg} (h : ∀ j, σ'.1 8 j = σ.1 8 j) : ∀ {p : Cd} {a : Nat}, sgX σ a p → sgX σ' a p := by
  intro p
  induction p with
  | nil => intro a _; trivial
  | cons e p ih => intro a hs; exact ⟨(h a).trans hs.1, ih hs.2⟩
def skX (q : Nat) (σ : Sg) : List Int32 → Prop
  | [] => True
  | x :: st => σ.1 q st.length = x ∧ skX q σ st
theorem skX.put {q : Nat} {σ : Sg} {k : Nat} {x : Int32} : ∀ {st : List Int32}, skX q σ st → st.length ≤ k → skX q (s1 σ q k x) st := by
  intro st
  induction st with
  | nil => intro _ _; trivial
  | cons y st ih =>
    intro h hk
    have hk' : st.length + 1 ≤ k := hk
    refine ⟨?_, ih h.2 (by omega)⟩
    rw [s1_off (by omega)]
    exact h.1
def tpX (h : Nat) : Int32 := nI h - 1
theorem tp_s (h : Nat) : tpX (h + 1) = nI h := by
  unfold tpX
  rw [← nI_1, Int32.add_sub_cancel]
theorem tp_0 : tpX 0 = -1 := by decide
theorem tp_up (h : Nat) : tpX h + 1 = nI h := by
  unfold tpX
  exact Int32.sub_add_cancel _ _
section Ex
variable {V : Nat → Int32} {k : Nat} {x a b : Int32} {st : List Int32} {z : Bool}
theorem ex_3 : exX V (st, z) (3, x) = (x :: st, z) := rfl
theorem ex_27 : exX V (st, z) (27, x) = (V x.toNatClampNeg :: st, z) := rfl
theorem ex_op (h : 5 ≤ k ∧ k ≤ 8) : exX V (b :: a :: st, z) (k, x) = (opX k a b :: st, z || (decide (k = 8) && decide (b = 0))) := by
  unfold exX
  rw [if_neg (by show ¬ k = 3; omega), if_neg (by show ¬ k = 27; omega)]
  show (if k = 25 then _ else _ : List Int32 × Bool) = _
  rw [if_neg (by omega)]
  show (if k ≤ 8 then _ else _ : List Int32 × Bool) = _
  rw [if_pos (by omega)]
theorem ex_rel (h : 9 ≤ k ∧ k ≤ 12) : exX V (b :: a :: st, z) (k, x) = (b2i (!z && cmO k a b) :: st, false) := by
  unfold exX
  rw [if_neg (by show ¬ k = 3; omega), if_neg (by show ¬ k = 27; omega)]
  show (if k = 25 then _ else _ : List Int32 × Bool) = _
  rw [if_neg (by omega)]
  show (if k ≤ 8 then _ else _ : List Int32 × Bool) = _
  rw [if_neg (by omega)]
  show (if k ≤ 12 then _ else _ : List Int32 × Bool) = _
  rw [if_pos (by omega)]
theorem ex_25 : exX V (b :: st, z) (25, x) = ((1 - b) :: st, z) := rfl
theorem ex_24 : exX V (b :: a :: st, z) (24, x) = ((a &&& b) :: st, z) := rfl
theorem ex_c23 : exX V (b :: a :: st, z) (23, x) = ((a ||| b) :: st, z) := rfl
end Ex
/-- what the stack says at the end -/
def reX : List Int32 → Bool
  | [] => true
  | x :: _ => !(decide (x = 0))
theorem b2i_0 {z : Bool} : b2i z = 0 ↔ z = false := by cases z <;> decide
theorem h1_cases {L : Nat} {e : Nat × Int32} {h h' : Nat} (a : h1X L e h = some h') : (e.1 = 3 ∧ h < L) ∨ (e.1 = 27 ∧ h < L) ∨ (e.1 = 25 ∧ 1 ≤ h) ∨ (((5 ≤ e.1 ∧ e.1 ≤ 12) ∨ e.1 = 23 ∨ e.1 = 24) ∧ 2 ≤ h) := by
  unfold h1X at a
  split at a
  · split at a
    · rename_i c d; exact Or.inl ⟨c, d.1⟩
    · cases a
  · split at a
    · split at a
      · rename_i c d; exact Or.inr (Or.inl ⟨c, d.1⟩)
      · cases a
    · split at a
      · split at a
        · rename_i c d; exact Or.inr (Or.inr (Or.inl ⟨c, d.1⟩))
        · cases a
      · split at a
        · split at a
          · rename_i c d; exact Or.inr (Or.inr (Or.inr ⟨c.2, d⟩))
          · cases a
        · cases a
def hoQ (σ : Sg) (r : Bool) (v : Option Value) (σ' : Sg) : Prop := v = some (.int (b2i r)) ∧ exc [14] σ σ' ∧ σ'.2 = σ.2
theorem ho_loop {σ : Sg} {d : Nat} : ∀ (n : Nat) (p : Cd) (a : Nat) (st : List Int32) (z : Bool) (σ' : Sg), sgX σ' a p → a + p.length ≤ 400 → (∃ h', hX 64 p st.length = some h') → st.length ≤ 64 → skX 14 σ' st → exc [14] σ σ' → σ'.2 = σ.2 → Pl PRG n d 12 35 [(0, .ref 12), (3, .int (tpX st.length)), (4, .int (b2i z)), (5, .int (nI (a + p.length))), (6, .int (nI a))] [] σ' (hoQ σ (reX (rnX (fun i => σ.1 13 i) p (st, z)).1)) := by
  intro n
  induction n using Nat.strongRecOn with
  | _ n ih =>
    intro p a st z σ' hs hl hh hk64 hk hf hf2
    refine Pl.pos (fun n1 h1 => p_12_35 σ' (tpX st.length) (b2i z) (nI (a + p.length)) (nI a) ?_)
    cases p with
    | nil =>
      refine ⟨fun _ => ?_, fun c => absurd ((nI_leI (by have : ([] : Cd).length = 0 := rfl; omega) (by omega)).mpr (Nat.le_refl a)) c⟩
      cases st with
      | nil =>
        refine ⟨fun _ => Pl.pos (fun n2 _ => p_12_519 σ' ⟨rfl, hf, hf2⟩), fun c => absurd (show tpX 0 < 0 by decide) c⟩
      | cons x st =>
        have e : tpX (x :: st).length = nI st.length := tp_s _
        have hx : st.length + 1 ≤ 64 := hk64
        rw [e]
        refine ⟨fun c => absurd c (nI_pos (by omega)), fun _ _ => ?_⟩
        rw [nI_clamp (by omega), hk.1]
        refine ⟨fun c => ⟨?_, hf, hf2⟩, fun c => Pl.pos (fun n2 _ => p_12_519 σ' ⟨?_, hf, hf2⟩)⟩
        · show some (Value.int 0) = some (Value.int (b2i (!(decide (x = 0)))))
          rw [decide_eq_true c]; rfl
        · show some (Value.int 1) = some (Value.int (b2i (!(decide (x = 0)))))
          rw [decide_eq_false c]; rfl
    | cons e p =>
      have hl' : a + (p.length + 1) ≤ 400 := hl
      have elen : a + (e :: p).length = a + 1 + p.length := by show a + (p.length + 1) = _; omega
      obtain ⟨he, hs⟩ := hs
      obtain ⟨h', hh⟩ := hh
      have hh2 : (match h1X 64 e st.length with
        | none => none
        | some h' => hX 64 p h') = some h' := hh
      cases e1 : h1X 64 e st.length with
      | none => rw [e1] at hh2; cases hh2
      | some g =>
      rw [e1] at hh2
      have hp : hX 64 p g = some h' := hh2
      obtain ⟨s1k, s1n⟩ := st_num e1
      have ek : ∀ j, j < 100 → e.1 < 40 → (nI e.1 = nI j ↔ e.1 = j) := fun j hj he => nI_eq (by omega) (by omega)
      have hcs := h1_cases e1
      have hk40 : e.1 < 40 := by omega
      have ekI : (nI e.1).toInt = e.1 := nI_toInt (by omega)
      refine ⟨fun c => absurd ((nI_leI (by omega) (by omega)).mp c) (by rw [elen]; omega), fun _ _ _ => ?_⟩
      rw [nI_clamp (by omega), he, s1k]
      -- the next step
      have go : ∀ (m : Nat), m < n → ∀ (x : Int32) (st2 : List Int32) (z2 : Bool), skX 14 σ' st2 → st2.length < 64 → exX (fun i => σ.1 13 i) (st, z) e = (x :: st2, z2) → Pl PRG m d 12 500 [(0, .ref 12), (3, .int (nI st2.length)), (4, .int (b2i z2)), (5, .int (nI (a + (e :: p).length))), (6, .int (nI a))] [] (s1 σ' 14 st2.length x) (hoQ σ (reX (rnX (fun i => σ.1 13 i) (e :: p) (st, z)).1)) := by
        intro m hm x st2 z2 hk2 hl2 hx
        refine Pl.pos (fun m1 hm1 => p_12_500 _ _ _ _ _ ?_)
        rw [nI_1, elen]
        have lg : (x :: st2).length = g := by
          have := ex_len (V := fun i => σ.1 13 i) (s := (st, z)) e1
          rw [hx] at this
          exact this
        have := ih m1 (by omega) p (a + 1) (x :: st2) z2 (s1 σ' 14 st2.length x) (hs.fr (fun j => by rw [s1_off (by omega)])) (by omega) ⟨h', by rw [lg]; exact hp⟩ (by show st2.length + 1 ≤ 64; omega) ⟨s1_on, hk2.put (Nat.le_refl _)⟩ (hf.put rfl) hf2
        rw [show tpX (x :: st2).length = nI st2.length from tp_s _] at this
        show Pl PRG m1 d 12 35 _ [] _ (hoQ σ (reX (rnX (fun i => σ.1 13 i) p (exX (fun i => σ.1 13 i) (st, z) e)).1))
        rw [hx]
        exact this
      have at86 : ∀ (m : Nat), m < n → (e.1 = 3 ∨ e.1 = 27) → Pl PRG m d 12 86 [(0, .ref 12), (3, .int (tpX st.length)), (4, .int (b2i z)), (5, .int (nI (a + (e :: p).length))), (6, .int (nI a)), (7, .int (nI e.1)), (8, .int (stX e >>> ((8 : Int32) &&& 31)))] [] σ' (hoQ σ (reX (rnX (fun i => σ.1 13 i) (e :: p) (st, z)).1)) := by
        intro m hm hc
        have h64 : st.length < 64 := by
          rcases hcs with q | q | q | q
          · exact q.2
          · exact q.2
          · rcases hc with c | c <;> omega
          · rcases hc with c | c <;> omega
        obtain ⟨n1, k, hk1, hk2, hk3⟩ := s1n hc
        refine Pl.pos (fun m1 hm1 => p_12_86 _ _ _ _ _ _ _ ?_)
        rw [n1, tp_up]
        have at121 : ∀ (m2 : Nat), m2 < n → Pl PRG m2 d 12 121 [(0, .ref 12), (3, .int (tpX st.length)), (4, .int (b2i z)), (5, .int (nI (a + (e :: p).length))), (6, .int (nI a)), (7, .int (nI e.1)), (8, .int e.2)] [] σ' (hoQ σ (reX (rnX (fun i => σ.1 13 i) (e :: p) (st, z)).1)) := by
          intro m2 hm2
          refine Pl.pos (fun m3 hm3 => p_12_121 _ _ _ _ _ _ _ ?_)
          rw [tp_up, nI_clamp (by omega)]
          refine ⟨fun c _ => ?_, fun c _ _ => ?_⟩
          · have c3 : e.1 = 3 := (ek 3 (by decide) hk40).mp c
            exact go m3 (by omega) e.2 st z hk h64 (by
              obtain ⟨k', x'⟩ := e
              obtain rfl : k' = 3 := c3
              rfl)
          · have c27 : e.1 = 27 := by
              rcases hc with c3 | c27
              · exact absurd ((ek 3 (by decide) hk40).mpr c3) c
              · exact c27
            have e13 : σ'.1 13 e.2.toNatClampNeg = σ.1 13 e.2.toNatClampNeg := hf 13 (by decide) rfl _
            rw [e13]
            exact go m3 (by omega) _ st z hk h64 (by
              obtain ⟨k', x'⟩ := e
              obtain rfl : k' = 27 := c27
              rfl)
        refine ⟨fun c => absurd ((nI_leI (a := 64) (by decide) (by omega)).mp c) (by omega), fun _ => ⟨fun c => ?_, fun _ => ⟨fun c => ⟨fun _ => at121 m1 (by omega), fun c2 => ?_⟩, fun _ => at121 m1 (by omega)⟩⟩⟩
        · rw [hk2] at c
          exact absurd c (nI_pos (by omega))
        · have c27 : e.1 = 27 := (ek 27 (by decide) hk40).mp c
          rw [hk2] at c2
          exact absurd (nI_lt (hk3 c27) (by decide)) c2
      by_cases c3 : e.1 = 3
      · refine ⟨fun _ => at86 n1 (by omega) (Or.inl c3), fun c => absurd ((ek 3 (by decide) hk40).mpr c3) c⟩
      · refine ⟨fun c => absurd ((ek 3 (by decide) hk40).mp c) c3, fun _ => ?_⟩
        by_cases c27 : e.1 = 27
        · exact ⟨fun _ => at86 n1 (by omega) (Or.inr c27), fun c => absurd ((ek 27 (by decide) hk40).mpr c27) c⟩
        · refine ⟨fun c => absurd ((ek 27 (by decide) hk40).mp c) c27, fun _ => ?_⟩
          cases st with
          | nil =>
            exfalso
            have l0 : ([] : List Int32).length = 0 := rfl
            rw [l0] at hcs
            omega
          | cons b st1 =>
            have hb64 : st1.length + 1 ≤ 64 := hk64
            have e0 : tpX (b :: st1).length = nI st1.length := tp_s _
            rw [e0]
            refine ⟨fun c => absurd c (nI_pos (by omega)), fun _ => ?_⟩
            have at169 : ∀ (m : Nat), m < n → Pl PRG m d 12 169 [(0, .ref 12), (3, .int (nI st1.length)), (4, .int (b2i z)), (5, .int (nI (a + (e :: p).length))), (6, .int (nI a)), (7, .int (nI e.1))] [] σ' (hoQ σ (reX (rnX (fun i => σ.1 13 i) (e :: p) (b :: st1, z)).1)) := by
              intro m hm
              refine Pl.pos (fun m1 hm1 => p_12_169 _ _ _ _ _ _ (fun _ => ?_))
              rw [Int32.sub_zero, nI_clamp (by omega), hk.1, ekI]
              refine ⟨fun c _ => ?_, fun c _ => ?_⟩
              · have c25 : e.1 = 25 := (ek 25 (by decide) hk40).mp c
                rw [c25]
                refine ⟨fun c => absurd c (by decide), fun c => absurd c (by decide), fun c => absurd c (by decide), fun c => absurd c (by decide), fun c => absurd c (by decide), fun c => absurd c (by decide), fun c => absurd c (by decide), fun c => absurd c (by decide), fun c => absurd c (by decide), fun c => absurd c (by decide), fun c => absurd c (by decide), fun c => absurd c (by decide), fun c => absurd c (by decide), fun c => absurd c (by decide), fun c => absurd c (by decide), fun c => absurd c (by decide), fun c => absurd c (by decide), fun c => absurd c (by decide), fun c => absurd c (by decide), fun c => absurd c (by decide), fun c => absurd c (by decide), fun _ _ => ?_⟩
                exact go m1 (by omega) (1 - b) st1 z hk.2 (by omega) (by
                  obtain ⟨k', x'⟩ := e
                  obtain rfl : k' = 25 := c25
                  rfl)
              · have n25 : ¬ e.1 = 25 := fun q => c ((ek 25 (by decide) hk40).mpr q)
                cases st1 with
                | nil =>
                  exfalso
                  have l0 : ([b] : List Int32).length = 1 := rfl
                  rw [l0] at hcs
                  omega
                | cons a2 st2 =>
                  have h264 : st2.length + 1 + 1 ≤ 64 := hb64
                  have hcd : (5 ≤ e.1 ∧ e.1 ≤ 12) ∨ e.1 = 23 ∨ e.1 = 24 := by omega
                  have e2 : nI (a2 :: st2).length - (1 : Int32) = nI st2.length := tp_s _
                  rw [e2, nI_clamp (by omega), hk.2.1]
                  have op : ∀ k, 5 ≤ k ∧ k ≤ 8 → e.1 = k → exX (fun i => σ.1 13 i) (b :: a2 :: st2, z) e = (opX k a2 b :: st2, z || (decide (k = 8) && decide (b = 0))) := fun k hk' hek => by
                    obtain ⟨k', x'⟩ := e
                    obtain rfl : k' = k := hek
                    exact ex_op hk'
                  have at423 : (9 ≤ e.1 ∧ e.1 ≤ 12) → Pl PRG m1 d 12 423 [(0, .ref 12), (3, .int (nI st2.length)), (4, .int (b2i z)), (5, .int (nI (a + (e :: p).length))), (6, .int (nI a)), (7, .int (nI e.1)), (9, .int b), (10, .int a2)] [] σ' (hoQ σ (reX (rnX (fun i => σ.1 13 i) (e :: p) (b :: a2 :: st2, z)).1)) := by
                    intro hr
                    have rl : ∀ k, e.1 = k → exX (fun i => σ.1 13 i) (b :: a2 :: st2, z) e = (b2i (!z && cmO k a2 b) :: st2, false) := fun k hek => by
                      obtain ⟨k', x'⟩ := e
                      obtain rfl : k' = k := hek
                      exact ex_rel hr
                    refine Pl.pos (fun m2 hm2 => p_12_423 _ _ _ _ _ _ _ _ ?_)
                    rw [nI_clamp (by omega)]
                    have fin : ∀ (r : Bool), exX (fun i => σ.1 13 i) (b :: a2 :: st2, z) e = (b2i r :: st2, false) → Pl PRG m2 d 12 500 [(0, .ref 12), (3, .int (nI st2.length)), (4, .int (0 : Int32)), (5, .int (nI (a + (e :: p).length))), (6, .int (nI a))] [] (s1 σ' 14 st2.length (b2i r)) (hoQ σ (reX (rnX (fun i => σ.1 13 i) (e :: p) (b :: a2 :: st2, z)).1)) := fun r hr2 => go m2 (by omega) (b2i r) st2 false hk.2.2 (by omega) hr2
                    refine ⟨fun cz => ?_, fun cz _ => fin false (by rw [rl e.1 rfl]; cases z; exact absurd (by decide) cz; rfl)⟩
                    have z0 : z = false := b2i_0.mp cz
                    have rl' : ∀ k, e.1 = k → exX (fun i => σ.1 13 i) (b :: a2 :: st2, z) e = (b2i (cmO k a2 b) :: st2, false) := fun k hek => by rw [rl k hek, z0]; rfl
                    refine ⟨fun c9 => ?_, fun c9 => ⟨fun c10 => ?_, fun c10 => ⟨fun c11 => ?_, fun c11 => ?_⟩⟩⟩
                    · have q := rl' 9 ((ek 9 (by decide) hk40).mp c9)
                      refine ⟨fun c _ => fin true (q.trans ?_), fun c _ => fin false (q.trans ?_)⟩
                      · show (b2i (decide (a2 = b)) :: st2, false) = _
                        rw [decide_eq_true c]
                      · show (b2i (decide (a2 = b)) :: st2, false) = _
                        rw [decide_eq_false c]
                    · have q := rl' 10 ((ek 10 (by decide) hk40).mp c10)
                      refine ⟨fun c _ => fin false (q.trans ?_), fun c _ => fin true (q.trans ?_)⟩
                      · show (b2i (!(decide (a2 = b))) :: st2, false) = _
                        rw [decide_eq_true c]; rfl
                      · show (b2i (!(decide (a2 = b))) :: st2, false) = _
                        rw [decide_eq_false c]; rfl
                    · have q := rl' 11 ((ek 11 (by decide) hk40).mp c11)
                      refine ⟨fun c _ => fin false (q.trans ?_), fun c _ => fin true (q.trans ?_)⟩
                      · show (b2i (decide (a2 < b)) :: st2, false) = _
                        rw [decide_eq_false (fun h => by rw [Int32.lt_iff_toInt_lt] at h; rw [Int32.le_iff_toInt_le] at c; omega)]
                      · show (b2i (decide (a2 < b)) :: st2, false) = _
                        rw [decide_eq_true (by rw [Int32.lt_iff_toInt_lt]; rw [Int32.le_iff_toInt_le] at c; omega)]
                    · have e12 : e.1 = 12 := by
                        have q9 : ¬ e.1 = 9 := fun q => c9 ((ek 9 (by decide) hk40).mpr q)
                        have q10 : ¬ e.1 = 10 := fun q => c10 ((ek 10 (by decide) hk40).mpr q)
                        have q11 : ¬ e.1 = 11 := fun q => c11 ((ek 11 (by decide) hk40).mpr q)
                        omega
                      have q := rl' 12 e12
                      refine ⟨fun c _ => fin false (q.trans ?_), fun c _ => fin true (q.trans ?_)⟩
                      · show (b2i (decide (a2 ≤ b)) :: st2, false) = _
                        rw [decide_eq_false (fun h => by rw [Int32.lt_iff_toInt_lt] at c; rw [Int32.le_iff_toInt_le] at h; omega)]
                      · show (b2i (decide (a2 ≤ b)) :: st2, false) = _
                        rw [decide_eq_true (by rw [Int32.le_iff_toInt_le]; rw [Int32.lt_iff_toInt_lt] at c; omega)]
                  have at352 : e.1 = 8 → (z = true ∨ b = 0) → Pl PRG m1 d 12 352 [(0, .ref 12), (3, .int (nI st2.length)), (5, .int (nI (a + (e :: p).length))), (6, .int (nI a)), (9, .int b), (10, .int a2)] [] σ' (hoQ σ (reX (rnX (fun i => σ.1 13 i) (e :: p) (b :: a2 :: st2, z)).1)) := by
                    intro h8 hz
                    have q := op 8 (by decide) h8
                    have zt : (z || (decide ((8 : Nat) = 8) && decide (b = 0))) = true := by
                      rcases hz with rfl | rfl
                      · rfl
                      · cases z <;> rfl
                    rw [zt] at q
                    refine Pl.pos (fun m2 hm2 => p_12_352 _ _ _ _ _ _ ?_)
                    rw [nI_clamp (by omega)]
                    refine ⟨fun c _ => ?_, fun c _ _ => ?_⟩
                    · have := go m2 (by omega) _ st2 true hk.2.2 (by omega) q
                      rw [show opX 8 a2 b = 0 from if_pos c] at this
                      exact this
                    · have := go m2 (by omega) _ st2 true hk.2.2 (by omega) q
                      rw [show opX 8 a2 b = a2 / b from if_neg c] at this
                      exact this
                  refine ⟨fun q => absurd q (by omega), fun q _ => ?_, fun q _ => ?_, fun q _ => ?_, fun q => ⟨fun cz => ⟨fun c0 => at352 (by omega) (Or.inr c0), fun c0 => ⟨fun c => absurd c c0, fun _ _ _ => ?_⟩⟩, fun cz => at352 (by omega) (Or.inl (by cases z; exact absurd (by decide) cz; rfl))⟩, fun q => at423 (by omega), fun q => at423 (by omega), fun q => at423 (by omega), fun q => at423 (by omega), fun q => absurd q (by omega), fun q => absurd q (by omega), fun q => absurd q (by omega), fun q => absurd q (by omega), fun q => absurd q (by omega), fun q => absurd q (by omega), fun q => absurd q (by omega), fun q => absurd q (by omega), fun q => absurd q (by omega), fun q => absurd q (by omega), fun q _ => ?_, fun q _ => ?_, fun q => absurd q (by omega)⟩
                  · have := op 5 (by decide) (by omega)
                    exact go m1 (by omega) (a2 + b) st2 z hk.2.2 (by omega) (by rw [this]; cases z <;> rfl)
                  · have := op 6 (by decide) (by omega)
                    exact go m1 (by omega) (a2 - b) st2 z hk.2.2 (by omega) (by rw [this]; cases z <;> rfl)
                  · have := op 7 (by decide) (by omega)
                    exact go m1 (by omega) (a2 * b) st2 z hk.2.2 (by omega) (by rw [this]; cases z <;> rfl)
                  · have := op 8 (by decide) (by omega)
                    rw [b2i_0.mp cz, show opX 8 a2 b = a2 / b from if_neg c0, decide_eq_false c0] at this
                    refine go m1 (by omega) (a2 / b) st2 false hk.2.2 (by omega) ?_
                    rw [b2i_0.mp cz, this]; rfl
                  · have c23 : e.1 = 23 := by omega
                    exact go m1 (by omega) (a2 ||| b) st2 z hk.2.2 (by omega) (by
                      obtain ⟨k', x'⟩ := e
                      obtain rfl : k' = 23 := c23
                      rfl)
                  · have c24 : e.1 = 24 := by omega
                    exact go m1 (by omega) (a2 &&& b) st2 z hk.2.2 (by omega) (by
                      obtain ⟨k', x'⟩ := e
                      obtain rfl : k' = 24 := c24
                      rfl)
            refine ⟨fun _ => at169 n1 (by omega), fun c => ⟨fun _ => at169 n1 (by omega), fun c25 => ?_⟩⟩
            exfalso
            have c1 : ¬ 1 ≤ st1.length := fun q => c ((nI_leI (a := 1) (by decide) (by omega)).mpr q)
            have n25 : ¬ e.1 = 25 := fun q => c25 ((ek 25 (by decide) hk40).mpr q)
            have l1 : (b :: st1).length = st1.length + 1 := rfl
            rw [l1] at hcs
            omega
/-- where a part of a custom's program stands -/
def prX (σ : Sg) (i : Nat) (p : Cd) : Prop := ∃ a, a + p.length ≤ 400 ∧ σ.1 6 i = nI a ∧ σ.1 7 i = nI (a + p.length) ∧ sgX σ a p
theorem rc12 {n q t : Nat} {p : Cd} {w : Int32} {σ σ1 : Sg} (h : RCx PRG n 12 [.ref 12, .int (nI q), .int (nI t)] σ (some (.int w)) σ1) (hq : q < 6) (ht : t < 2) (hp : prX σ (2 * q + t) p) (hh : ∃ h', hX 64 p 0 = some h') : w = b2i (reX (rnX (fun i => σ.1 13 i) p ([], false)).1) ∧ exc [14] σ σ1 ∧ σ1.2 = σ.2 := by
  obtain ⟨a, h1, h2, h3, h4⟩ := hp
  have hi : ((2 : Int32) * nI q) + nI t = nI (2 * q + t) := by
    rw [show (2 : Int32) = nI 2 by decide, nI_mulI (by omega) (by omega) (by omega), nI_add]
  have := h.by (Q := hoQ σ (reX (rnX (fun i => σ.1 13 i) p ([], false)).1)) (fun m d => p_12_0 σ (nI q) (nI t) (fun _ _ => by
    rw [hi, nI_clamp (by omega), h2, h3]
    exact ho_loop m p a [] false σ h4 h1 hh (by decide) trivial (exc.refl σ) rfl))
  obtain ⟨k1, k2, k3⟩ := this
  cases k1
  exact ⟨rfl, k2, k3⟩
