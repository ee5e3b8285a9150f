/-! what a condition says, as a program -/
abbrev Cd : Type := List (Nat × Int32)
abbrev Lt : Type := Bool × Bool × Nat × Cd × Cd
def opX (k : Nat) (a b : Int32) : Int32 := if k = 5 then a + b else if k = 6 then a - b else if k = 7 then a * b else if b = 0 then 0 else a / b
def cmO (k : Nat) (a b : Int32) : Bool := if k = 9 then decide (a = b) else if k = 10 then !(decide (a = b)) else if k = 11 then decide (a < b) else decide (a ≤ b)
def b2i (b : Bool) : Int32 := if b then 1 else 0
def exX (V : Nat → Int32) (s : List Int32 × Bool) (e : Nat × Int32) : List Int32 × Bool :=
  if e.1 = 3 then (e.2 :: s.1, s.2) else if e.1 = 27 then (V e.2.toNatClampNeg :: s.1, s.2) else match s.1 with
  | [] => s
  | b :: st => if e.1 = 25 then ((1 - b) :: st, s.2) else match st with
    | [] => s
    | a :: st => if e.1 ≤ 8 then (opX e.1 a b :: st, s.2 || (decide (e.1 = 8) && decide (b = 0))) else if e.1 ≤ 12 then (b2i (!s.2 && cmO e.1 a b) :: st, false) else if e.1 = 24 then ((a &&& b) :: st, s.2) else ((a ||| b) :: st, s.2)
def rnX (V : Nat → Int32) : Cd → List Int32 × Bool → List Int32 × Bool
  | [], s => s
  | e :: p, s => rnX V p (exX V s e)
def h1X (L : Nat) (e : Nat × Int32) (h : Nat) : Option Nat :=
  if e.1 = 3 then (if h < L ∧ 0 ≤ e.2 ∧ e.2 < 10000 then some (h + 1) else none)
  else if e.1 = 27 then (if h < L ∧ 0 ≤ e.2 ∧ e.2 < 14 then some (h + 1) else none)
  else if e.1 = 25 then (if 1 ≤ h ∧ e.2 = 0 then some h else none)
  else if e.2 = 0 ∧ ((5 ≤ e.1 ∧ e.1 ≤ 12) ∨ e.1 = 23 ∨ e.1 = 24) then (if 2 ≤ h then some (h - 1) else none) else none
def hX (L : Nat) : Cd → Nat → Option Nat
  | [], h => some h
  | e :: p, h => match h1X L e h with
    | none => none
    | some h' => hX L p h'
/-- an expression's kinds alone -/
def aX (c : Cd) : Prop := ∀ e ∈ c, e.1 = 3 ∨ e.1 = 27 ∨ (5 ≤ e.1 ∧ e.1 ≤ 8)
theorem rn_app {V : Nat → Int32} : ∀ (p q : Cd) (s : List Int32 × Bool), rnX V (p ++ q) s = rnX V q (rnX V p s) := by
  intro p
  induction p with
  | nil => intro q s; rfl
  | cons e p ih => intro q s; exact ih q (exX V s e)
theorem hX_app {L : Nat} : ∀ (p q : Cd) (h : Nat), hX L (p ++ q) h = match hX L p h with
    | none => none
    | some h' => hX L q h' := by
  intro p
  induction p with
  | nil => intro q h; rfl
  | cons e p ih =>
    intro q h
    show (match h1X L e h with
      | none => none
      | some h' => hX L (p ++ q) h') = match (match h1X L e h with
      | none => none
      | some h' => hX L p h') with
      | none => none
      | some h' => hX L q h'
    cases h1X L e h with
    | none => rfl
    | some h' => exact ih q h'
theorem hX_to {L : Nat} {p q : Cd} {h h1 h2 : Nat} (a : hX L p h = some h1) (b : hX L q h1 = some h2) : hX L (p ++ q) h = some h2 := by
  rw [hX_app, a]; exact b
theorem h1X_up {L : Nat} {e : Nat × Int32} {h h' : Nat} (k : Nat) (a : h1X L e h = some h') : h1X (L + k) e (h + k) = some (h' + k) := by
  unfold h1X at a ⊢
  split at a
  · split at a
    · rename_i c
      cases a
      rw [if_pos (by assumption), if_pos ⟨by omega, c.2⟩]
      congr 1; omega
    · cases a
  · rename_i n3
    rw [if_neg n3]
    split at a
    · split at a
      · rename_i c
        cases a
        rw [if_pos (by assumption), if_pos ⟨by omega, c.2⟩]
        congr 1; omega
      · cases a
    · rename_i n27
      rw [if_neg n27]
      split at a
      · split at a
        · rename_i c
          cases a
          rw [if_pos (by assumption), if_pos ⟨by omega, c.2⟩]
        · cases a
      · rename_i n25
        rw [if_neg n25]
        split at a
        · split at a
          · rename_i c
            cases a
            rw [if_pos (by assumption), if_pos (by omega)]
            congr 1; omega
          · cases a
        · cases a
theorem hX_up {L k : Nat} : ∀ (p : Cd) (h h' : Nat), hX L p h = some h' → hX (L + k) p (h + k) = some (h' + k) := by
  intro p
  induction p with
  | nil => intro h h' a; cases a; rfl
  | cons e p ih =>
    intro h h' a
    have a' : (match h1X L e h with
      | none => none
      | some h' => hX L p h') = some h' := a
    cases e1 : h1X L e h with
    | none => rw [e1] at a'; cases a'
    | some g =>
      rw [e1] at a'
      show (match h1X (L + k) e (h + k) with
        | none => none
        | some h' => hX (L + k) p h') = _
      rw [h1X_up k e1]
      exact ih g h' a'
theorem h1X_more {L L' : Nat} (hL : L ≤ L') {e : Nat × Int32} {h h' : Nat} (a : h1X L e h = some h') : h1X L' e h = some h' := by
  unfold h1X at a ⊢
  split at a
  · split at a
    · rename_i c
      rw [if_pos (by assumption), if_pos ⟨by omega, c.2⟩]; exact a
    · cases a
  · rename_i n3
    rw [if_neg n3]
    split at a
    · split at a
      · rename_i c
        rw [if_pos (by assumption), if_pos ⟨by omega, c.2⟩]; exact a
      · cases a
    · rename_i n27
      rw [if_neg n27]
      exact a
theorem hX_more {L L' : Nat} (hL : L ≤ L') : ∀ (p : Cd) (h h' : Nat), hX L p h = some h' → hX L' p h = some h' := by
  intro p
  induction p with
  | nil => intro h h' a; exact a
  | cons e p ih =>
    intro h h' a
    have a' : (match h1X L e h with
      | none => none
      | some h' => hX L p h') = some h' := a
    cases e1 : h1X L e h with
    | none => rw [e1] at a'; cases a'
    | some g =>
      rw [e1] at a'
      show (match h1X L' e h with
        | none => none
        | some h' => hX L' p h') = _
      rw [h1X_more hL e1]
      exact ih g h' a'
/-- one step keeps the height that is told, and what lies below -/
theorem ex_len {V : Nat → Int32} {L : Nat} {e : Nat × Int32} {s : List Int32 × Bool} {h' : Nat} (a : h1X L e s.1.length = some h') : (exX V s e).1.length = h' := by
  unfold h1X at a
  unfold exX
  split at a
  · split at a
    · cases a; rw [if_pos (by assumption)]; rfl
    · cases a
  · rename_i n3
    rw [if_neg n3]
    split at a
    · split at a
      · cases a; rw [if_pos (by assumption)]; rfl
      · cases a
    · rename_i n27
      rw [if_neg n27]
      obtain ⟨st, z⟩ := s
      split at a
      · rename_i e25
        split at a
        · rename_i c
          cases a
          cases st with
          | nil => simp at c
          | cons b st =>
            show (if e.1 = 25 then _ else _ : List Int32 × Bool).1.length = _
            rw [if_pos e25]; rfl
        · cases a
      · rename_i n25
        split at a
        · split at a
          · rename_i c
            cases a
            cases st with
            | nil => simp at c
            | cons b st =>
              cases st with
              | nil => simp at c
              | cons a st =>
                show (if e.1 = 25 then _ else _ : List Int32 × Bool).1.length = _
                rw [if_neg n25]
                show (if e.1 ≤ 8 then _ else _ : List Int32 × Bool).1.length = _
                split
                · rfl
                · split
                  · rfl
                  · split <;> rfl
          · cases a
        · cases a
theorem ex_base {V : Nat → Int32} {L : Nat} {e : Nat × Int32} {st base : List Int32} {y z : Bool} {h' : Nat} (ha : e.1 = 3 ∨ e.1 = 27 ∨ (5 ≤ e.1 ∧ e.1 ≤ 8)) (a : h1X L e st.length = some h') : exX V (st ++ base, y || z) e = ((exX V (st, z) e).1 ++ base, y || (exX V (st, z) e).2) := by
  unfold h1X at a
  unfold exX
  by_cases n3 : e.1 = 3
  · rw [if_pos n3, if_pos n3]; rfl
  · rw [if_neg n3] at a ⊢
    rw [if_neg n3]
    by_cases n27 : e.1 = 27
    · rw [if_pos n27, if_pos n27]; rfl
    · rw [if_neg n27] at a ⊢
      rw [if_neg n27]
      have n25 : ¬ e.1 = 25 := by omega
      rw [if_neg n25] at a
      split at a
      · split at a
        · rename_i c
          cases st with
          | nil => simp at c
          | cons b st =>
            cases st with
            | nil => simp at c
            | cons a2 st =>
              show (if e.1 = 25 then _ else _ : List Int32 × Bool) = ((if e.1 = 25 then _ else _ : List Int32 × Bool).1 ++ base, y || (if e.1 = 25 then _ else _ : List Int32 × Bool).2)
              rw [if_neg n25, if_neg n25]
              have n8 : e.1 ≤ 8 := by omega
              show (if e.1 ≤ 8 then _ else _ : List Int32 × Bool) = ((if e.1 ≤ 8 then _ else _ : List Int32 × Bool).1 ++ base, y || (if e.1 ≤ 8 then _ else _ : List Int32 × Bool).2)
              rw [if_pos n8, if_pos n8]
              show (_ :: (st ++ base), (y || z) || _) = (_ :: (st ++ base), y || (z || _))
              rw [Bool.or_assoc]
        · cases a
      · cases a
theorem rn_base {V : Nat → Int32} {L : Nat} : ∀ (c : Cd) (st base : List Int32) (y z : Bool) (h' : Nat), aX c → hX L c st.length = some h' → rnX V c (st ++ base, y || z) = ((rnX V c (st, z)).1 ++ base, y || (rnX V c (st, z)).2) ∧ (rnX V c (st, z)).1.length = h' := by
  intro c
  induction c with
  | nil => intro st base y z h' _ a; cases a; exact ⟨rfl, rfl⟩
  | cons e c ih =>
    intro st base y z h' hc a
    have a' : (match h1X L e st.length with
      | none => none
      | some h' => hX L c h') = some h' := a
    cases e1 : h1X L e st.length with
    | none => rw [e1] at a'; cases a'
    | some g =>
      rw [e1] at a'
      have a2 : hX L c g = some h' := a'
      have l1 := ex_len (V := V) (s := (st, z)) e1
      rw [← l1] at a2
      show rnX V c (exX V (st ++ base, y || z) e) = ((rnX V c (exX V (st, z) e)).1 ++ base, y || (rnX V c (exX V (st, z) e)).2) ∧ (rnX V c (exX V (st, z) e)).1.length = h'
      rw [ex_base (hc e List.mem_cons_self) e1]
      exact ih _ base y _ h' (fun x hx => hc x (List.mem_cons_of_mem _ hx)) a2
/-! literals and conditions -/
def gLt (l : Lt) : Prop := (hX 20 l.2.2.2.1 0 = some 1 ∧ aX l.2.2.2.1) ∧ (hX 20 l.2.2.2.2 0 = some 1 ∧ aX l.2.2.2.2) ∧ 9 ≤ l.2.2.1 ∧ l.2.2.1 ≤ 12
def hdX (l : List Int32) : Int32 := l.headD 0
def ltX (V : Nat → Int32) (l : Lt) : Bool := ((!((rnX V l.2.2.2.1 ([], false)).2 || (rnX V l.2.2.2.2 ([], false)).2) && cmO l.2.2.1 (hdX (rnX V l.2.2.2.1 ([], false)).1) (hdX (rnX V l.2.2.2.2 ([], false)).1)) ^^ l.2.1)
def ruX (V : Nat → Int32) : Bool → List Lt → Bool
  | all, [] => all
  | all, l :: ls => if l.1 = true then (if all = true then true else ruX V (ltX V l) ls) else ruX V (all && ltX V l) ls
def ltC (l : Lt) : Cd := l.2.2.2.1 ++ (l.2.2.2.2 ++ ((l.2.2.1, 0) :: (if l.2.1 = true then [(25, 0)] else [])))
def cpX : Bool → List Lt → Cd
  | w, [] => if w = true then [(23, 0)] else []
  | w, l :: ls => if l.1 = true then (if w = true then [(23, 0)] else []) ++ (ltC l ++ cpX true ls) else ltC l ++ ((24, 0) :: cpX w ls)
def ccX : List Lt → Cd
  | [] => []
  | l :: ls => ltC l ++ cpX false ls
theorem len1 {l : List Int32} (h : l.length = 1) : l = [hdX l] := by
  cases l with
  | nil => cases h
  | cons x l =>
    cases l with
    | nil => rfl
    | cons y l => cases h
theorem b2i_not (b : Bool) : (1 : Int32) - b2i b = b2i (b ^^ true) := by cases b <;> decide
theorem b2i_and (a b : Bool) : b2i a &&& b2i b = b2i (a && b) := by cases a <;> cases b <;> decide
theorem b2i_or (a b : Bool) : b2i a ||| b2i b = b2i (a || b) := by cases a <;> cases b <;> decide
theorem rn_lt {V : Nat → Int32} {l : Lt} (h : gLt l) (base : List Int32) : rnX V (ltC l) (base, false) = (b2i (ltX V l) :: base, false) := by
  obtain ⟨⟨h1, h2⟩, ⟨h3, h4⟩, h5, h6⟩ := h
  obtain ⟨a1, a2⟩ := rn_base (V := V) l.2.2.2.1 [] base false false 1 h2 h1
  obtain ⟨b1, b2⟩ := rn_base (V := V) l.2.2.2.2 [] (hdX (rnX V l.2.2.2.1 ([], false)).1 :: base) (rnX V l.2.2.2.1 ([], false)).2 false 1 h4 h3
  unfold ltC
  rw [rn_app, rn_app]
  have e1 : rnX V l.2.2.2.1 (base, false) = (hdX (rnX V l.2.2.2.1 ([], false)).1 :: base, (rnX V l.2.2.2.1 ([], false)).2) := by
    have := a1
    rw [len1 a2] at this
    rw [Bool.false_or] at this
    exact this
  rw [e1]
  have e2 : rnX V l.2.2.2.2 (hdX (rnX V l.2.2.2.1 ([], false)).1 :: base, (rnX V l.2.2.2.1 ([], false)).2) = (hdX (rnX V l.2.2.2.2 ([], false)).1 :: hdX (rnX V l.2.2.2.1 ([], false)).1 :: base, (rnX V l.2.2.2.1 ([], false)).2 || (rnX V l.2.2.2.2 ([], false)).2) := by
    have := b1
    rw [len1 b2, Bool.or_false] at this
    exact this
  rw [e2]
  have e3 : exX V (hdX (rnX V l.2.2.2.2 ([], false)).1 :: hdX (rnX V l.2.2.2.1 ([], false)).1 :: base, (rnX V l.2.2.2.1 ([], false)).2 || (rnX V l.2.2.2.2 ([], false)).2) (l.2.2.1, 0) = (b2i (!((rnX V l.2.2.2.1 ([], false)).2 || (rnX V l.2.2.2.2 ([], false)).2) && cmO l.2.2.1 (hdX (rnX V l.2.2.2.1 ([], false)).1) (hdX (rnX V l.2.2.2.2 ([], false)).1)) :: base, false) := by
    unfold exX
    rw [if_neg (by show ¬ l.2.2.1 = 3; omega), if_neg (by show ¬ l.2.2.1 = 27; omega)]
    show (if l.2.2.1 = 25 then _ else _ : List Int32 × Bool) = _
    rw [if_neg (by omega)]
    show (if l.2.2.1 ≤ 8 then _ else _ : List Int32 × Bool) = _
    rw [if_neg (by omega)]
    show (if l.2.2.1 ≤ 12 then _ else _ : List Int32 × Bool) = _
    rw [if_pos (by omega)]
  show rnX V (if l.2.1 = true then [(25, 0)] else []) (exX V _ (l.2.2.1, 0)) = _
  rw [e3]
  unfold ltX
  cases hn : l.2.1 with
  | true =>
    rw [if_pos rfl]
    show (((1 : Int32) - b2i _) :: base, false) = _
    rw [b2i_not]
  | false =>
    rw [if_neg (by decide), Bool.xor_false]
    rfl
theorem rn_cp {V : Nat → Int32} : ∀ (ls : List Lt), (∀ l ∈ ls, gLt l) → ∀ (c a : Bool), rnX V (cpX false ls) ([b2i c], false) = ([b2i (ruX V c ls)], false) ∧ rnX V (cpX true ls) ([b2i c, b2i a], false) = ([b2i (a || ruX V c ls)], false) := by
  intro ls
  induction ls with
  | nil =>
    intro _ c a
    refine ⟨rfl, ?_⟩
    show ([b2i a ||| b2i c], false) = _
    rw [b2i_or]
    rfl
  | cons l ls ih =>
    intro h c a
    have hl := h l List.mem_cons_self
    have ih' := ih (fun x hx => h x (List.mem_cons_of_mem _ hx))
    have u : ∀ w, cpX w (l :: ls) = if l.1 = true then (if w = true then [(23, 0)] else []) ++ (ltC l ++ cpX true ls) else ltC l ++ ((24, 0) :: cpX w ls) := fun _ => rfl
    have r : ruX V c (l :: ls) = if l.1 = true then (if c = true then true else ruX V (ltX V l) ls) else ruX V (c && ltX V l) ls := rfl
    rw [u, u, r]
    cases ho : l.1 with
    | true =>
      rw [if_pos rfl, if_pos rfl, if_pos rfl, if_neg (by decide), if_pos rfl]
      constructor
      · rw [List.nil_append, rn_app, rn_lt hl, (ih' _ c).2]
        cases c <;> rfl
      · show rnX V (ltC l ++ cpX true ls) ([b2i a ||| b2i c], false) = _
        rw [b2i_or, rn_app, rn_lt hl, (ih' _ (a || c)).2]
        cases c <;> cases a <;> rfl
    | false =>
      rw [if_neg (by decide), if_neg (by decide), if_neg (by decide)]
      constructor
      · rw [rn_app, rn_lt hl]
        show rnX V (cpX false ls) ([b2i c &&& b2i (ltX V l)], false) = _
        rw [b2i_and, (ih' _ a).1]
      · rw [rn_app, rn_lt hl]
        show rnX V (cpX true ls) ([b2i c &&& b2i (ltX V l), b2i a], false) = _
        rw [b2i_and, (ih' _ a).2]
def orS (ls : List Lt) : Prop := ∀ l, ls.head? = some l → l.1 = true
theorem rn_cc {V : Nat → Int32} {ls : List Lt} (h : ∀ l ∈ ls, gLt l) (ho : orS ls) (hn : ¬ ls = []) : rnX V (ccX ls) ([], false) = ([b2i (ruX V false ls)], false) := by
  cases ls with
  | nil => exact absurd rfl hn
  | cons l ls =>
    show rnX V (ltC l ++ cpX false ls) ([], false) = _
    rw [rn_app, rn_lt (h l List.mem_cons_self), (rn_cp ls (fun x hx => h x (List.mem_cons_of_mem _ hx)) (ltX V l) false).1]
    show _ = ([b2i (if l.1 = true then (if false = true then true else ruX V (ltX V l) ls) else ruX V (false && ltX V l) ls)], false)
    rw [if_pos (ho l rfl), if_neg (by decide)]
/-! heights of whole conditions -/
theorem hX_lt {l : Lt} (h : gLt l) {k : Nat} (hk : k ≤ 40) : hX 64 (ltC l) k = some (k + 1) := by
  obtain ⟨⟨h1, h2⟩, ⟨h3, h4⟩, h5, h6⟩ := h
  have a := hX_more (L' := 64) (by omega) _ _ _ (hX_up (k := k) _ _ _ h1)
  have b := hX_more (L' := 64) (by omega) _ _ _ (hX_up (k := k + 1) _ _ _ h3)
  rw [Nat.zero_add] at a b
  unfold ltC
  refine hX_to a (hX_to (show hX 64 l.2.2.2.2 (1 + k) = some (1 + (k + 1)) by rw [Nat.add_comm 1 k]; exact b) ?_)
  show (match h1X 64 (l.2.2.1, 0) (1 + (k + 1)) with
    | none => none
    | some h' => hX 64 (if l.2.1 = true then [(25, 0)] else []) h') = _
  have e : h1X 64 (l.2.2.1, 0) (1 + (k + 1)) = some (k + 1) := by
    unfold h1X
    rw [if_neg (by show ¬ l.2.2.1 = 3; omega), if_neg (by show ¬ l.2.2.1 = 27; omega), if_neg (by show ¬ l.2.2.1 = 25; omega), if_pos ⟨rfl, Or.inl ⟨by show 5 ≤ l.2.2.1; omega, h6⟩⟩, if_pos (by omega)]
    congr 1; omega
  rw [e]
  show hX 64 (if l.2.1 = true then [(25, 0)] else []) (k + 1) = some (k + 1)
  split
  · show (match h1X 64 (25, 0) (k + 1) with
      | none => none
      | some h' => hX 64 [] h') = _
    have e : h1X 64 (25, 0) (k + 1) = some (k + 1) := by
      unfold h1X
      rw [if_neg (by decide), if_neg (by decide), if_pos rfl, if_pos ⟨by omega, rfl⟩]
    rw [e]; rfl
  · rfl
theorem hX_two {k h : Nat} (hk : k = 23 ∨ k = 24) (p : Cd) : hX 64 ((k, 0) :: p) (h + 2) = hX 64 p (h + 1) := by
  show (match h1X 64 (k, 0) (h + 2) with
    | none => none
    | some h' => hX 64 p h') = _
  have e : h1X 64 (k, 0) (h + 2) = some (h + 1) := by
    unfold h1X
    rw [if_neg (by show ¬ k = 3; omega), if_neg (by show ¬ k = 27; omega), if_neg (by show ¬ k = 25; omega), if_pos ⟨rfl, Or.inr hk⟩, if_pos (by omega)]
    congr 1
  rw [e]
theorem hX_cp : ∀ (ls : List Lt), (∀ l ∈ ls, gLt l) → hX 64 (cpX false ls) 1 = some 1 ∧ hX 64 (cpX true ls) 2 = some 1 := by
  intro ls
  induction ls with
  | nil => intro _; exact ⟨rfl, hX_two (h := 0) (Or.inl rfl) []⟩
  | cons l ls ih =>
    intro h
    have hl := h l List.mem_cons_self
    obtain ⟨i1, i2⟩ := ih (fun x hx => h x (List.mem_cons_of_mem _ hx))
    have u : ∀ w, cpX w (l :: ls) = if l.1 = true then (if w = true then [(23, 0)] else []) ++ (ltC l ++ cpX true ls) else ltC l ++ ((24, 0) :: cpX w ls) := fun _ => rfl
    rw [u, u]
    cases ho : l.1 with
    | true =>
      rw [if_pos rfl, if_pos rfl, if_neg (by decide), if_pos rfl]
      rw [List.nil_append]
      refine ⟨hX_to (hX_lt hl (by omega)) i2, ?_⟩
      show hX 64 ((23, 0) :: (ltC l ++ cpX true ls)) (0 + 2) = _
      rw [hX_two (Or.inl rfl)]
      exact hX_to (hX_lt hl (by omega)) i2
    | false =>
      rw [if_neg (by decide), if_neg (by decide)]
      exact ⟨hX_to (hX_lt hl (by omega)) ((hX_two (h := 0) (Or.inr rfl) _).trans i1), hX_to (hX_lt hl (by omega)) ((hX_two (h := 1) (Or.inr rfl) _).trans i2)⟩
theorem hX_cc {ls : List Lt} (h : ∀ l ∈ ls, gLt l) : hX 64 (ccX ls) 0 = some 1 ∨ ls = [] := by
  cases ls with
  | nil => exact Or.inr rfl
  | cons l ls => exact Or.inl (hX_to (hX_lt (h l List.mem_cons_self) (by omega)) (hX_cp ls (fun x hx => h x (List.mem_cons_of_mem _ hx))).1)
