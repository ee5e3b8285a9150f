/-! the programs of a text, token by token -/
abbrev PS : Type := List Nat × Cd × (Bool × Bool × Nat × Cd) × List Lt × List Lt × List (List Lt × List Lt)
def coX (strong : Bool) : List Nat → Cd → List Nat × Cd
  | [], O => ([], O)
  | w :: W, O => if w = 13 ∨ (strong = true ∧ (w = 5 ∨ w = 6)) then (w :: W, O) else coX strong W (O ++ [(w, 0)])
def uniX (k : Nat) (v : Int32) (s : PS) : PS := if k = 13 then (13 :: s.1, s.2) else if 27 ≤ k ∧ k ≤ 36 then (s.1, s.2.1 ++ [(27, nI (k - 27))], s.2.2) else if k = 26 then s else (s.1, s.2.1 ++ [(3, v)], s.2.2)
def aftX (k : Nat) (s : PS) : PS := if 5 ≤ k ∧ k ≤ 8 then (k :: (coX (decide (7 ≤ k)) s.1 s.2.1).1, (coX (decide (7 ≤ k)) s.1 s.2.1).2, s.2.2) else if k = 14 then ((coX false s.1 s.2.1).1.tail, (coX false s.1 s.2.1).2, s.2.2) else s
def finX (s : PS) : Cd := (coX false s.1 s.2.1).2
def litX (s : PS) : List Lt := s.2.2.2.1 ++ [(s.2.2.1.1, s.2.2.1.2.1, s.2.2.1.2.2.1, s.2.2.1.2.2.2, finX s)]
def c0X (o : Bool) : Bool × Bool × Nat × Cd := (o, false, 0, [])
def psS (m k : Nat) (v : Int32) (s : PS) : PS :=
  if m = 9 then ([], [], c0X true, [], [], s.2.2.2.2.2)
  else if m = 10 ∨ m = 20 then (if k = 25 then (s.1, s.2.1, (s.2.2.1.1, !s.2.2.1.2.1, s.2.2.1.2.2), s.2.2.2) else uniX k v s)
  else if m = 11 ∨ m = 14 ∨ m = 21 ∨ m = 24 then uniX k v s
  else if m = 13 ∨ m = 16 ∨ m = 23 ∨ m = 26 then (s.1, s.2.1 ++ [(27, nI 10 + v)], s.2.2)
  else if m = 12 ∨ m = 22 then (if 9 ≤ k ∧ k ≤ 12 then ([], [], (s.2.2.1.1, s.2.2.1.2.1, k, finX s), s.2.2.2) else aftX k s)
  else if m = 15 ∨ m = 25 then (if k = 23 ∨ k = 24 then ([], [], c0X (decide (k = 23)), litX s, s.2.2.2.2) else if k = 22 then ([], [], c0X true, [], litX s, s.2.2.2.2.2) else if k = 4 then ([], [], c0X true, [], [], s.2.2.2.2.2 ++ [(s.2.2.2.2.1, litX s)]) else aftX k s)
  else s
def psT (TT : List Tk) : Nat → PS
  | 0 => ([], [], c0X true, [], [], [])
  | i + 1 => match pr TT i with
    | .inr s => psS s.1.1 (kdT TT i) (vlT TT i) (psT TT i)
    | .inl _ => psT TT i
theorem ps_next {TT : List Tk} {i : Nat} {s : GSt} (h : pr TT i = .inr s) : psT TT (i + 1) = psS s.1.1 (kdT TT i) (vlT TT i) (psT TT i) := by
  show (match pr TT i with
    | .inr s => psS s.1.1 (kdT TT i) (vlT TT i) (psT TT i)
    | .inl _ => psT TT i) = _
  rw [h]
/-! what waits: between brackets one strong sign at most, ahead of it one weak sign at most -/
def sgS (s : List Nat) : Prop := s = [] ∨ s = [7] ∨ s = [8]
def sgW (w : List Nat) : Prop := w = [] ∨ w = [5] ∨ w = [6]
def enX (l : List Nat) : Cd := l.map (fun k => (k, 0))
def bsX : Nat → List Nat → Prop
  | 0, B => B = []
  | d + 1, B => ∃ s w B', sgS s ∧ sgW w ∧ B = 13 :: (s ++ (w ++ B')) ∧ bsX d B'
def shX (d : Nat) (W : List Nat) : Prop := ∃ s w B, sgS s ∧ sgW w ∧ W = s ++ (w ++ B) ∧ bsX d B
def baX (B : List Nat) : Prop := B = [] ∨ ∃ B', B = 13 :: B'
theorem bsX.ba {d : Nat} {B : List Nat} (h : bsX d B) : baX B := by
  cases d with
  | zero => exact Or.inl h
  | succ d =>
    obtain ⟨s, w, B', -, -, h, -⟩ := h
    exact Or.inr ⟨_, h⟩
theorem co_stop {b : Bool} {B : List Nat} {O : Cd} (h : baX B) : coX b B O = (B, O) := by
  rcases h with rfl | ⟨B', rfl⟩
  · rfl
  · show (if (13 : Nat) = 13 ∨ _ then _ else _) = _
    rw [if_pos (Or.inl rfl)]
theorem co_strong {s w B : List Nat} {O : Cd} (hs : sgS s) (hw : sgW w) (hB : baX B) : coX true (s ++ (w ++ B)) O = (w ++ B, O ++ enX s) := by
  have h2 : ∀ O : Cd, coX true (w ++ B) O = (w ++ B, O) := by
    intro O
    rcases hw with rfl | rfl | rfl
    · exact co_stop hB
    · show (if _ then _ else _) = _
      rw [if_pos (Or.inr ⟨rfl, Or.inl rfl⟩)]; rfl
    · show (if _ then _ else _) = _
      rw [if_pos (Or.inr ⟨rfl, Or.inr rfl⟩)]; rfl
  rcases hs with rfl | rfl | rfl
  · rw [List.nil_append, h2]
    show _ = (w ++ B, O ++ [])
    rw [List.append_nil]
  · show (if _ then _ else _) = _
    rw [if_neg (by decide)]; exact h2 _
  · show (if _ then _ else _) = _
    rw [if_neg (by decide)]; exact h2 _
theorem co_all {s w B : List Nat} {O : Cd} (hs : sgS s) (hw : sgW w) (hB : baX B) : coX false (s ++ (w ++ B)) O = (B, O ++ (enX s ++ enX w)) := by
  have h2 : ∀ O : Cd, coX false (w ++ B) O = (B, O ++ enX w) := by
    intro O
    rcases hw with rfl | rfl | rfl
    · show coX false B O = (B, O ++ [])
      rw [List.append_nil]; exact co_stop hB
    · show (if _ then _ else _) = _
      rw [if_neg (by decide)]; exact co_stop hB
    · show (if _ then _ else _) = _
      rw [if_neg (by decide)]; exact co_stop hB
  rcases hs with rfl | rfl | rfl
  · rw [List.nil_append, h2]; rfl
  · show (if _ then _ else _) = _
    rw [if_neg (by decide)]; exact (h2 _).trans (by rw [List.append_assoc]; rfl)
  · show (if _ then _ else _) = _
    rw [if_neg (by decide)]; exact (h2 _).trans (by rw [List.append_assoc]; rfl)
def opsX : List Nat → Nat
  | [] => 0
  | w :: W => if w = 13 then opsX W else opsX W + 1
theorem ops_sw {s w B : List Nat} (hs : sgS s) (hw : sgW w) : opsX (s ++ (w ++ B)) = s.length + w.length + opsX B ∧ s.length ≤ 1 ∧ w.length ≤ 1 := by
  have h2 : opsX (w ++ B) = w.length + opsX B ∧ w.length ≤ 1 := by
    rcases hw with rfl | rfl | rfl
    · exact ⟨(Nat.zero_add _).symm, by decide⟩
    · exact ⟨Nat.add_comm _ _, by decide⟩
    · exact ⟨Nat.add_comm _ _, by decide⟩
  rcases hs with rfl | rfl | rfl
  · refine ⟨?_, by decide, h2.2⟩
    show opsX (w ++ B) = 0 + w.length + opsX B
    rw [h2.1, Nat.zero_add]
  · refine ⟨?_, by decide, h2.2⟩
    show opsX (w ++ B) + 1 = 1 + w.length + opsX B
    rw [h2.1]; omega
  · refine ⟨?_, by decide, h2.2⟩
    show opsX (w ++ B) + 1 = 1 + w.length + opsX B
    rw [h2.1]; omega
theorem bs_ops : ∀ (d : Nat) (B : List Nat), bsX d B → opsX B ≤ 2 * d := by
  intro d
  induction d with
  | zero => intro B h; rw [show B = [] from h]; exact Nat.le_refl 0
  | succ d ih =>
    intro B h
    obtain ⟨s, w, B', hs, hw, rfl, hb⟩ := h
    have h1 := ih B' hb
    obtain ⟨h2, h3, h4⟩ := ops_sw (B := B') hs hw
    show (if (13 : Nat) = 13 then opsX (s ++ (w ++ B')) else _) ≤ _
    rw [if_pos rfl, h2]
    omega
theorem sh_ops {d : Nat} {W : List Nat} (h : shX d W) : opsX W ≤ 2 * d + 2 := by
  obtain ⟨s, w, B, hs, hw, rfl, hb⟩ := h
  have h1 := bs_ops d B hb
  obtain ⟨h2, h3, h4⟩ := ops_sw (B := B) hs hw
  omega
theorem hX_op {L n k : Nat} (hk : 5 ≤ k ∧ k ≤ 8) : hX L [(k, 0)] (n + 1 + 1) = some (n + 1) := by
  show (match h1X L (k, 0) (n + 1 + 1) with
    | none => none
    | some h' => hX L [] h') = _
  have e : h1X L (k, 0) (n + 1 + 1) = some (n + 1) := by
    unfold h1X
    rw [if_neg (by show ¬ k = 3; omega), if_neg (by show ¬ k = 27; omega), if_neg (by show ¬ k = 25; omega), if_pos ⟨rfl, Or.inl ⟨hk.1, by show k ≤ 12; omega⟩⟩, if_pos (by omega)]
    congr 1
  rw [e]
  rfl
theorem hX_sw {L n : Nat} {s w : List Nat} (hs : sgS s) (hw : sgW w) : hX L (enX s) (n + w.length + s.length + 1) = some (n + w.length + 1) ∧ hX L (enX w) (n + w.length + 1) = some (n + 1) := by
  constructor
  · rcases hs with rfl | rfl | rfl
    · rfl
    · exact hX_op (by decide)
    · exact hX_op (by decide)
  · rcases hw with rfl | rfl | rfl
    · rfl
    · exact hX_op (by decide)
    · exact hX_op (by decide)
theorem aX_sw {s w : List Nat} (hs : sgS s) (hw : sgW w) : aX (enX s) ∧ aX (enX w) := by
  constructor
  · intro e he
    rcases hs with rfl | rfl | rfl
    · cases he
    · have : e = (7, 0) := by simpa [enX] using he
      subst this; exact Or.inr (Or.inr (by decide))
    · have : e = (8, 0) := by simpa [enX] using he
      subst this; exact Or.inr (Or.inr (by decide))
  · intro e he
    rcases hw with rfl | rfl | rfl
    · cases he
    · have : e = (5, 0) := by simpa [enX] using he
      subst this; exact Or.inr (Or.inr (by decide))
    · have : e = (6, 0) := by simpa [enX] using he
      subst this; exact Or.inr (Or.inr (by decide))
theorem aX_app {p q : Cd} (h : aX p) (h' : aX q) : aX (p ++ q) := fun e he => by
  rcases List.mem_append.mp he with g | g
  · exact h e g
  · exact h' e g
theorem aX_1 {e : Nat × Int32} (h : e.1 = 3 ∨ e.1 = 27 ∨ (5 ≤ e.1 ∧ e.1 ≤ 8)) : aX [e] := fun x hx => by
  have : x = e := by simpa using hx
  subst this; exact h
/-- ahead of a unit, behind a unit -/
def beX (d : Nat) (s : PS) : Prop := d ≤ 6 ∧ shX d s.1 ∧ hX 20 s.2.1 0 = some (opsX s.1) ∧ aX s.2.1
def afX (d : Nat) (s : PS) : Prop := d ≤ 6 ∧ shX d s.1 ∧ hX 20 s.2.1 0 = some (opsX s.1 + 1) ∧ aX s.2.1
def lfX (s : PS) : Prop := (hX 20 s.2.2.1.2.2.2 0 = some 1 ∧ aX s.2.2.1.2.2.2) ∧ 9 ≤ s.2.2.1.2.2.1 ∧ s.2.2.1.2.2.1 ≤ 12
def gRl (d : List Lt × List Lt) : Prop := (∀ l ∈ d.1, gLt l) ∧ orS d.1 ∧ (∀ l ∈ d.2, gLt l) ∧ orS d.2 ∧ ¬ d.2 = []
def gdX (s : PS) : Prop := (∀ l ∈ s.2.2.2.1, gLt l) ∧ orS s.2.2.2.1 ∧ (s.2.2.2.1 = [] → s.2.2.1.1 = true) ∧ (∀ l ∈ s.2.2.2.2.1, gLt l) ∧ orS s.2.2.2.2.1 ∧ ∀ d ∈ s.2.2.2.2.2, gRl d
def PIX (m dp : Nat) (s : PS) : Prop := gdX s ∧ ((m = 10 ∨ m = 20) → s.1 = [] ∧ s.2.1 = [] ∧ dp = 0) ∧ ((m = 11 ∨ m = 13 ∨ m = 21 ∨ m = 23) → beX dp s) ∧ ((m = 12 ∨ m = 22) → afX dp s) ∧ ((m = 14 ∨ m = 16 ∨ m = 24 ∨ m = 26) → beX dp s ∧ lfX s) ∧ ((m = 15 ∨ m = 25) → afX dp s ∧ lfX s)
theorem be_0 {s : PS} (h1 : s.1 = []) (h2 : s.2.1 = []) : beX 0 s := by
  refine ⟨by decide, ⟨[], [], [], Or.inl rfl, Or.inl rfl, h1, rfl⟩, by rw [h1, h2]; rfl, by rw [h2]; exact fun e he => by cases he⟩
theorem opnd_ok {d : Nat} {s : PS} {e : Nat × Int32} (h : beX d s) (he : (e.1 = 3 ∧ 0 ≤ e.2 ∧ e.2 < 10000) ∨ (e.1 = 27 ∧ 0 ≤ e.2 ∧ e.2 < 14)) : afX d (s.1, s.2.1 ++ [e], s.2.2) := by
  obtain ⟨h1, h2, h3, h4⟩ := h
  have h5 := sh_ops h2
  refine ⟨h1, h2, hX_to h3 ?_, aX_app h4 (aX_1 (by rcases he with q | q; exact Or.inl q.1; exact Or.inr (Or.inl q.1)))⟩
  show (match h1X 20 e (opsX s.1) with
    | none => none
    | some h' => hX 20 [] h') = _
  have : h1X 20 e (opsX s.1) = some (opsX s.1 + 1) := by
    unfold h1X
    rcases he with ⟨q1, q2⟩ | ⟨q1, q2⟩
    · rw [if_pos q1, if_pos ⟨by omega, q2⟩]
    · rw [if_neg (by omega), if_pos q1, if_pos ⟨by omega, q2⟩]
  rw [this]; rfl
theorem opn_ok {d : Nat} {s : PS} (h : beX d s) (hd : d < 6) : beX (d + 1) (13 :: s.1, s.2) := by
  obtain ⟨h1, ⟨s', w, B, hs, hw, e, hb⟩, h3, h4⟩ := h
  refine ⟨by omega, ⟨[], [], 13 :: s.1, Or.inl rfl, Or.inl rfl, rfl, s', w, B, hs, hw, by rw [e], hb⟩, ?_, h4⟩
  show hX 20 s.2.1 0 = some (if (13 : Nat) = 13 then opsX s.1 else _)
  rw [if_pos rfl]; exact h3
/-- what comes out behind a unit -/
theorem out_ok {d : Nat} {s : PS} (h : afX d s) : ∃ B, bsX d B ∧ coX false s.1 s.2.1 = (B, finX s) ∧ hX 20 (finX s) 0 = some (opsX B + 1) ∧ aX (finX s) := by
  obtain ⟨h1, ⟨s', w, B, hs, hw, e, hb⟩, h3, h4⟩ := h
  have hc := co_all (O := s.2.1) hs hw hb.ba
  rw [← e] at hc
  have ef : finX s = s.2.1 ++ (enX s' ++ enX w) := by unfold finX; rw [hc]
  obtain ⟨o1, o2, o3⟩ := ops_sw (B := B) hs hw
  rw [← e] at o1
  obtain ⟨k1, k2⟩ := hX_sw (L := 20) (n := opsX B) hs hw
  refine ⟨B, hb, by rw [hc, ef], ?_, ?_⟩
  · rw [ef]
    refine hX_to h3 (hX_to (h1 := opsX B + w.length + 1) ?_ k2)
    rw [o1, show s'.length + w.length + opsX B + 1 = opsX B + w.length + s'.length + 1 by omega]
    exact k1
  · rw [ef]
    exact aX_app h4 (aX_app (aX_sw hs hw).1 (aX_sw hs hw).2)
theorem fin_ok {s : PS} (h : afX 0 s) : hX 20 (finX s) 0 = some 1 ∧ aX (finX s) := by
  obtain ⟨B, hb, -, h2, h3⟩ := out_ok h
  rw [show B = [] from hb] at h2
  exact ⟨h2, h3⟩
theorem cls_ok {d : Nat} {s : PS} (h : afX (d + 1) s) : afX d (aftX 14 s) := by
  obtain ⟨B, hb, h1, h2, h3⟩ := out_ok h
  obtain ⟨s', w, B', hs, hw, e, hb'⟩ := hb
  have ea : aftX 14 s = (s' ++ (w ++ B'), finX s, s.2.2) := by
    unfold aftX
    rw [if_neg (by decide), if_pos rfl, h1, e]
    rfl
  rw [ea]
  rw [e] at h2
  refine ⟨by have := h.1; omega, ⟨s', w, B', hs, hw, rfl, hb'⟩, ?_, h3⟩
  have : opsX (13 :: (s' ++ (w ++ B'))) = opsX (s' ++ (w ++ B')) := if_pos rfl
  rw [this] at h2
  exact h2
theorem opr_ok {d k : Nat} {s : PS} (h : afX d s) (hk : 5 ≤ k ∧ k ≤ 8) : beX d (aftX k s) := by
  have h0 := h
  obtain ⟨h1, ⟨s', w, B, hs, hw, e, hb⟩, h3, h4⟩ := h
  obtain ⟨o1, o2, o3⟩ := ops_sw (B := B) hs hw
  rw [← e] at o1
  by_cases c : 7 ≤ k
  · have hc := co_strong (O := s.2.1) hs hw hb.ba
    rw [← e] at hc
    have ea : aftX k s = ([k] ++ (w ++ B), s.2.1 ++ enX s', s.2.2) := by
      unfold aftX
      rw [if_pos hk, decide_eq_true c, hc]
      rfl
    have hk' : sgS [k] := by
      rcases (show k = 7 ∨ k = 8 by omega) with rfl | rfl
      · exact Or.inr (Or.inl rfl)
      · exact Or.inr (Or.inr rfl)
    rw [ea]
    obtain ⟨o4, -, -⟩ := ops_sw (s := [k]) (B := B) hk' hw
    obtain ⟨k1, k2⟩ := hX_sw (L := 20) (n := opsX B) hs hw
    refine ⟨h1, ⟨[k], w, B, hk', hw, rfl, hb⟩, ?_, aX_app h4 (aX_sw hs hw).1⟩
    show hX 20 (s.2.1 ++ enX s') 0 = some (opsX ([k] ++ (w ++ B)))
    rw [o4]
    refine hX_to h3 ?_
    rw [o1, show s'.length + w.length + opsX B + 1 = opsX B + w.length + s'.length + 1 by omega, k1]
    congr 1
    show opsX B + w.length + 1 = 1 + w.length + opsX B
    omega
  · obtain ⟨B2, hb2, h5, h6, h7⟩ := out_ok h0
    have ea : aftX k s = (k :: B2, finX s, s.2.2) := by
      unfold aftX
      rw [if_pos hk, decide_eq_false c, h5]
    have hk' : sgW [k] := by
      rcases (show k = 5 ∨ k = 6 by omega) with rfl | rfl
      · exact Or.inr (Or.inl rfl)
      · exact Or.inr (Or.inr rfl)
    rw [ea]
    refine ⟨h1, ⟨[], [k], B2, Or.inl rfl, hk', rfl, hb2⟩, ?_, h7⟩
    show hX 20 (finX s) 0 = some (if k = 13 then opsX B2 else opsX B2 + 1)
    rw [if_neg (by omega)]
    exact h6
theorem gLt_app {ls : List Lt} {l : Lt} (h : ∀ x ∈ ls, gLt x) (hl : gLt l) : ∀ x ∈ ls ++ [l], gLt x := fun x hx => by
  rcases List.mem_append.mp hx with g | g
  · exact h x g
  · have : x = l := by simpa using g
    subst this; exact hl
theorem orF_app {ls : List Lt} {l : Lt} (h : orS ls) (hl : ls = [] → l.1 = true) : orS (ls ++ [l]) := by
  cases ls with
  | nil => intro x hx; cases hx; exact hl rfl
  | cons y ls => exact fun x hx => h x hx
theorem lit_ok {s : PS} (h : afX 0 s) (hl : lfX s) (hg : gdX s) : (∀ l ∈ litX s, gLt l) ∧ orS (litX s) ∧ ¬ litX s = [] := by
  obtain ⟨g1, g2, g3, g4, g5, g6⟩ := hg
  obtain ⟨f1, f2⟩ := fin_ok h
  refine ⟨gLt_app g1 ⟨hl.1, ⟨f1, f2⟩, hl.2⟩, orF_app g2 g3, fun e => ?_⟩
  unfold litX at e
  have := congrArg List.length e
  rw [List.length_append] at this
  cases this
/-- one token further -/
theorem uni_ok {a u c dp k : Nat} {v : Int32} {s : PS} {q : Nat × Nat} (hb : beX dp s) (hv : 0 ≤ v ∧ v < 10000) (hg : gu a u c dp k = .inr q) : (q.1 = a ∧ afX q.2 (uniX k v s) ∨ q.1 = u ∧ beX q.2 (uniX k v s) ∨ q.1 = c ∧ beX q.2 (uniX k v s)) ∧ (uniX k v s).2.2 = s.2.2 := by
  unfold gu at hg
  unfold uniX
  split at hg
  · rename_i c13
    rw [if_pos c13]
    split at hg
    · cases hg
    · cases hg
      exact ⟨Or.inr (Or.inl ⟨rfl, opn_ok hb (by omega)⟩), rfl⟩
  · rename_i c13
    rw [if_neg c13]
    split at hg
    · rename_i cv
      rw [if_pos cv]
      cases hg
      refine ⟨Or.inl ⟨rfl, opnd_ok hb (Or.inr ⟨rfl, ?_⟩)⟩, rfl⟩
      have : ∀ j, j < 10 → 0 ≤ nI j ∧ nI j < (14 : Int32) := by decide
      exact this _ (by omega)
    · rename_i cv
      rw [if_neg cv]
      split at hg
      · rename_i c26
        rw [if_pos c26]
        cases hg
        exact ⟨Or.inr (Or.inr ⟨rfl, hb⟩), rfl⟩
      · rename_i c26
        rw [if_neg c26]
        split at hg
        · cases hg
          exact ⟨Or.inl ⟨rfl, opnd_ok hb (Or.inl ⟨rfl, hv⟩)⟩, rfl⟩
        · cases hg
theorem cnt_ok {dp : Nat} {v : Int32} {s : PS} (hb : beX dp s) (hv : off v 0 3 = false) : afX dp (s.1, s.2.1 ++ [(27, nI 10 + v)], s.2.2) := by
  refine opnd_ok hb (Or.inr ⟨rfl, ?_⟩)
  unfold off at hv
  rw [Bool.or_eq_false_iff, decide_eq_false_iff_not, decide_eq_false_iff_not, Int32.lt_iff_toInt_lt, Int32.lt_iff_toInt_lt] at hv
  have z0 : (0 : Int32).toInt = 0 := rfl
  have z3 : (3 : Int32).toInt = 3 := by decide
  have ev : v = nI v.toInt.toNat := i_nI (by omega) (by omega)
  have : ∀ j, j < 4 → 0 ≤ nI 10 + nI j ∧ nI 10 + nI j < (14 : Int32) := by decide
  rw [ev]
  exact this _ (by omega)
theorem aft_2 {k : Nat} {s : PS} : (aftX k s).2.2 = s.2.2 := by
  unfold aftX
  split
  · rfl
  · split <;> rfl
theorem ga_ok {a u dp k : Nat} {rest : Nat ⊕ (Nat × Nat)} {s : PS} {q : Nat × Nat} (hb : afX dp s) (hg : ga a u dp k rest = .inr q) (hr : ¬ (5 ≤ k ∧ k ≤ 8) → dp = 0 → ¬ rest = .inr q) : (q.1 = a ∧ afX q.2 (aftX k s)) ∨ (q.1 = u ∧ beX q.2 (aftX k s)) := by
  unfold ga at hg
  split at hg
  · rename_i ck
    cases hg
    exact Or.inr ⟨rfl, opr_ok hb ck⟩
  · rename_i ck
    split at hg
    · rename_i c14
      cases hg
      obtain ⟨rfl, hd⟩ := c14
      obtain ⟨d', rfl⟩ : ∃ d', dp = d' + 1 := ⟨dp - 1, by omega⟩
      exact Or.inl ⟨rfl, cls_ok hb⟩
    · split at hg
      · rename_i c0
        exact absurd hg (hr ck c0)
      · cases hg
theorem PIX.of {m dp : Nat} {s : PS} (hg : gdX s) (h1 : (m = 10 ∨ m = 20) → s.1 = [] ∧ s.2.1 = [] ∧ dp = 0) (h2 : (m = 11 ∨ m = 13 ∨ m = 21 ∨ m = 23) → beX dp s) (h3 : (m = 12 ∨ m = 22) → afX dp s) (h4 : (m = 14 ∨ m = 16 ∨ m = 24 ∨ m = 26) → beX dp s ∧ lfX s) (h5 : (m = 15 ∨ m = 25) → afX dp s ∧ lfX s) : PIX m dp s := ⟨hg, h1, h2, h3, h4, h5⟩
theorem gd_eq {s s' : PS} (h : gdX s) (e : s'.2.2 = s.2.2) : gdX s' := by
  unfold gdX at h ⊢
  rw [e]; exact h
theorem lf_eq {s s' : PS} (h : lfX s) (e : s'.2.2 = s.2.2) : lfX s' := by
  unfold lfX at h ⊢
  rw [e]; exact h
theorem PIX.idle {m dp : Nat} {s : PS} (hg : gdX s) (h : m < 10) : PIX m dp s := ⟨hg, fun e => by omega, fun e => by omega, fun e => by omega, fun e => by omega, fun e => by omega⟩
theorem ps_uniL {b dp k : Nat} {v : Int32} {s : PS} {q : Nat × Nat} (hb : b = 10 ∨ b = 20) (hgd : gdX s) (hbe : beX dp s) (hv : 0 ≤ v ∧ v < 10000) (hg : gu (b + 2) (b + 1) (b + 3) dp k = .inr q) : PIX q.1 q.2 (uniX k v s) := by
  obtain ⟨h1, h2⟩ := uni_ok hbe hv hg
  have g := gd_eq hgd h2
  rcases h1 with ⟨e, h⟩ | ⟨e, h⟩ | ⟨e, h⟩
  · exact PIX.of g (fun x => by omega) (fun x => by omega) (fun _ => h) (fun x => by omega) (fun x => by omega)
  · exact PIX.of g (fun x => by omega) (fun _ => h) (fun x => by omega) (fun x => by omega) (fun x => by omega)
  · exact PIX.of g (fun x => by omega) (fun _ => h) (fun x => by omega) (fun x => by omega) (fun x => by omega)
theorem ps_uniR {b dp k : Nat} {v : Int32} {s : PS} {q : Nat × Nat} (hb : b = 10 ∨ b = 20) (hgd : gdX s) (hbe : beX dp s) (hl : lfX s) (hv : 0 ≤ v ∧ v < 10000) (hg : gu (b + 5) (b + 4) (b + 6) dp k = .inr q) : PIX q.1 q.2 (uniX k v s) := by
  obtain ⟨h1, h2⟩ := uni_ok hbe hv hg
  have g := gd_eq hgd h2
  have l := lf_eq hl h2
  rcases h1 with ⟨e, h⟩ | ⟨e, h⟩ | ⟨e, h⟩
  · exact PIX.of g (fun x => by omega) (fun x => by omega) (fun x => by omega) (fun x => by omega) (fun _ => ⟨h, l⟩)
  · exact PIX.of g (fun x => by omega) (fun x => by omega) (fun x => by omega) (fun _ => ⟨h, l⟩) (fun x => by omega)
  · exact PIX.of g (fun x => by omega) (fun x => by omega) (fun x => by omega) (fun _ => ⟨h, l⟩) (fun x => by omega)
theorem gs_fam {b : Nat} (hb : b = 10 ∨ b = 20) (dp c k : Nat) : gs b dp c k = (if k = 25 then .inr (b, 0) else gu (b + 2) (b + 1) (b + 3) dp k) ∧ gs (b + 1) dp c k = gu (b + 2) (b + 1) (b + 3) dp k ∧ gs (b + 2) dp c k = ga (b + 2) (b + 1) dp k (if 9 ≤ k ∧ k ≤ 12 then .inr (b + 4, 0) else .inl 1) ∧ gs (b + 3) dp c k = (if k = 3 then .inr (b + 2, dp) else .inl 1) ∧ gs (b + 4) dp c k = gu (b + 5) (b + 4) (b + 6) dp k ∧ gs (b + 5) dp c k = ga (b + 5) (b + 4) dp k (if k = 23 ∨ k = 24 then .inr (b, 0) else if b = 10 then (if k = 22 then .inr (20, 0) else .inl 1) else (if k = 4 then .inr (0, 0) else .inl 1)) ∧ gs (b + 6) dp c k = (if k = 3 then .inr (b + 5, dp) else .inl 1) := by
  rcases hb with rfl | rfl
  · exact ⟨rfl, rfl, rfl, rfl, rfl, rfl, rfl⟩
  · exact ⟨rfl, rfl, rfl, rfl, rfl, rfl, rfl⟩
theorem gd_c0 {s : PS} {o : Bool} {ls : List Lt} {W : List Nat} {O : Cd} (hg : gdX s) (h1 : ∀ l ∈ ls, gLt l) (h2 : orS ls) (h3 : ls = [] → o = true) : gdX (W, O, c0X o, ls, s.2.2.2.2) := ⟨h1, h2, h3, hg.2.2.2⟩
theorem ps_step {m dp c k : Nat} {v : Int32} {s : PS} {q : Nat × Nat} (hp : PIX m dp s) (hg : gs m dp c k = .inr q) (hv : 0 ≤ v ∧ v < 10000) (hc : (m = 13 ∨ m = 16 ∨ m = 23 ∨ m = 26) → off v 0 3 = false) : PIX q.1 q.2 (psS m k v s) := by
  obtain ⟨g, p1, p2, p3, p4, p5⟩ := hp
  -- a literal's end
  have fam : ∀ b, (b = 10 ∨ b = 20) → (m = b ∨ m = b + 1 ∨ m = b + 2 ∨ m = b + 3 ∨ m = b + 4 ∨ m = b + 5 ∨ m = b + 6) → PIX q.1 q.2 (psS m k v s) := by
    intro b hb hm
    obtain ⟨f0, f1, f2, f3, f4, f5, f6⟩ := gs_fam hb dp c k
    rcases hm with rfl | rfl | rfl | rfl | rfl | rfl | rfl
    · rw [f0] at hg
      obtain ⟨e1, e2, e3⟩ := p1 hb
      have e : psS m k v s = if k = 25 then (s.1, s.2.1, (s.2.2.1.1, !s.2.2.1.2.1, s.2.2.1.2.2), s.2.2.2) else uniX k v s := by
        unfold psS
        rw [if_neg (by omega), if_pos hb]
      rw [e]
      split at hg
      · rename_i c25
        rw [if_pos c25]
        cases hg
        exact PIX.of g (fun _ => ⟨e1, e2, rfl⟩) (fun x => by omega) (fun x => by omega) (fun x => by omega) (fun x => by omega)
      · rename_i c25
        rw [if_neg c25]
        subst e3
        exact ps_uniL hb g (be_0 e1 e2) hv hg
    · rw [f1] at hg
      have e : psS (b + 1) k v s = uniX k v s := by
        unfold psS
        rw [if_neg (by omega), if_neg (by omega), if_pos (by omega)]
      rw [e]
      exact ps_uniL hb g (p2 (by omega)) hv hg
    · rw [f2] at hg
      have ha := p3 (by omega)
      have e : psS (b + 2) k v s = if 9 ≤ k ∧ k ≤ 12 then ([], [], (s.2.2.1.1, s.2.2.1.2.1, k, finX s), s.2.2.2) else aftX k s := by
        unfold psS
        rw [if_neg (by omega), if_neg (by omega), if_neg (by omega), if_neg (by omega), if_pos (by omega)]
      rw [e]
      by_cases ck : 9 ≤ k ∧ k ≤ 12
      · rw [if_pos ck]
        unfold ga at hg
        rw [if_neg (by omega), if_neg (by omega), if_pos ck] at hg
        split at hg
        · rename_i d0
          cases hg
          subst d0
          have hf := fin_ok ha
          refine PIX.of ⟨g.1, g.2.1, g.2.2.1, g.2.2.2⟩ (fun x => by omega) (fun x => by omega) (fun x => by omega) (fun _ => ⟨be_0 rfl rfl, hf, ck⟩) (fun x => by omega)
        · cases hg
      · rw [if_neg ck]
        rw [if_neg ck] at hg
        rcases ga_ok ha hg (fun _ _ e => by cases e) with ⟨e1, e2⟩ | ⟨e1, e2⟩
        · exact PIX.of (gd_eq g aft_2) (fun x => by omega) (fun x => by omega) (fun _ => e2) (fun x => by omega) (fun x => by omega)
        · exact PIX.of (gd_eq g aft_2) (fun x => by omega) (fun _ => e2) (fun x => by omega) (fun x => by omega) (fun x => by omega)
    · rw [f3] at hg
      have e : psS (b + 3) k v s = (s.1, s.2.1 ++ [(27, nI 10 + v)], s.2.2) := by
        unfold psS
        rw [if_neg (by omega), if_neg (by omega), if_neg (by omega), if_pos (by omega)]
      rw [e]
      split at hg
      · cases hg
        exact PIX.of (gd_eq g rfl) (fun x => by omega) (fun x => by omega) (fun _ => cnt_ok (p2 (by omega)) (hc (by omega))) (fun x => by omega) (fun x => by omega)
      · cases hg
    · rw [f4] at hg
      have e : psS (b + 4) k v s = uniX k v s := by
        unfold psS
        rw [if_neg (by omega), if_neg (by omega), if_pos (by omega)]
      rw [e]
      obtain ⟨h1, h2⟩ := p4 (by omega)
      exact ps_uniR hb g h1 h2 hv hg
    · rw [f5] at hg
      obtain ⟨ha, hl⟩ := p5 (by omega)
      have e : psS (b + 5) k v s = if k = 23 ∨ k = 24 then ([], [], c0X (decide (k = 23)), litX s, s.2.2.2.2) else if k = 22 then ([], [], c0X true, [], litX s, s.2.2.2.2.2) else if k = 4 then ([], [], c0X true, [], [], s.2.2.2.2.2 ++ [(s.2.2.2.2.1, litX s)]) else aftX k s := by
        unfold psS
        rw [if_neg (by omega), if_neg (by omega), if_neg (by omega), if_neg (by omega), if_neg (by omega), if_pos (by omega)]
      rw [e]
      have rest0 : ∀ r : Nat ⊕ (Nat × Nat), ¬ (5 ≤ k ∧ k ≤ 8) → ¬ k = 14 → ga (b + 5) (b + 4) dp k r = .inr q → dp = 0 ∧ r = .inr q := by
        intro r h1 h2 h3
        unfold ga at h3
        rw [if_neg h1, if_neg (fun e => h2 e.1)] at h3
        split at h3
        · rename_i d0; exact ⟨d0, h3⟩
        · cases h3
      by_cases c1 : k = 23 ∨ k = 24
      · rw [if_pos c1]
        obtain ⟨d0, hq⟩ := rest0 _ (by omega) (by omega) hg
        rw [if_pos c1] at hq
        cases hq
        subst d0
        obtain ⟨l1, l2, l3⟩ := lit_ok ha hl g
        exact PIX.of (gd_c0 g l1 l2 (fun e => absurd e l3)) (fun _ => ⟨rfl, rfl, rfl⟩) (fun x => by omega) (fun x => by omega) (fun x => by omega) (fun x => by omega)
      · rw [if_neg c1]
        by_cases c2 : k = 22
        · rw [if_pos c2]
          obtain ⟨d0, hq⟩ := rest0 _ (by omega) (by omega) hg
          rw [if_neg c1] at hq
          by_cases eb : b = 10
          · rw [if_pos eb, if_pos c2] at hq
            cases hq
            subst d0
            obtain ⟨l1, l2, l3⟩ := lit_ok ha hl g
            exact PIX.of ⟨fun x hx => by (cases hx), fun x hx => by (cases hx), fun _ => rfl, l1, l2, g.2.2.2.2.2⟩ (fun _ => ⟨rfl, rfl, rfl⟩) (fun x => by omega) (fun x => by omega) (fun x => by omega) (fun x => by omega)
          · rw [if_neg eb, if_neg (by omega)] at hq
            cases hq
        · rw [if_neg c2]
          by_cases c3 : k = 4
          · rw [if_pos c3]
            obtain ⟨d0, hq⟩ := rest0 _ (by omega) (by omega) hg
            rw [if_neg c1] at hq
            by_cases eb : b = 10
            · rw [if_pos eb, if_neg c2] at hq
              cases hq
            · rw [if_neg eb, if_pos c3] at hq
              cases hq
              subst d0
              obtain ⟨l1, l2, l3⟩ := lit_ok ha hl g
              refine PIX.idle ⟨fun x hx => by (cases hx), fun x hx => by (cases hx), fun _ => rfl, fun x hx => by (cases hx), fun x hx => by (cases hx), fun d hd => ?_⟩ (by decide)
              rcases List.mem_append.mp hd with h | h
              · exact g.2.2.2.2.2 d h
              · have : d = (s.2.2.2.2.1, litX s) := by simpa using h
                subst this
                exact ⟨g.2.2.2.1, g.2.2.2.2.1, l1, l2, l3⟩
          · rw [if_neg c3]
            rcases ga_ok ha hg (fun _ _ e => by
              rw [if_neg c1] at e
              by_cases eb : b = 10
              · rw [if_pos eb, if_neg c2] at e; cases e
              · rw [if_neg eb, if_neg c3] at e; cases e) with ⟨e1, e2⟩ | ⟨e1, e2⟩
            · exact PIX.of (gd_eq g aft_2) (fun x => by omega) (fun x => by omega) (fun x => by omega) (fun x => by omega) (fun _ => ⟨e2, lf_eq hl aft_2⟩)
            · exact PIX.of (gd_eq g aft_2) (fun x => by omega) (fun x => by omega) (fun x => by omega) (fun _ => ⟨e2, lf_eq hl aft_2⟩) (fun x => by omega)
    · rw [f6] at hg
      have e : psS (b + 6) k v s = (s.1, s.2.1 ++ [(27, nI 10 + v)], s.2.2) := by
        unfold psS
        rw [if_neg (by omega), if_neg (by omega), if_neg (by omega), if_pos (by omega)]
      rw [e]
      obtain ⟨h1, h2⟩ := p4 (by omega)
      split at hg
      · cases hg
        exact PIX.of (gd_eq g rfl) (fun x => by omega) (fun x => by omega) (fun x => by omega) (fun x => by omega) (fun _ => ⟨cnt_ok h1 (hc (by omega)), lf_eq h2 rfl⟩)
      · cases hg
  by_cases m10 : 10 ≤ m ∧ m ≤ 16
  · exact fam 10 (Or.inl rfl) (by omega)
  · by_cases m20 : 20 ≤ m ∧ m ≤ 26
    · exact fam 20 (Or.inr rfl) (by omega)
    · by_cases m9 : m = 9
      · subst m9
        have e : psS 9 k v s = ([], [], c0X true, [], [], s.2.2.2.2.2) := if_pos rfl
        rw [e]
        have hq : q = (10, 0) ∨ q = (20, 0) := by
          have hg' : (if k = 21 then (.inr (10, 0) : Nat ⊕ (Nat × Nat)) else if k = 22 then .inr (20, 0) else .inl 1) = .inr q := hg
          split at hg'
          · cases hg'; exact Or.inl rfl
          · split at hg'
            · cases hg'; exact Or.inr rfl
            · cases hg'
        have g' : gdX ([], [], c0X true, [], [], s.2.2.2.2.2) := ⟨fun x hx => by (cases hx), fun x hx => by (cases hx), fun _ => rfl, fun x hx => by (cases hx), fun x hx => by (cases hx), g.2.2.2.2.2⟩
        rcases hq with rfl | rfl
        · exact PIX.of g' (fun _ => ⟨rfl, rfl, rfl⟩) (fun x => by omega) (fun x => by omega) (fun x => by omega) (fun x => by omega)
        · exact PIX.of g' (fun _ => ⟨rfl, rfl, rfl⟩) (fun x => by omega) (fun x => by omega) (fun x => by omega) (fun x => by omega)
      · have e : psS m k v s = s := by
          unfold psS
          rw [if_neg m9, if_neg (by omega), if_neg (by omega), if_neg (by omega), if_neg (by omega), if_neg (by omega)]
        rw [e]
        have lo : q.1 < 10 := by
          have one : ∀ {P : Prop} [Decidable P] {x : Nat × Nat} {n : Nat}, (if P then (Sum.inr x : Nat ⊕ (Nat × Nat)) else .inl n) = .inr q → x = q := by
            intro P _ x n h
            by_cases hp : P
            · rw [if_pos hp] at h; cases h; rfl
            · rw [if_neg hp] at h; cases h
          unfold gs at hg
          split at hg
          · split at hg
            · cases hg
            · split at hg
              · cases hg; decide
              · split at hg
                · cases hg; decide
                · split at hg
                  · split at hg
                    · cases hg
                    · cases hg; decide
                  · cases hg
          all_goals first
            | (have := one hg; subst this; decide)
            | (exfalso; omega)
            | (cases hg; done)
        exact PIX.idle g lo
theorem ps_ok {TT : List Tk} (hW : WT TT) : ∀ i s, evs TT i = none → pr TT i = .inr s → PIX s.1.1 s.1.2 (psT TT i) := by
  intro i
  induction i with
  | zero =>
    intro s _ hp
    cases hp
    exact PIX.idle ⟨fun x hx => by (cases hx), fun x hx => by (cases hx), fun _ => rfl, fun x hx => by (cases hx), fun x hx => by (cases hx), fun d hd => by (cases hd)⟩ (by decide)
  | succ i ih =>
    intro s' he hp
    cases hpi : pr TT i with
    | inl f =>
      have hp' : (match pr TT i with
        | .inr s => st1 s (kdT TT i) i
        | .inl f => .inl f) = .inr s' := hp
      rw [hpi] at hp'
      cases hp'
    | inr s =>
      have hp' : (match pr TT i with
        | .inr s => st1 s (kdT TT i) i
        | .inl f => .inl f) = .inr s' := hp
      rw [hpi] at hp'
      have hp' : st1 s (kdT TT i) i = .inr s' := hp'
      have e0 := evs_step hpi
      rw [he] at e0
      have hei : evs TT i = none := by
        cases hv : evs TT i with
        | none => rfl
        | some x => rw [hv] at e0; cases e0
      have hT : evT TT s i = 0 := by
        rw [hei] at e0
        unfold evO at e0
        by_cases c : evT TT s i = 0
        · exact c
        · rw [if_neg c] at e0; cases e0
      have hI := ih s hei hpi
      have hv := vl_rg hW hpi
      unfold st1 at hp'
      split at hp'
      · cases hp'
      · rename_i q hq
        split at hp'
        · cases hp'
        · cases hp'
          rw [ps_next hpi]
          refine ps_step (q := q) hI hq ⟨?_, ?_⟩ (fun hm => ?_)
          · rw [Int32.le_iff_toInt_le]; exact hv.1
          · rw [Int32.lt_iff_toInt_lt]
            have : (10000 : Int32).toInt = 10000 := by decide
            omega
          · unfold evT at hT
            rw [if_neg (by omega), if_neg (by omega), if_neg (by omega), if_neg (by omega), if_pos hm] at hT
            cases hof : off (vlT TT i) 0 3 with
            | true => rw [hof] at hT; cases hT
            | false => rfl
