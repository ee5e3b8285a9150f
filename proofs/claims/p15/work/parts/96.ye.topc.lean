/-! the calls of the game, as functions; the class -/
def C0 : Nat → Int32 := fun _ => 0
def tnG (l : LA) (g : GA) : Int32 := tnF (l.1 * l.2.1) l.2.1 l.2.2.1 g.2.1 g.2.2.1 g.2.2.2.1 g.2.2.2.2
def alF (N : Nat) : Int32 := ((1 : Int32) <<< (nI N &&& 31)) - 1
def hO (N : Nat) (x : Int32) : Bool := decide (x &&& (alF N ^^^ (-1)) = 0) && decide (bcF x = nI (N / 4))
def hdOK (N : Nat) (a b c : Int32) : Bool := hO N a && (hO N b && (hO N c && (decide (a &&& b = 0) && (decide (a &&& c = 0) && decide (b &&& c = 0)))))
def fHands (l : LA) (a b c : Int32) (o : Option GA) : Int32 × Option GA := if hdOK (l.1 * l.2.1) a b c then (1, some (d4 a b c (alF (l.1 * l.2.1) &&& (((a ||| b) ||| c) ^^^ (-1))), 0, C0, C0, 0)) else (0, o)
def fLead (x : Int32) : Option GA → Int32 × Option GA
  | none => (0, none)
  | some g => if g.2.2.2.2 = 0 ∧ 0 ≤ x ∧ x < 4 then (1, some (g.1, x, g.2.2)) else (0, some g)
def fHand (p a : Int32) : Option GA → Int32
  | none => -1
  | some g => if 0 ≤ p ∧ p < 4 then (if a = 0 then hnF g.1 g.2.2.1 g.2.2.2.1 p.toNatClampNeg g.2.2.2.2 else g.1 p.toNatClampNeg) else -1
def fTurn (l : LA) : Option GA → Int32
  | none => -2
  | some g => tnG l g
def myG (l : LA) (g : GA) : Int32 := myF l.1 l.2.1 l.2.2.1 g.2.1 g.1 g.2.2.1 g.2.2.2.1 g.2.2.2.2
def fMay (l : LA) : Option GA → Int32
  | none => 0
  | some g => myG l g
def inB (l : LA) (g : GA) (x : Int32) : Bool := decide (0 ≤ tnG l g) && (decide (0 ≤ x ∧ x < nI (l.1 * l.2.1)) && decide (¬ (hnF g.1 g.2.2.1 g.2.2.2.1 (tnG l g).toNatClampNeg g.2.2.2.2 >>> (x &&& 31)) &&& 1 = 0))
def putG (l : LA) (g : GA) (x : Int32) : GA := (g.1, g.2.1, upF g.2.2.1 g.2.2.2.2 x, upF g.2.2.2.1 g.2.2.2.2 (tnG l g), g.2.2.2.2 + 1)
def fPlay (l : LA) (x : Int32) : Option GA → Int32 × Option GA
  | none => (-1, none)
  | some g => if inB l g x then (if (myG l g >>> (x &&& 31)) &&& 1 = 0 then (-2, some g) else (nI (g.2.2.2.2 + 1), some (putG l g x))) else (-1, some g)
def fRev (l : LA) (x : Int32) : Option GA → Int32 × Option GA
  | none => (-1, none)
  | some g => if inB l g x then (nI (g.2.2.2.2 + 1), some (putG l g x)) else (-1, some g)
def fUndo : Option GA → Int32 × Option GA
  | none => (-1, none)
  | some g => if g.2.2.2.2 = 0 then (-1, some g) else (nI (g.2.2.2.2 - 1), some (g.1, g.2.1, g.2.2.1, g.2.2.2.1, g.2.2.2.2 - 1))
def cdG (l : LA) (g : GA) (i : Nat) (x : Int32) : Int32 := if x = 0 then g.2.2.1 i else if x = 1 then g.2.2.2.1 i else if x = 2 then kdF l.2.1 g.2.2.1 i else if x = 3 then bfF l.2.1 g.2.2.1 g.2.2.2.1 (g.2.2.2.1 i) (suF l.2.1 (g.2.2.1 i)) i else if x = 4 then brF l.1 l.2.1 g.1 g.2.2.1 g.2.2.2.1 i else if x = 5 then shF l.1 l.2.1 g.1 g.2.2.1 g.2.2.2.1 g.2.2.2.2 i else -1
def fCard (l : LA) (i x : Int32) : Option GA → Int32
  | none => -1
  | some g => if 0 ≤ i ∧ i < nI g.2.2.2.2 then cdG l g i.toNatClampNeg x else -1
def fTricks (l : LA) (x : Int32) (o : Option GA) : Int32 := if 0 ≤ x ∧ x ≤ 1 then (match o with
  | none => 0
  | some g => woF l.2.1 l.2.2.1 g.2.2.1 g.2.2.2.1 x (g.2.2.2.2 / 4)) else -1
def fWin (l : LA) (x : Int32) : Option GA → Int32
  | none => -1
  | some g => if 0 ≤ x ∧ x < nI (g.2.2.2.2 / 4) then g.2.2.2.1 (bsF l.2.1 l.2.2.1 g.2.2.1 (4 * x.toNatClampNeg) 3) else -1
def shG (l : LA) (g : GA) (i : Nat) : Int32 := shF l.1 l.2.1 g.1 g.2.2.1 g.2.2.2.1 g.2.2.2.2 i
def rvB (l : LA) (g : GA) : Nat → Int32
  | 0 => 0
  | k + 1 => rvB l g k + brF l.1 l.2.1 g.1 g.2.2.1 g.2.2.2.1 k
def rvS (l : LA) (g : GA) : Nat → Nat
  | 0 => 0
  | k + 1 => if shG l g k < 0 then rvS l g k else rvS l g k + 1
def rvF (l : LA) (g : GA) : Nat → Int32
  | 0 => 16
  | k + 1 => if shG l g k < 0 then rvF l g k else if shG l g k / 4 < rvF l g k then shG l g k / 4 else rvF l g k
def fRevs (l : LA) (x : Int32) (o : Option GA) : Int32 := if 0 ≤ x ∧ x ≤ 2 then (match o with
  | none => if x = 0 then 0 else if x = 1 then 0 else -2
  | some g => if x = 0 then rvB l g g.2.2.2.2 else if x = 1 then nI (rvS l g g.2.2.2.2) else if rvS l g g.2.2.2.2 = 0 then -2 else rvF l g g.2.2.2.2) else -1
theorem fLead_s {x : Int32} {g : GA} : fLead x (some g) = if g.2.2.2.2 = 0 ∧ 0 ≤ x ∧ x < 4 then (1, some (g.1, x, g.2.2)) else (0, some g) := rfl
theorem fHand_s {p a : Int32} {g : GA} : fHand p a (some g) = if 0 ≤ p ∧ p < 4 then (if a = 0 then hnF g.1 g.2.2.1 g.2.2.2.1 p.toNatClampNeg g.2.2.2.2 else g.1 p.toNatClampNeg) else -1 := rfl
theorem fPlay_s {l : LA} {x : Int32} {g : GA} : fPlay l x (some g) = if inB l g x then (if (myG l g >>> (x &&& 31)) &&& 1 = 0 then (-2, some g) else (nI (g.2.2.2.2 + 1), some (putG l g x))) else (-1, some g) := rfl
theorem fRev_s {l : LA} {x : Int32} {g : GA} : fRev l x (some g) = if inB l g x then (nI (g.2.2.2.2 + 1), some (putG l g x)) else (-1, some g) := rfl
theorem fUndo_s {g : GA} : fUndo (some g) = if g.2.2.2.2 = 0 then (-1, some g) else (nI (g.2.2.2.2 - 1), some (g.1, g.2.1, g.2.2.1, g.2.2.2.1, g.2.2.2.2 - 1)) := rfl
theorem fCard_s {l : LA} {i x : Int32} {g : GA} : fCard l i x (some g) = if 0 ≤ i ∧ i < nI g.2.2.2.2 then cdG l g i.toNatClampNeg x else -1 := rfl
theorem fWin_s {l : LA} {x : Int32} {g : GA} : fWin l x (some g) = if 0 ≤ x ∧ x < nI (g.2.2.2.2 / 4) then g.2.2.2.1 (bsF l.2.1 l.2.2.1 g.2.2.1 (4 * x.toNatClampNeg) 3) else -1 := rfl
theorem le_lt {x y : Int32} : x ≤ y ↔ ¬ y < x := by
  rw [Int32.le_iff_toInt_le, Int32.lt_iff_toInt_lt]
  omega
theorem nn_of {x : Int32} {N : Nat} (hN : N < 2 ^ 31) (h0 : 0 ≤ x) (h1 : x < nI N) : ∃ c, c < N ∧ x = nI c := by
  rw [Int32.lt_iff_toInt_lt, nI_toInt hN] at h1
  rw [Int32.le_iff_toInt_le] at h0
  have : (0 : Int32).toInt = 0 := rfl
  exact ⟨x.toInt.toNat, by omega, i_nI (by omega) (by omega)⟩
theorem shr_b {h : Int32} {c : Nat} (hc : c < 32) : ((h >>> (nI c &&& 31)) &&& 1 = 0) ↔ bt h c = false := by
  rw [shr_bt (nI_toInt (by omega)) hc]
  cases bt h c with
  | true => exact ⟨fun e => absurd e (by decide), fun e => by cases e⟩
  | false => exact ⟨fun _ => rfl, fun _ => rfl⟩
section Tc
variable {l : LA} {o : Option GA} {n : Nat} {x y z w : Int32} {σ σ1 : Sg}
theorem inB_of {g : GA} (hl : lV l) (hv : vG l (some g)) (h : inB l g x = true) : ∃ c, c < l.1 * l.2.1 ∧ x = nI c ∧ g.2.2.2.2 < l.1 * l.2.1 ∧ bt (hnF g.1 g.2.2.1 g.2.2.2.1 (tnG l g).toNatClampNeg g.2.2.2.2) c = true := by
  have hN := hl.1.2.2.2.2.1
  unfold inB at h
  simp only [Bool.and_eq_true, decide_eq_true_eq] at h
  obtain ⟨h1, h2, h3⟩ := h
  obtain ⟨c, hc, rfl⟩ := nn_of (by omega) h2.1 h2.2
  refine ⟨c, hc, rfl, ?_, ?_⟩
  · rcases Nat.lt_or_ge g.2.2.2.2 (l.1 * l.2.1) with q | q
    · exact q
    · have e : tnG l g = -2 := tn_end q
      rw [e] at h1; exact absurd h1 (by decide)
  · cases hb : bt (hnF g.1 g.2.2.1 g.2.2.2.1 (tnG l g).toNatClampNeg g.2.2.2.2) c with
    | true => rfl
    | false => exact absurd ((shr_b (by omega)).mpr hb) h3
theorem v_put {g : GA} (hl : lV l) (hv : vG l (some g)) (h : inB l g x = true) : vG l (some (putG l g x)) := by
  obtain ⟨c, hc, rfl, hm, hb⟩ := inB_of hl hv h
  exact gV.put hv hm hc hb
theorem v_0 {D : Nat → Int32} {u : Nat} (hu : u < 4) : vG l (some (D, nI u, C0, C0, 0)) := ⟨⟨u, hu, rfl⟩, Nat.zero_le _, fun i hi => absurd hi (Nat.not_lt_zero _), fun i hi => absurd hi (Nat.not_lt_zero _), fun i hi => absurd hi (Nat.not_lt_zero _), fun i hi => absurd hi (Nat.not_lt_zero _)⟩
theorem v_hands {a b c : Int32} (hv : vG l o) : vG l (fHands l a b c o).2 := by
  unfold fHands
  cases hdOK (l.1 * l.2.1) a b c with
  | true => exact v_0 (u := 0) (by decide)
  | false => exact hv
theorem v_lead (hv : vG l o) : vG l (fLead x o).2 := by
  cases o with
  | none => exact hv
  | some g =>
    rw [fLead_s]
    by_cases c : g.2.2.2.2 = 0 ∧ 0 ≤ x ∧ x < 4
    · rw [if_pos c]
      obtain ⟨u, hu, e⟩ := nn_of (N := 4) (by decide) c.2.1 c.2.2
      obtain ⟨h1, h2, h3, h4, h5, h6⟩ := (show gV l.1 l.2.1 l.2.2.1 g.1 g.2.1 g.2.2.1 g.2.2.2.1 g.2.2.2.2 from hv)
      exact ⟨⟨u, hu, e⟩, h2, h3, fun i hi => absurd hi (by show ¬ i < g.2.2.2.2; omega), h5, h6⟩
    · rw [if_neg c]; exact hv
theorem v_play (hl : lV l) (hv : vG l o) : vG l (fPlay l x o).2 := by
  cases o with
  | none => exact hv
  | some g =>
    rw [fPlay_s]
    by_cases hb : inB l g x = true
    · rw [if_pos hb]
      split
      · exact hv
      · exact v_put hl hv hb
    · rw [if_neg hb]; exact hv
theorem v_rev (hl : lV l) (hv : vG l o) : vG l (fRev l x o).2 := by
  cases o with
  | none => exact hv
  | some g =>
    rw [fRev_s]
    by_cases hb : inB l g x = true
    · rw [if_pos hb]; exact v_put hl hv hb
    · rw [if_neg hb]; exact hv
theorem v_undo (hv : vG l o) : vG l (fUndo o).2 := by
  cases o with
  | none => exact hv
  | some g =>
    rw [fUndo_s]
    split
    · exact hv
    · exact gV.less hv (Nat.sub_le _ 1)
theorem t_deal (h : RCx PRG n 126 [.ref 0, .int x] σ (some (.int w)) σ1) (hl : lV l) (hC : lC l σ) : w = 1 ∧ cG22 l (some (dlF x (l.1 * l.2.1), 0, C0, C0, 0)) σ1 ∧ exc E22 σ σ1 := by
  obtain ⟨b, c⟩ := h.by (Q := fun v s' => v = some (.int 1) ∧ cG22 l (some (dlF x (l.1 * l.2.1), 0, C0, C0, 0)) s' ∧ exc E22 σ s') (fun n d => p_126_0 σ x (fun σ2 h2 => by
    obtain ⟨k1, k2⟩ := g22_33 h2 hl.1 hC.1 C0 C0
    exact ⟨rfl, k1, k2⟩))
  cases b
  exact ⟨rfl, c⟩
theorem rc18 (h : RCx PRG n 18 [.ref 3] σ (some (.int w)) σ1) (hC : lC l σ) : σ1 = σ ∧ w = alF (l.1 * l.2.1) := by
  obtain ⟨a, b⟩ := h.by (Q := fun v s' => s' = σ ∧ v = some (.int (alF (l.1 * l.2.1)))) (fun n d => p_18_0 σ (by
    rw [hC.1.2.2.2.1]
    exact ⟨rfl, rfl⟩))
  cases b
  exact ⟨a, rfl⟩
theorem rc127 (h : RCx PRG n 127 [.ref 0, .int x] σ (some (.int w)) σ1) (hC : lC l σ) : σ1 = σ ∧ ((w = 1 ∧ hO (l.1 * l.2.1) x = true) ∨ (w = 0 ∧ hO (l.1 * l.2.1) x = false)) := by
  obtain ⟨a, b⟩ := h.by (Q := fun v s' => s' = σ ∧ ((v = some (.int 1) ∧ hO (l.1 * l.2.1) x = true) ∨ (v = some (.int 0) ∧ hO (l.1 * l.2.1) x = false))) (fun n d => p_127_0 σ x (fun w2 σ2 h2 => by
    obtain ⟨rfl, rfl⟩ := rc18 h2 hC
    unfold hO
    refine ⟨fun c w4 σ4 h4 => ?_, fun c => Pl.pos (fun n2 _ => p_127_32 σ2 ⟨rfl, Or.inr ⟨rfl, by rw [decide_eq_false c]; rfl⟩⟩)⟩
    obtain ⟨rfl, rfl⟩ := rc2 h4
    rw [hC.1.2.2.2.2.1]
    exact ⟨fun c2 => ⟨rfl, Or.inl ⟨rfl, by rw [decide_eq_true c, decide_eq_true c2]; rfl⟩⟩, fun c2 => Pl.pos (fun n2 _ => p_127_32 _ ⟨rfl, Or.inr ⟨rfl, by rw [decide_eq_false c2, Bool.and_false]⟩⟩)⟩))
  refine ⟨a, ?_⟩
  rcases b with ⟨b, c⟩ | ⟨b, c⟩
  · cases b; exact Or.inl ⟨rfl, c⟩
  · cases b; exact Or.inr ⟨rfl, c⟩
theorem t_hands {a b c : Int32} (h : RCx PRG n 128 [.ref 0, .int a, .int b, .int c] σ (some (.int w)) σ1) (hl : lV l) (hC : lC l σ) (ho : cG22 l o σ) : w = (fHands l a b c o).1 ∧ cG22 l (fHands l a b c o).2 σ1 ∧ exc E22 σ σ1 := by
  obtain ⟨v, e, h1, h2⟩ := h.by (Q := fun v s' => ∃ w, v = some (.int w) ∧ w = (fHands l a b c o).1 ∧ cG22 l (fHands l a b c o).2 s' ∧ exc E22 σ s') (fun n d => p_128_0 σ a b c (fun w2 σ2 h2 w4 σ4 h4 _ => by
    obtain ⟨rfl, rfl⟩ := rc18 h2 hC
    obtain ⟨rfl, k4⟩ := rc127 h4 hC
    have no : ∀ n2, hdOK (l.1 * l.2.1) a b c = false → Pl PRG n2 d 128 51 [] [] σ4 (fun v s' => ∃ w, v = some (.int w) ∧ w = (fHands l a b c o).1 ∧ cG22 l (fHands l a b c o).2 s' ∧ exc E22 σ4 s') := fun n2 hb => Pl.pos (fun n3 _ => p_128_51 σ4 ⟨0, rfl, by unfold fHands; rw [hb]; rfl, by unfold fHands; rw [hb]; exact ho, exc.refl _⟩)
    refine ⟨fun z => no _ ?_, fun z w6 σ6 h6 _ => ?_⟩
    · rcases k4 with ⟨e, -⟩ | ⟨-, q⟩
      · rw [e] at z; exact absurd z (by decide)
      · unfold hdOK; rw [q]; rfl
    · rcases k4 with ⟨-, q4⟩ | ⟨e, -⟩
      · obtain ⟨rfl, k6⟩ := rc127 h6 hC
        refine ⟨fun z => no _ ?_, fun z w8 σ8 h8 _ => ?_⟩
        · rcases k6 with ⟨e, -⟩ | ⟨-, q⟩
          · rw [e] at z; exact absurd z (by decide)
          · unfold hdOK; rw [q4, q]; rfl
        · rcases k6 with ⟨-, q6⟩ | ⟨e, -⟩
          · obtain ⟨rfl, k8⟩ := rc127 h8 hC
            refine ⟨fun z => no _ ?_, fun z => ?_⟩
            · rcases k8 with ⟨e, -⟩ | ⟨-, q⟩
              · rw [e] at z; exact absurd z (by decide)
              · unfold hdOK; rw [q4, q6, q]; rfl
            · rcases k8 with ⟨-, q8⟩ | ⟨e, -⟩
              · have sp : hdOK (l.1 * l.2.1) a b c = (decide (a &&& b = 0) && (decide (a &&& c = 0) && decide (b &&& c = 0))) := by
                  unfold hdOK; rw [q4, q6, q8]; rfl
                refine ⟨fun c1 => ⟨fun c2 => ⟨fun c3 σ10 h10 => ?_, fun c3 => no _ ?_⟩, fun c2 => no _ ?_⟩, fun c1 => no _ ?_⟩
                · obtain ⟨k1, k2⟩ := g22_32 h10 hl.1 C0 C0
                  have hb : hdOK (l.1 * l.2.1) a b c = true := by rw [sp, decide_eq_true c1, decide_eq_true c2, decide_eq_true c3]; rfl
                  exact ⟨1, rfl, by unfold fHands; rw [hb]; rfl, by unfold fHands; rw [hb]; exact k1, k2⟩
                · rw [sp, decide_eq_false c3, Bool.and_false, Bool.and_false]
                · rw [sp, decide_eq_false c2, Bool.false_and, Bool.and_false]
                · rw [sp, decide_eq_false c1, Bool.false_and]
              · exact absurd e z
          · exact absurd e z
      · exact absurd e z))
  cases e
  exact ⟨h1, h2⟩
theorem rc129 (h : RCx PRG n 129 [.ref 0, .int x] σ (some (.int w)) σ1) : σ1 = σ ∧ ((w = 1 ∧ 0 ≤ x ∧ x < 4) ∨ (w = 0 ∧ ¬ (0 ≤ x ∧ x < 4))) := by
  obtain ⟨a, b⟩ := h.by (Q := fun v s' => s' = σ ∧ ((v = some (.int 1) ∧ 0 ≤ x ∧ x < 4) ∨ (v = some (.int 0) ∧ ¬ (0 ≤ x ∧ x < 4)))) (fun n d => p_129_0 σ x ⟨fun c => Pl.pos (fun n2 _ => p_129_13 σ ⟨rfl, Or.inr ⟨rfl, fun h => le_lt.mp h.1 c⟩⟩), fun c => ⟨fun c2 => Pl.pos (fun n2 _ => p_129_13 σ ⟨rfl, Or.inr ⟨rfl, fun h => le_lt.mp c2 h.2⟩⟩), fun c2 => ⟨rfl, Or.inl ⟨rfl, le_lt.mpr c, Decidable.not_not.mp (fun h => c2 (le_lt.mpr h))⟩⟩⟩⟩)
  refine ⟨a, ?_⟩
  rcases b with ⟨b, c⟩ | ⟨b, c⟩
  · cases b; exact Or.inl ⟨rfl, c⟩
  · cases b; exact Or.inr ⟨rfl, c⟩
theorem t_lead (h : RCx PRG n 130 [.ref 0, .int x] σ (some (.int w)) σ1) (hl : lV l) (ho : cG22 l o σ) (hv : vG l o) : w = (fLead x o).1 ∧ cG22 l (fLead x o).2 σ1 ∧ exc E22 σ σ1 := by
  have hN := hl.1.2.2.2.2.1
  obtain ⟨v, e, h1, h2⟩ := h.by (Q := fun v s' => ∃ w, v = some (.int w) ∧ w = (fLead x o).1 ∧ cG22 l (fLead x o).2 s' ∧ exc E22 σ s') (fun n d => p_130_0 σ x (by
    cases o with
    | none => exact ⟨fun _ => Pl.pos (fun n2 _ => p_130_28 σ ⟨0, rfl, rfl, ho, exc.refl σ⟩), fun c => absurd ho.1 c⟩
    | some g =>
      have hG : gC22 l.1 l.2.1 l.2.2.1 g.1 g.2.1 g.2.2.1 g.2.2.2.1 g.2.2.2.2 σ := ho
      have hm : g.2.2.2.2 ≤ l.1 * l.2.1 := (show gV l.1 l.2.1 l.2.2.1 g.1 g.2.1 g.2.2.1 g.2.2.2.1 g.2.2.2.2 from hv).2.1
      rw [hG.1, hG.2.2.2.1]
      have no : ∀ n2, ¬ (g.2.2.2.2 = 0 ∧ 0 ≤ x ∧ x < 4) → Pl PRG n2 d 130 28 [] [] σ (fun v s' => ∃ w, v = some (.int w) ∧ w = (fLead x (some g)).1 ∧ cG22 l (fLead x (some g)).2 s' ∧ exc E22 σ s') := fun n2 hb => Pl.pos (fun n3 _ => p_130_28 σ ⟨0, rfl, by rw [fLead_s, if_neg hb], by rw [fLead_s, if_neg hb]; exact ho, exc.refl σ⟩)
      refine ⟨fun c => absurd c (by decide), fun _ => ⟨fun c => no _ (fun h => ?_), fun c w2 σ2 h2 _ => ?_⟩⟩
      · rw [h.1] at c; exact absurd c (by decide)
      · obtain ⟨rfl, k⟩ := rc129 h2
        have m0 : g.2.2.2.2 = 0 := by
          rcases Nat.eq_zero_or_pos g.2.2.2.2 with q | q
          · exact q
          · exact absurd (nI_lt (a := 0) q (by omega)) c
        refine ⟨fun z => no _ (fun h => ?_), fun z σ4 h4 => ?_⟩
        · rcases k with ⟨e, -⟩ | ⟨-, q⟩
          · rw [e] at z; exact absurd z (by decide)
          · exact q h.2
        · rcases k with ⟨-, q⟩ | ⟨e, -⟩
          · have e := g22_31 h4
            subst e
            have hG0 := hG
            rw [m0] at hG0
            obtain ⟨k1, k2⟩ := g22_led hl.1 hG0 (x := x) (y := (σ2.1 22 17) + (1 : Int32))
            refine ⟨1, rfl, by rw [fLead_s, if_pos ⟨m0, q⟩], ?_, k2⟩
            rw [fLead_s, if_pos ⟨m0, q⟩]
            show gC22 l.1 l.2.1 l.2.2.1 g.1 x g.2.2.1 g.2.2.2.1 g.2.2.2.2 _
            rw [m0]; exact k1
          · exact absurd e z))
  cases e
  exact ⟨h1, h2⟩
theorem t_hand {p a : Int32} (h : RCx PRG n 131 [.ref 0, .int p, .int a] σ (some (.int w)) σ1) (ho : cG22 l o σ) : σ1 = σ ∧ w = fHand p a o := by
  obtain ⟨e1, e2⟩ := h.by (Q := fun v s' => s' = σ ∧ v = some (.int (fHand p a o))) (fun n d => p_131_0 σ p a (by
    cases o with
    | none => exact ⟨fun _ => Pl.pos (fun n2 _ => p_131_18 σ ⟨rfl, rfl⟩), fun c => absurd ho.1 c⟩
    | some g =>
      have hG : gC22 l.1 l.2.1 l.2.2.1 g.1 g.2.1 g.2.2.1 g.2.2.2.1 g.2.2.2.2 σ := ho
      rw [hG.1]
      refine ⟨fun c => absurd c (by decide), fun _ w2 σ2 h2 _ => ?_⟩
      obtain ⟨rfl, k⟩ := rc129 h2
      rw [fHand_s]
      refine ⟨fun z => Pl.pos (fun n2 _ => p_131_18 σ2 ?_), fun z => ?_⟩
      · rcases k with ⟨e, -⟩ | ⟨-, q⟩
        · rw [e] at z; exact absurd z (by decide)
        · rw [if_neg q]; exact ⟨rfl, rfl⟩
      · rcases k with ⟨-, q⟩ | ⟨e, -⟩
        · obtain ⟨u, hu, e⟩ := nn_of (N := 4) (by decide) q.1 q.2
          rw [if_pos q, e, nI_clamp (by omega), hG.2.2.2.2.2.1 u hu, hG.2.2.2.2.1 u hu]
          exact ⟨fun c _ => by rw [if_pos c]; exact ⟨rfl, rfl⟩, fun c _ => by rw [if_neg c]; exact ⟨rfl, rfl⟩⟩
        · exact absurd e z))
  cases e2
  exact ⟨e1, rfl⟩
theorem t_turn (h : RCx PRG n 132 [.ref 0] σ (some (.int w)) σ1) (ho : cG22 l o σ) : σ1 = σ ∧ w = fTurn l o := by
  obtain ⟨e1, e2⟩ := h.by (Q := fun v s' => s' = σ ∧ v = some (.int (fTurn l o))) (fun n d => p_132_0 σ (by
    cases o with
    | none => exact ⟨rfl, by rw [ho.2.1]; rfl⟩
    | some g => exact ⟨rfl, by rw [(show gC22 l.1 l.2.1 l.2.2.1 g.1 g.2.1 g.2.2.1 g.2.2.2.1 g.2.2.2.2 σ from ho).2.2.1]; rfl⟩))
  cases e2
  exact ⟨e1, rfl⟩
theorem rc35 (h : RCx PRG n 35 [.ref 22] σ (some (.int w)) σ1) (hl : lV l) (hC : lC l σ) (ho : cG22 l o σ) (hv : vG l o) : σ1 = σ ∧ w = fMay l o := by
  cases o with
  | none =>
    obtain ⟨e1, e2⟩ := h.by (Q := fun v s' => s' = σ ∧ v = some (.int 0)) (fun n d => p_35_0 σ ⟨fun c => by rw [ho.2.1] at c; exact absurd c (by decide), fun _ => ⟨rfl, rfl⟩⟩)
    cases e2
    exact ⟨e1, rfl⟩
  | some g => exact g22_35 h hl.1 hC.1 ho hv
theorem t_may (h : RCx PRG n 133 [.ref 0] σ (some (.int w)) σ1) (hl : lV l) (hC : lC l σ) (ho : cG22 l o σ) (hv : vG l o) : σ1 = σ ∧ w = fMay l o := by
  obtain ⟨e1, e2⟩ := h.by (Q := fun v s' => s' = σ ∧ v = some (.int (fMay l o))) (fun n d => p_133_0 σ (fun w2 σ2 h2 => by
    obtain ⟨rfl, rfl⟩ := rc35 h2 hl hC ho hv
    exact ⟨rfl, rfl⟩))
  cases e2
  exact ⟨e1, rfl⟩
theorem rc134 (h : RCx PRG n 134 [.ref 0, .int x] σ (some (.int w)) σ1) (hC : lC l σ) : σ1 = σ ∧ ((w = 1 ∧ 0 ≤ x ∧ x < nI (l.1 * l.2.1)) ∨ (w = 0 ∧ ¬ (0 ≤ x ∧ x < nI (l.1 * l.2.1)))) := by
  obtain ⟨a, b⟩ := h.by (Q := fun v s' => s' = σ ∧ ((v = some (.int 1) ∧ 0 ≤ x ∧ x < nI (l.1 * l.2.1)) ∨ (v = some (.int 0) ∧ ¬ (0 ≤ x ∧ x < nI (l.1 * l.2.1))))) (fun n d => p_134_0 σ x (by
    rw [hC.1.2.2.2.1]
    exact ⟨fun c => Pl.pos (fun n2 _ => p_134_19 σ ⟨rfl, Or.inr ⟨rfl, fun h => le_lt.mp h.1 c⟩⟩), fun c => ⟨fun c2 => Pl.pos (fun n2 _ => p_134_19 σ ⟨rfl, Or.inr ⟨rfl, fun h => le_lt.mp c2 h.2⟩⟩), fun c2 => ⟨rfl, Or.inl ⟨rfl, le_lt.mpr c, Decidable.not_not.mp (fun h => c2 (le_lt.mpr h))⟩⟩⟩⟩))
  refine ⟨a, ?_⟩
  rcases b with ⟨b, c⟩ | ⟨b, c⟩
  · cases b; exact Or.inl ⟨rfl, c⟩
  · cases b; exact Or.inr ⟨rfl, c⟩
def inO (l : LA) (x : Int32) : Option GA → Bool
  | none => false
  | some g => inB l g x
theorem rc135 (h : RCx PRG n 135 [.ref 0, .int x] σ (some (.int w)) σ1) (hl : lV l) (hC : lC l σ) (ho : cG22 l o σ) (hv : vG l o) : σ1 = σ ∧ ((w = 1 ∧ inO l x o = true) ∨ (w = 0 ∧ inO l x o = false)) := by
  obtain ⟨a, b⟩ := h.by (Q := fun v s' => s' = σ ∧ ((v = some (.int 1) ∧ inO l x o = true) ∨ (v = some (.int 0) ∧ inO l x o = false))) (fun n d => p_135_0 σ x (by
    cases o with
    | none => exact ⟨fun _ => Pl.pos (fun n2 _ => p_135_44 σ ⟨rfl, Or.inr ⟨rfl, rfl⟩⟩), fun c => absurd (by rw [ho.2.1]; decide) c⟩
    | some g =>
      have hG : gC22 l.1 l.2.1 l.2.2.1 g.1 g.2.1 g.2.2.1 g.2.2.2.1 g.2.2.2.2 σ := ho
      have hV : gV l.1 l.2.1 l.2.2.1 g.1 g.2.1 g.2.2.1 g.2.2.2.1 g.2.2.2.2 := hv
      have e6 : σ.1 22 6 = tnG l g := hG.2.2.1
      rw [e6]
      show (_ → Pl _ _ _ _ _ _ _ _ (fun v s' => s' = σ ∧ ((v = some (.int 1) ∧ inB l g x = true) ∨ (v = some (.int 0) ∧ inB l g x = false)))) ∧ _
      refine ⟨fun c => Pl.pos (fun n2 _ => p_135_44 σ ⟨rfl, Or.inr ⟨rfl, ?_⟩⟩), fun c w2 σ2 h2 _ => ?_⟩
      · unfold inB; rw [decide_eq_false (fun h => le_lt.mp h c)]; rfl
      · obtain ⟨rfl, k⟩ := rc134 h2 hC
        have hlt : g.2.2.2.2 < l.1 * l.2.1 := by
          rcases Nat.lt_or_ge g.2.2.2.2 (l.1 * l.2.1) with q | q
          · exact q
          · have e : tnG l g = -2 := tn_end q
            rw [e] at c; exact absurd (by decide) c
        obtain ⟨p, hp, ep⟩ := hV.turn hlt
        have ep' : tnG l g = nI p := ep
        refine ⟨fun z => Pl.pos (fun n2 _ => p_135_44 σ2 ⟨rfl, Or.inr ⟨rfl, ?_⟩⟩), fun z _ => ?_⟩
        · rcases k with ⟨e, -⟩ | ⟨-, q⟩
          · rw [e] at z; exact absurd z (by decide)
          · show inB l g x = false
            unfold inB; rw [decide_eq_false q, Bool.false_and, Bool.and_false]
        · rcases k with ⟨-, q⟩ | ⟨e, -⟩
          · rw [e6, ep', nI_clamp (by omega), hG.2.2.2.2.2.1 p hp]
            have sp : inB l g x = decide (¬ (hnF g.1 g.2.2.1 g.2.2.2.1 p g.2.2.2.2 >>> (x &&& 31)) &&& 1 = 0) := by
              unfold inB
              rw [decide_eq_true (le_lt.mpr c), decide_eq_true q, ep', nI_clamp (by omega), Bool.true_and, Bool.true_and]
            refine ⟨fun c2 => Pl.pos (fun n2 _ => p_135_44 σ2 ⟨rfl, Or.inr ⟨rfl, ?_⟩⟩), fun c2 => ⟨rfl, Or.inl ⟨rfl, ?_⟩⟩⟩
            · show inB l g x = false
              rw [sp]; exact decide_eq_false (fun h => h c2)
            · show inB l g x = true
              rw [sp]; exact decide_eq_true c2
          · exact absurd e z))
  refine ⟨a, ?_⟩
  rcases b with ⟨b, c⟩ | ⟨b, c⟩
  · cases b; exact Or.inl ⟨rfl, c⟩
  · cases b; exact Or.inr ⟨rfl, c⟩
theorem rc63 {g : GA} (h : RCx PRG n 63 [.ref 22, .int x] σ none σ1) (hl : lV l) (hC : lC l σ) (ho : cG22 l (some g) σ) (hv : vG l (some g)) (hb : inB l g x = true) : cG22 l (some (putG l g x)) σ1 ∧ exc E22 σ σ1 ∧ σ1.1 22 7 = nI (g.2.2.2.2 + 1) := by
  obtain ⟨c, hc, ex, hm, -⟩ := inB_of hl hv hb
  obtain ⟨k1, k2⟩ := g22_63 h hl.1 hC.1 ho hv hm ⟨c, hc, ex⟩
  exact ⟨k1, k2, k1.2.2.2.1⟩
theorem t_play (h : RCx PRG n 136 [.ref 0, .int x] σ (some (.int w)) σ1) (hl : lV l) (hC : lC l σ) (ho : cG22 l o σ) (hv : vG l o) : w = (fPlay l x o).1 ∧ cG22 l (fPlay l x o).2 σ1 ∧ exc E22 σ σ1 := by
  obtain ⟨v, e, h1, h2⟩ := h.by (Q := fun v s' => ∃ w, v = some (.int w) ∧ w = (fPlay l x o).1 ∧ cG22 l (fPlay l x o).2 s' ∧ exc E22 σ s') (fun n d => p_136_0 σ x (fun w2 σ2 h2 _ => by
    obtain ⟨rfl, k⟩ := rc135 h2 hl hC ho hv
    refine ⟨fun z => ?_, fun z w4 σ4 h4 => ?_⟩
    · rcases k with ⟨e, -⟩ | ⟨-, q⟩
      · rw [e] at z; exact absurd z (by decide)
      · cases o with
        | none => exact ⟨_, rfl, rfl, ho, exc.refl _⟩
        | some g =>
          have q : inB l g x = false := q
          rw [fPlay_s, q]
          exact ⟨_, rfl, rfl, ho, exc.refl _⟩
    · rcases k with ⟨-, q⟩ | ⟨e, -⟩
      · obtain ⟨rfl, rfl⟩ := rc35 h4 hl hC ho hv
        cases o with
        | none => exact absurd q Bool.false_ne_true
        | some g =>
          have q : inB l g x = true := q
          have e0 : fPlay l x (some g) = if (myG l g >>> (x &&& 31)) &&& 1 = 0 then (-2, some g) else (nI (g.2.2.2.2 + 1), some (putG l g x)) := by
            rw [fPlay_s, q]; rfl
          rw [e0]
          show ((myG l g >>> (x &&& 31)) &&& 1 = 0 → _) ∧ _
          refine ⟨fun c => ?_, fun c σ6 h6 => ?_⟩
          · rw [if_pos c]; exact ⟨_, rfl, rfl, ho, exc.refl _⟩
          · obtain ⟨k1, k2, k3⟩ := rc63 h6 hl hC ho hv q
            have c' : ¬ (myG l g >>> (x &&& 31)) &&& 1 = 0 := c
            rw [if_neg c', k3]
            exact ⟨_, rfl, rfl, k1, k2⟩
      · exact absurd e z))
  cases e
  exact ⟨h1, h2⟩
theorem t_rev (h : RCx PRG n 137 [.ref 0, .int x] σ (some (.int w)) σ1) (hl : lV l) (hC : lC l σ) (ho : cG22 l o σ) (hv : vG l o) : w = (fRev l x o).1 ∧ cG22 l (fRev l x o).2 σ1 ∧ exc E22 σ σ1 := by
  obtain ⟨v, e, h1, h2⟩ := h.by (Q := fun v s' => ∃ w, v = some (.int w) ∧ w = (fRev l x o).1 ∧ cG22 l (fRev l x o).2 s' ∧ exc E22 σ s') (fun n d => p_137_0 σ x (fun w2 σ2 h2 _ => by
    obtain ⟨rfl, k⟩ := rc135 h2 hl hC ho hv
    refine ⟨fun z => ?_, fun z σ4 h4 => ?_⟩
    · rcases k with ⟨e, -⟩ | ⟨-, q⟩
      · rw [e] at z; exact absurd z (by decide)
      · cases o with
        | none => exact ⟨_, rfl, rfl, ho, exc.refl _⟩
        | some g =>
          have q : inB l g x = false := q
          rw [fRev_s, q]
          exact ⟨_, rfl, rfl, ho, exc.refl _⟩
    · rcases k with ⟨-, q⟩ | ⟨e, -⟩
      · cases o with
        | none => exact absurd q Bool.false_ne_true
        | some g =>
          have q : inB l g x = true := q
          have e0 : fRev l x (some g) = (nI (g.2.2.2.2 + 1), some (putG l g x)) := by
            rw [fRev_s, q]; rfl
          obtain ⟨k1, k2, k3⟩ := rc63 h4 hl hC ho hv q
          rw [e0, k3]
          exact ⟨_, rfl, rfl, k1, k2⟩
      · exact absurd e z))
  cases e
  exact ⟨h1, h2⟩
theorem t_undo (h : RCx PRG n 138 [.ref 0] σ (some (.int w)) σ1) (hl : lV l) (ho : cG22 l o σ) (hv : vG l o) : w = (fUndo o).1 ∧ cG22 l (fUndo o).2 σ1 ∧ exc E22 σ σ1 := by
  have hN := hl.1.2.2.2.2.1
  obtain ⟨v, e, h1, h2⟩ := h.by (Q := fun v s' => ∃ w, v = some (.int w) ∧ w = (fUndo o).1 ∧ cG22 l (fUndo o).2 s' ∧ exc E22 σ s') (fun n d => p_138_0 σ (by
    cases o with
    | none => exact ⟨fun _ => ⟨_, rfl, rfl, ho, exc.refl σ⟩, fun c => absurd ho.2.2 c⟩
    | some g =>
      obtain ⟨D, ld, C, W, m⟩ := g
      have hG : gC22 l.1 l.2.1 l.2.2.1 D ld C W m σ := ho
      have hV : gV l.1 l.2.1 l.2.2.1 D ld C W m := hv
      have hm := hV.2.1
      rw [hG.2.2.2.1]
      refine ⟨fun c => ?_, fun c σ2 h2 => ?_⟩
      · have m0 : m = 0 := (nI_eq (b := 0) (by omega) (by decide)).mp c
        subst m0
        exact ⟨_, rfl, rfl, ho, exc.refl σ⟩
      · cases m with
        | zero => exact absurd rfl c
        | succ m =>
          obtain ⟨k1, k2⟩ := g22_69 h2 hl.1 hG hV
          exact ⟨_, rfl, k1.2.2.2.1, k1, k2⟩))
  cases e
  exact ⟨h1, h2⟩
end Tc
