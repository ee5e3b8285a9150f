/-! the search of a trick: what it answers -/
theorem countP_one {p : Nat → Bool} {k : Nat} : ∀ {l : List Nat}, l.Nodup → k ∈ l → l.countP p = l.countP (fun i => p i && !Nat.beq i k) + (if p k then 1 else 0) := by
  have none : ∀ {l : List Nat}, k ∉ l → l.countP (fun i => p i && !Nat.beq i k) = l.countP p := by
    intro l hk
    apply List.countP_congr
    intro i hi
    have : Nat.beq i k = false := by
      cases h : Nat.beq i k with
      | false => rfl
      | true => rw [Nat.eq_of_beq_eq_true h] at hi; exact absurd hi hk
    rw [this]; simp
  intro l
  induction l with
  | nil => intro _ h; cases h
  | cons a l ih =>
    intro hn hk
    rw [List.nodup_cons] at hn
    rw [List.countP_cons, List.countP_cons]
    by_cases h : a = k
    · subst h
      rw [none hn.1]
      simp
    · have : Nat.beq a k = false := by
        cases h2 : Nat.beq a k with
        | false => rfl
        | true => exact absurd (Nat.eq_of_beq_eq_true h2) h
      rw [ih hn.2 ((List.mem_cons.mp hk).resolve_left (fun e => h e.symm)), this]
      simp
      omega
theorem pop_clear {x c : Int32} {k : Nat} (hc : c.toInt = (k : Int)) (hk : k < 16) (hb : bt x k = true) : pop (x &&& (((1 : Int32) <<< (c &&& 31)) ^^^ (-1 : Int32))) + 1 = pop x := by
  unfold pop
  rw [countP_one (p := bt x) (k := k) List.nodup_range (List.mem_range.mpr hk), hb, if_pos rfl]
  congr 1
  apply List.countP_congr
  intro i hi
  rw [List.mem_range] at hi
  rw [bt_and, bt_not _ (by omega), bt_one hc (by omega) (by omega)]
def pn (n : Nat) : Nat := (List.range 16).countP (fun i => n.testBit i)
theorem pop_pn {x : Int32} {n : Nat} (h : x.toInt = (n : Int)) : pop x = pn n := by
  unfold pop pn
  apply List.countP_congr
  intro i hi
  rw [bt_nat]
  have := (tn_nn (x := x) (by omega)).1
  have : x.toBitVec.toNat = n := by omega
  rw [this]
/-- the table: no more tricks than PLAYER 0 has cards -/
def TB (σ : Sg) : Prop := ∀ i : Nat, i < 262144 → 0 ≤ (σ.1 136 i).toInt ∧ (σ.1 136 i).toInt ≤ ((pn (i / 4 % 16) : Nat) : Int)
/-- the level at which one lays -/
def lvl (lead p : Nat) : Nat := (p + 4 - lead) % 4
theorem lvl_ex {x y : Int32} {l p : Nat} (hx : x.toInt = (p : Int)) (hy : y.toInt = (l : Int)) (hl : l ≤ 3) (hp : p ≤ 3) : (((x + (4 : Int32)) - y) - ((x + (4 : Int32)) - y) / (4 : Int32) * (4 : Int32)).toInt = ((lvl l p : Nat) : Int) := by
  have e1 : (x + (4 : Int32)).toInt = (p : Int) + 4 := add_lit hx (by decide) (by unfold FL; omega) (by unfold FH; omega)
  rw [rem_ex (by decide), sub_ex (by unfold FL; omega) (by unfold FH; omega), e1, hy]
  have : (4 : Int32).toInt = 4 := by decide
  rw [this, Int.tmod_eq_emod_of_nonneg (by omega)]
  unfold lvl
  omega
def mB (lead p : Nat) (σ : Sg) : Int32 := if (σ.1 97 69).toInt ≤ ((lvl lead p : Nat) : Int) then (σ.1 139 p) &&& (((1 : Int32) <<< ((σ.1 142 (lvl lead p)) &&& 31)) ^^^ (-1 : Int32)) else σ.1 139 p
theorem maskBehind_OK {d : Nat} {x1 x2 : Int32} {σ : Sg} {l p : Nat} (hx : x1.toInt = (p : Int)) (hy : x2.toInt = (l : Int)) (hl : l ≤ 3) (hp : p ≤ 3) : OkI PRG d 275 [.ref 97, .int x1, .int x2] σ (fun w σ' => σ' = σ ∧ w = mB l p σ) := by
  have e := lvl_ex hx hy hl hp
  have h4 : lvl l p < 4 := by unfold lvl; omega
  have hin : inR x1 4 = true := inR_ok (by omega) (by omega)
  refine ⟨M_275, rfl, Nat.le_of_ble_eq_true rfl, w_275_0 σ x1 x2 ⟨fun c => ⟨hin, inR_ok (by omega) (by omega), _, rfl, rfl, ?_⟩, fun c => ⟨hin, _, rfl, rfl, ?_⟩⟩⟩
  · rw [Int32.le_iff_toInt_le, e] at c
    unfold mB
    rw [if_pos c, cn_of hx, cn_of e]
  · rw [Int32.le_iff_toInt_le, e] at c
    unfold mB
    rw [if_neg c, cn_of hx]
/-- the most that a trick's search may answer -/
def bnd0 (lead : Nat) (σ : Sg) : Int := if (σ.1 97 69).toInt ≤ ((lvl lead 0 : Nat) : Int) then ((pop (σ.1 139 0) : Nat) : Int) else ((pop (σ.1 139 0) : Nat) : Int) + 1
def mk15 (σ : Sg) : Prop := ∀ p : Nat, p ≤ 3 → (σ.1 139 p).toInt ≤ 15
theorem mB_rg {lead p : Nat} {σ : Sg} (ht : typed TYP σ) (hm : mk15 σ) (hp : p ≤ 3) : 0 ≤ (mB lead p σ).toInt ∧ (mB lead p σ).toInt ≤ 15 := by
  have h1 := tyA ht (q := 139) (κ := 95) (k := p) (a := 0) (b := 3) (lo := 0) (hi := 16) rfl rfl (by omega) (by omega)
  have h2 := hm p hp
  unfold mB
  split
  · have := and_nn (y := ((1 : Int32) <<< ((σ.1 142 (lvl lead p)) &&& 31)) ^^^ (-1 : Int32)) h1.1
    omega
  · omega
theorem worth_go {d : Nat} {x1 : Int32} {σ : Sg} {l : Nat} (ht : typed TYP σ) (hp : pkOK σ) (hT : TB σ) (hm : mk15 σ) (h1 : x1.toInt = (l : Int)) (hl : l ≤ 3) (hb : (σ.1 97 69).toInt ≤ ((lvl l 0 : Nat) : Int) → 0 ≤ (σ.1 142 (lvl l 0)).toInt ∧ bt (σ.1 139 0) (σ.1 142 (lvl l 0)).toNatClampNeg = true) : ∀ (m k : Nat) (x2 x3 : Int32), k + m = 4 → x3.toInt = (k : Int) → 0 ≤ x2.toInt → x2.toInt ≤ 3 → Rn PRG (d + 1 + 1) 276 4 [(0, .ref 97), (1, .int x1), (2, .int x2), (3, .int x3)] [] σ (fun v σ' => ∃ w : Int32, v = some (.int w) ∧ σ' = σ ∧ 0 ≤ w.toInt ∧ w.toInt ≤ bnd0 l σ) := by
  have fin : ∀ (x2 wn : Int32) (w0 : Int32), wn.toInt = ((plr l x2.toInt.toNat : Nat) : Int) → (w0.toInt = 0 ∨ w0.toInt = 1) → (∃ Qc : Int32 → Sg → Prop, OkI PRG (d + 1) 275 [.ref 97, .int (0 : Int32), .int x1] σ Qc ∧ ∀ w2 σ1, Qc w2 σ1 → (∃ Qc : Int32 → Sg → Prop, OkI PRG (d + 1) 275 [.ref 97, .int (1 : Int32), .int x1] σ1 Qc ∧ ∀ w4 σ3, Qc w4 σ3 → (∃ Qc : Int32 → Sg → Prop, OkI PRG (d + 1) 275 [.ref 97, .int (2 : Int32), .int x1] σ3 Qc ∧ ∀ w6 σ5, Qc w6 σ5 → (∃ Qc : Int32 → Sg → Prop, OkI PRG (d + 1) 275 [.ref 97, .int (3 : Int32), .int x1] σ5 Qc ∧ ∀ w8 σ7, Qc w8 σ7 → (∃ Qc : Int32 → Sg → Prop, OkI PRG (d + 1) 273 [.int wn, .int w2, .int w4, .int w6, .int w8] σ7 Qc ∧ ∀ w10 σ9, Qc w10 σ9 → (inR w10 262144 = true ∧ ∃ w : Int32, some (Value.int (w0 + (σ9.1 136 w10.toNatClampNeg))) = some (.int w) ∧ σ9 = σ ∧ 0 ≤ w.toInt ∧ w.toInt ≤ bnd0 l σ)))))) := by
    intro x2 wn w0 hwn hw0
    refine ⟨_, maskBehind_OK (p := 0) (by decide) h1 hl (by omega), fun w2 σ1 hq => ?_⟩
    obtain ⟨rfl, rfl⟩ := hq
    refine ⟨_, maskBehind_OK (p := 1) (by decide) h1 hl (by omega), fun w4 σ3 hq => ?_⟩
    obtain ⟨rfl, rfl⟩ := hq
    refine ⟨_, maskBehind_OK (p := 2) (by decide) h1 hl (by omega), fun w6 σ5 hq => ?_⟩
    obtain ⟨rfl, rfl⟩ := hq
    refine ⟨_, maskBehind_OK (p := 3) (by decide) h1 hl (by omega), fun w8 σ7 hq => ?_⟩
    obtain ⟨rfl, rfl⟩ := hq
    have m0 := mB_rg (lead := l) (p := 0) ht hm (by omega)
    have m1 := mB_rg (lead := l) (p := 1) ht hm (by omega)
    have m2 := mB_rg (lead := l) (p := 2) ht hm (by omega)
    have m3 := mB_rg (lead := l) (p := 3) ht hm (by omega)
    have hpl : plr l x2.toInt.toNat < 4 := by unfold plr; omega
    refine ⟨_, spot_OK (by omega) m0 m1 m2 m3, fun w10 σ9 hq => ?_⟩
    obtain ⟨rfl, hw⟩ := hq
    refine ⟨inR_ok (by omega) (by omega), _, rfl, rfl, ?_⟩
    have hc : w10.toNatClampNeg = w10.toInt.toNat := rfl
    have hlt : w10.toInt.toNat < 262144 := by omega
    have ht2 := hT _ hlt
    have hidx : w10.toInt.toNat / 4 % 16 = (mB l 0 σ9).toInt.toNat := by omega
    rw [hidx, ← pop_pn (x := mB l 0 σ9) (by omega)] at ht2
    have hpl2 := pop_le (mB l 0 σ9)
    have hadd : (w0 + (σ9.1 136 w10.toNatClampNeg)).toInt = w0.toInt + (σ9.1 136 w10.toInt.toNat).toInt := by
      rw [hc]
      exact add_ex (by unfold FL; omega) (by unfold FH; omega)
    rw [hadd]
    have hpop : w0.toInt + ((pop (mB l 0 σ9) : Nat) : Int) ≤ bnd0 l σ9 := by
      unfold bnd0 mB
      split
      · rename_i h
        obtain ⟨a1, a2⟩ := hb h
        have ha := tyA ht (q := 142) (κ := 98) (k := lvl l 0) (a := 0) (b := 3) (lo := -1) (hi := 3) rfl rfl (by omega) (by unfold lvl; omega)
        have hk : (σ9.1 142 (lvl l 0)).toInt = (((σ9.1 142 (lvl l 0)).toNatClampNeg : Nat) : Int) := by
          show _ = (((σ9.1 142 (lvl l 0)).toInt.toNat : Nat) : Int)
          omega
        have := pop_clear (x := σ9.1 139 0) (c := σ9.1 142 (lvl l 0)) hk (by omega) a2
        omega
      · omega
    omega
  have last : ∀ (x2 x3 : Int32), 0 ≤ x2.toInt → x2.toInt ≤ 3 → (4 : Int32) ≤ x3 → Rn PRG (d + 1 + 1) 276 4 [(0, .ref 97), (1, .int x1), (2, .int x2), (3, .int x3)] [] σ (fun v σ' => ∃ w : Int32, v = some (.int w) ∧ σ' = σ ∧ 0 ≤ w.toInt ∧ w.toInt ≤ bnd0 l σ) := by
    intro x2 x3 h20 h23 c3
    have hwn := plr_ex (x := x1) (y := x2) (n := x2.toInt.toNat) h1 (by omega) hl (by omega)
    exact w_276_4 σ x1 x2 x3 ⟨fun _ => ⟨fun _ => fin x2 _ 1 hwn (Or.inr (by decide)), fun _ => fin x2 _ 0 hwn (Or.inl (by decide))⟩, fun c => absurd c3 c⟩
  have four : (4 : Int32).toInt = 4 := by decide
  intro m
  induction m with
  | zero =>
    intro k x2 x3 hk h3 h20 h23
    exact last x2 x3 h20 h23 (by rw [Int32.le_iff_toInt_le, h3]; omega)
  | succ m ih =>
    intro k x2 x3 hk h3 h20 h23
    by_cases c : (4 : Int32) ≤ x3
    · exact last x2 x3 h20 h23 c
    have hx3 : (x3 + (1 : Int32)).toInt = ((k + 1 : Nat) : Int) := by
      rw [add_lit (k := 1) h3 (by decide) (by unfold FL; omega) (by unfold FH; omega)]; push_cast; rfl
    refine w_276_4 σ x1 x2 x3 ⟨fun c2 => absurd c2 c, fun _ => ⟨inR_ok (by omega) (by omega), inR_ok h20 (by omega), _, beats_OK ht hp, fun w σ1 hq => ?_⟩⟩
    obtain ⟨rfl, -⟩ := hq
    exact ⟨fun _ => ih (k + 1) x2 _ (by omega) hx3 h20 h23, fun _ => ih (k + 1) x3 _ (by omega) hx3 (by omega) (by omega)⟩
theorem worth_OK {d : Nat} {x1 : Int32} {σ : Sg} {l : Nat} (ht : typed TYP σ) (hp : pkOK σ) (hT : TB σ) (hm : mk15 σ) (h1 : x1.toInt = (l : Int)) (hl : l ≤ 3) (hb : (σ.1 97 69).toInt ≤ ((lvl l 0 : Nat) : Int) → 0 ≤ (σ.1 142 (lvl l 0)).toInt ∧ bt (σ.1 139 0) (σ.1 142 (lvl l 0)).toNatClampNeg = true) : OkI PRG (d + 1 + 1) 276 [.ref 97, .int x1] σ (fun w σ' => σ' = σ ∧ 0 ≤ w.toInt ∧ w.toInt ≤ bnd0 l σ) :=
  ⟨M_276, rfl, Nat.le_of_ble_eq_true rfl, w_276_0 σ x1 (worth_go ht hp hT hm h1 hl hb 3 1 0 1 rfl (by decide) (by decide) (by decide))⟩
theorem takes_OK {d : Nat} {x1 x2 x3 : Int32} {σ : Sg} {l : Nat} (ht : typed TYP σ) (h1 : x1.toInt = (l : Int)) (hl : l ≤ 3) : OkV PRG d 277 [.ref 97, .int x1, .int x2, .int x3] σ (fun σ' => Gl mdTrick σ σ' ∧ (∀ j, σ'.1 142 j = σ.1 142 j) ∧ (∀ j, ¬ j = l → σ'.1 143 j = σ.1 143 j) ∧ (σ'.1 143 l = x3 ∨ (σ'.1 143 l = σ.1 143 l ∧ ¬ (σ.1 143 l).toInt = -1))) := by
  have c1 := cn_of h1
  have hin : inR x1 4 = true := inR_ok (by omega) (by omega)
  have g : Gl mdTrick σ (s1 σ 143 l x3) := wrG (κ := 99) (a := 0) (b := 3) (vl := FL) (vh := FH) rfl rfl (Gl.refl ht) rfl (Nat.zero_le _) hl (w_lo _) (w_hi _)
  have set : (fun σ' => Gl mdTrick σ σ' ∧ (∀ j, σ'.1 142 j = σ.1 142 j) ∧ (∀ j, ¬ j = l → σ'.1 143 j = σ.1 143 j) ∧ (σ'.1 143 l = x3 ∨ (σ'.1 143 l = σ.1 143 l ∧ ¬ (σ.1 143 l).toInt = -1))) (s1 σ 143 l x3) :=
    ⟨g, fun j => s1_off (by omega), fun j hj => s1_off (fun h => hj h.2), Or.inl s1_on⟩
  have keep : ¬ (σ.1 143 l) = -1 → (fun σ' => Gl mdTrick σ σ' ∧ (∀ j, σ'.1 142 j = σ.1 142 j) ∧ (∀ j, ¬ j = l → σ'.1 143 j = σ.1 143 j) ∧ (σ'.1 143 l = x3 ∨ (σ'.1 143 l = σ.1 143 l ∧ ¬ (σ.1 143 l).toInt = -1))) σ :=
    fun hn => ⟨Gl.refl ht, fun _ => rfl, fun _ _ => rfl, Or.inr ⟨rfl, fun h => hn (Int32.toInt_inj.mp h)⟩⟩
  refine ⟨M_277, rfl, Nat.le_of_ble_eq_true rfl, w_277_0 σ x1 x2 x3 ?_⟩
  rw [c1]
  refine ⟨fun _ => ⟨hin, fun _ => ⟨hin, rfl, set⟩, fun hn => ⟨fun h => absurd h (by decide), fun _ => ⟨hin, fun _ => ⟨rfl, keep hn⟩, fun _ => ⟨hin, rfl, set⟩⟩⟩⟩, fun _ => ⟨hin, fun _ => ⟨hin, rfl, set⟩, fun hn => ⟨fun _ => ⟨hin, fun _ => ⟨rfl, keep hn⟩, fun _ => ⟨hin, rfl, set⟩⟩, fun h => absurd rfl h⟩⟩⟩
