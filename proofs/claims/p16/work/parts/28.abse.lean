/-! ranges: blocks between cuts, what falls from cut to cut, the promise of a method -/
def offI (i : Instr) : Int := match i with
  | .ifCond _ off => off
  | .if_icmp _ off => off
  | .if_acmp _ off => off
  | _ => 0
theorem un0_f {f : Int32 → Bool} {o off : Int} {st st' : List Value} {b : Bool} (h : un0 f o st = some (b, off, st')) : off = o := by
  obtain ⟨x, -, -, e⟩ := un0_some h; exact e
theorem un2_f {f : Int32 → Int32 → Bool} {o off : Int} {st st' : List Value} {b : Bool} (h : un2 f o st = some (b, off, st')) : off = o := by
  obtain ⟨x, y, -, -, e⟩ := un2_some h; exact e
theorem brI_off {i : Instr} {st st' : List Value} {off : Int} (h : brI i st = some (false, off, st')) : off = offI i := by
  cases i with
  | ifCond c o => cases c <;> exact un0_f h
  | if_icmp c o => cases c <;> exact un2_f h
  | if_acmp c o =>
    cases c with
    | eq => cases h
    | ne =>
      simp only [brI] at h
      split at h
      · split at h
        · split at h
          · simp only [Option.some.injEq, Prod.mk.injEq] at h
            exact h.2.1.symm
          · cases h
        · cases h
      · cases h
  | goto o => cases h
  | tableswitch d lo hi offs =>
    simp only [brI] at h
    split at h
    · split at h
      · cases h
      · rename_i x r _
        cases ho : offs[(x.toInt - lo).toNat]? with
        | none => rw [ho] at h; cases h
        | some o => rw [ho] at h; cases h
    · cases h
  | lookupswitch d ps =>
    simp only [brI] at h
    split at h
    · split at h
      · cases h
      · cases h
    · cases h
  | _ => cases h
theorem ex_hp {nL : Nat} {i : Instr} {ex : List Nat} {ls : Lcl} {st st' : List Value} {σ σ' : Sg} (h : hpI i ex st σ = some (st', σ')) : pureI nL i ex ls st = none := by
  cases i <;> first | rfl | cases h
theorem ex_br {nL : Nat} {i : Instr} {ex : List Nat} {ls : Lcl} {st : List Value} {σ : Sg} {r : Bool × Int × List Value} (h : brI i st = some r) : pureI nL i ex ls st = none ∧ hpI i ex st σ = none := by
  cases i <;> first | exact ⟨rfl, rfl⟩ | cases h
theorem ex_ca {nL : Nat} {i : Instr} {ex : List Nat} {ls : Lcl} {st : List Value} {σ : Sg} {r : Nat × List Value × List Value} (h : caI i ex st = some r) : pureI nL i ex ls st = none ∧ hpI i ex st σ = none ∧ brI i st = none := by
  cases i <;> first | exact ⟨rfl, rfl, rfl⟩ | cases h
theorem ex_rt {nL : Nat} {i : Instr} {ex : List Nat} {ls : Lcl} {st : List Value} {σ : Sg} {ret : Option FieldType} {r : Option Value} (h : rtI i ret st = some r) : pureI nL i ex ls st = none ∧ hpI i ex st σ = none ∧ brI i st = none ∧ caI i ex st = none := by
  cases i <;> first | exact ⟨rfl, rfl, rfl, rfl⟩ | cases h
/-- forced to literals, so that the kernel works out nothing twice -/
def fN {β : Type} (n : Nat) (k : Nat → β) : β := match n with
  | 0 => k 0
  | Nat.succ m => k (Nat.succ m)
theorem fN_eq {β : Type} (n : Nat) (k : Nat → β) : fN n k = k n := by cases n <;> rfl
def fZ {β : Type} (i : Int) (k : Int → β) : β := match i with
  | .ofNat n => fN n (fun n => k (.ofNat n))
  | .negSucc n => fN n (fun n => k (.negSucc n))
theorem fZ_eq {β : Type} (i : Int) (k : Int → β) : fZ i k = k i := by
  cases i with
  | ofNat n => simp only [fZ]; exact fN_eq n (fun n => k (.ofNat n))
  | negSucc n => simp only [fZ]; exact fN_eq n (fun n => k (.negSucc n))
def fL {α β : Type} (f : α → (α → β) → β) : List α → (List α → β) → β
  | [], k => k []
  | x :: xs, k => f x (fun x => fL f xs (fun xs => k (x :: xs)))
theorem fL_eq {α β : Type} {f : α → (α → β) → β} (hf : ∀ x k, f x k = k x) : ∀ (l : List α) (k : List α → β), fL f l k = k l
  | [], k => rfl
  | x :: xs, k => by simp only [fL]; rw [hf, fL_eq hf xs]
def fT3 {β : Type} (t : Nat × Int × Int) (k : Nat × Int × Int → β) : β := fN t.1 (fun a => fZ t.2.1 (fun b => fZ t.2.2 (fun c => k (a, b, c))))
def fSI {β : Type} (s : SI) (k : SI → β) : β := fN s.1 (fun t => fZ s.2.1 (fun lo => fZ s.2.2.1 (fun hi => fN s.2.2.2.1 (fun b => fZ s.2.2.2.2.1 (fun o => fL fT3 s.2.2.2.2.2 (fun im => k (t, lo, hi, b, o, im)))))))
def fP {β : Type} (p : Nat × Nat) (k : Nat × Nat → β) : β := fN p.1 (fun a => fN p.2 (fun b => k (a, b)))
def fE {β : Type} (e : ME) (k : ME → β) : β := fN e.1 (fun a => fN e.2.1 (fun b => fN e.2.2.1 (fun c => fN e.2.2.2 (fun d => k (a, b, c, d)))))
def frcA {β : Type} (a : AS) (k : AS → β) : β := fL fSI a.1 (fun S => fL fP a.2.1 (fun L => fL fN a.2.2.1 (fun K => fL fE a.2.2.2 (fun M => k (S, L, K, M)))))
theorem frcA_eq {β : Type} (a : AS) (k : AS → β) : frcA a k = k a := by
  unfold frcA
  rw [fL_eq (fun x k => by simp only [fSI, fN_eq, fZ_eq]; rw [fL_eq (fun x k => by simp only [fT3, fN_eq, fZ_eq])])]
  rw [fL_eq (fun x k => by simp only [fP, fN_eq])]
  rw [fL_eq (fun x k => fN_eq x k)]
  rw [fL_eq (fun x k => by simp only [fE, fN_eq])]
def lkT {α : Type} : List (Nat × α) → Nat → Option α
  | [], _ => none
  | (k, v) :: r, n => match Nat.beq k n with
    | true => some v
    | false => lkT r n
theorem lkT_eq {α : Type} : ∀ (l : List (Nat × α)) (n : Nat), lkT l n = l.lookup n
  | [], n => rfl
  | (k, v) :: r, n => by
    simp only [lkT]
    rw [List.lookup_cons, lkT_eq r n]
    cases hb : Nat.beq k n with
    | true =>
      have := Nat.eq_of_beq_eq_true hb
      subst this
      simp
    | false =>
      have : ¬ n = k := fun e => by rw [e, Nat.beq_refl] at hb; cases hb
      have h2 : (n == k) = false := by simp [this]
      rw [h2]
def sk {α : Type} (m : Nat) (i : Instr) (x : Option α) : Option α := match Nat.testBit m i.ctorIdx with
  | true => x
  | false => none
theorem sk_some {α : Type} {m : Nat} {i : Instr} {x : Option α} {y : α} (h : sk m i x = some y) : x = some y := by
  unfold sk at h
  split at h
  · exact h
  · cases h
def PM : Nat := 45125464719857970190809031619798344113595164
def HM : Nat := 696898288265378357324961547542490708449409
def BM : Nat := 178405961588244985132550201010070601393504256
def CM : Nat := 1856910058928070412348686336
/-- one instruction, then what follows -/
def stepA (TY : List (List SEG)) (dep : List (Nat × Nat × Nat)) (env : List (Nat × SP)) (sp : SP) (T : List (Nat × EN)) (nL : Nat) (ret : Option FieldType) (xw : XW) (xl : XL) (xr : AS → Bool) (argS : List (Nat × Nat)) (k : Nat → AS → Bool) (pc : Nat) (a : AS) : Bool :=
  match lkT T pc with
  | none => false
  | some en => match sk PM en.1 (pureA nL en.1 en.2.2 a) with
    | some a' => k (pc + en.2.1) a'
    | none => match sk HM en.1 ((hpX TY (spMods sp) dep xw xl en.1 en.2.2 a).or (hpA TY (spMods sp) dep en.1 en.2.2 a)) with
      | some a' => k (pc + en.2.1) a'
      | none => match sk BM en.1 (brA en.1 a) with
        | some alts => decide (0 ≤ (pc : Int) + offI en.1) && alts.all (fun p => match p.1 with
          | some off => decide (0 ≤ (pc : Int) + off) && k ((pc : Int) + off).toNat p.2
          | none => k (pc + 3) p.2)
        | none => match sk CM en.1 (mmA (spD sp) en.1 en.2.2 a) with
          | some a' => k (pc + 3) a'
          | none => match sk CM en.1 (caA TY (spMods sp) (spD sp) env en.1 en.2.2 a) with
            | some a' => k (pc + 3) a'
            | none => rtA TY ret sp argS en.1 a && xr a
def argOK (ρ : List Value) (av : List Value) (argS : List (Nat × Nat)) : Prop := ∀ p ∈ argS, ∃ v, ρ[p.2]? = some v ∧ av[p.1]? = some v
section AbsE
variable {P : List MI} {TY : List (List SEG)} {I : Sg → Prop} {dep : List (Nat × Nat × Nat)} {env : List (Nat × SP)} {sp : SP} {mi : Nat} {M0 : MI} {av : List Value} {σ0 : Sg}
theorem stepA_ok {argS : List (Nat × Nat)} {k : Nat → AS → Bool} {pc : Nat} {a : AS} {ρ0 ρ : List Value} {ls : Lcl} {st : List Value} {σ : Sg} (hM : P[mi]? = some M0) (hE : ∀ p ∈ env, SpecOK P TY I p.1 p.2) (hst : stab I dep) (hA : argOK ρ0 av argS) {xw : XW} {xl : XL} (hw : HookW TY I xw) (hl : HookL TY I xl) {xr : AS → Bool} {X : Sg → Prop} (hX : ∀ ρ a ls st σ, Rel ρ0 ρ a ls st σ → xr a = true → X σ) (h : stepA TY dep env sp M0.2.2.2.2 M0.2.2.1 M0.2.2.2.1 xw xl xr argS k pc a = true) (hr : Rel ρ0 ρ a ls st σ) (hG : Glo TY I (spMods sp) σ0 σ)
    (hk : ∀ pc' a', k pc' a' = true → ∀ ρ' ls' st' σ', Rel ρ0 ρ' a' ls' st' σ' → Glo TY I (spMods sp) σ0 σ' → Rn P (spD sp) mi pc' ls' st' σ' (fun v σ9 => spQ TY I sp av σ0 v σ9 ∧ X σ9)) : Rn P (spD sp) mi pc ls st σ (fun v σ9 => spQ TY I sp av σ0 v σ9 ∧ X σ9) := by
  unfold stepA at h
  rw [lkT_eq] at h
  split at h
  · cases h
  · rename_i en hen
    split at h
    · rename_i a' hp
      obtain ⟨ρ', ls', st', h1, h2⟩ := pureA_ok hr (sk_some hp)
      refine Rn.step (r := (pc + en.2.1, ls', st', σ)) hM hen ?_ (hk _ _ h ρ' ls' st' σ h2 hG)
      unfold stp
      rw [h1]
    · split at h
      · rename_i a' hp
        have hpo : ∃ ρ' st' σ', hpI en.1 en.2.2 st σ = some (st', σ') ∧ Rel ρ0 ρ' a' ls st' σ' ∧ Glo TY I (spMods sp) σ0 σ' := by
          have hp2 := sk_some hp
          cases h0 : hpX TY (spMods sp) dep xw xl en.1 en.2.2 a with
          | some a1 =>
            rw [h0] at hp2
            cases hp2
            exact hpX_ok hst hw hl hr hG h0
          | none =>
            rw [h0, Option.none_or] at hp2
            exact hpA_ok hst hr hG hp2
        obtain ⟨ρ', st', σ', h1, h2, h3⟩ := hpo
        refine Rn.step (r := (pc + en.2.1, ls, st', σ')) hM hen ?_ (hk _ _ h ρ' ls st' σ' h2 h3)
        unfold stp
        rw [ex_hp h1]
        simp only [h1]
      · split at h
        · rename_i alts hb
          rw [Bool.and_eq_true, decide_eq_true_iff] at h
          obtain ⟨b, off, st', h1, p, h2, h3, h4⟩ := brA_ok hr (sk_some hb)
          obtain ⟨x1, x2⟩ := ex_br (nL := M0.2.2.1) (ex := en.2.2) (ls := ls) (σ := σ) h1
          have hp := List.all_eq_true.mp h.2 p h2
          cases b with
          | true =>
            simp only [if_true] at h3
            simp only [h3, Bool.and_eq_true, decide_eq_true_eq] at hp
            refine Rn.step (r := (((pc : Int) + off).toNat, ls, st', σ)) hM hen ?_ (hk _ _ hp.2 ρ ls st' σ h4 hG)
            unfold stp
            rw [x1]
            simp only [x2, h1]
            rw [if_pos hp.1]
            rfl
          | false =>
            have h3 : p.1 = none := h3
            simp only [h3] at hp
            have ho := brI_off h1
            refine Rn.step (r := (pc + 3, ls, st', σ)) hM hen ?_ (hk _ _ hp ρ ls st' σ h4 hG)
            unfold stp
            rw [x1]
            simp only [x2, h1]
            rw [if_pos (by rw [ho]; exact h.1)]
            rfl
        · split at h
          · rename_i a' hm
            obtain ⟨mj, av', rest, v, ρ', h1, h2, h3, h4⟩ := mmA_ok hr (sk_some hm)
            obtain ⟨x1, x2, x3⟩ := ex_ca (nL := M0.2.2.1) (ls := ls) (σ := σ) h1
            have hrec := hk _ _ h ρ' ls _ σ h4 hG
            cases hd : spD sp with
            | zero => omega
            | succ d1 =>
              rw [hd] at hrec
              refine Rn.mm hM hen ?_ h2 hrec
              unfold stp
              rw [x1]
              simp only [x2, x3, h1]
          · split at h
            · rename_i a' hc
              obtain ⟨mj, av', rest, e, Qc, h1, h2, h3, h4, h5⟩ := caA_ok hE hr hG (sk_some hc)
              obtain ⟨x1, x2, x3⟩ := ex_ca (nL := M0.2.2.1) (ls := ls) (σ := σ) h1
              have hrec : ∀ v σ', Qc v σ' → Rn P (spD sp) mi (pc + 3) ls (v.toList ++ rest) σ' (fun v σ9 => spQ TY I sp av σ0 v σ9 ∧ X σ9) := fun v σ' hq => by
                obtain ⟨⟨ρ', g1⟩, g2⟩ := h5 v σ' hq
                exact hk _ _ h ρ' ls _ σ' g1 g2
              cases hd : spD sp with
              | zero => omega
              | succ d1 =>
                rw [hd] at hrec
                refine Rn.call hM hen ?_ h3 (h4.deep (by omega)) hrec
                unfold stp
                rw [x1]
                simp only [x2, x3, h1]
            · rw [Bool.and_eq_true] at h
              have hx9 := hX ρ a ls st σ hr h.2
              have h := h.1
              obtain ⟨r, hr0⟩ := hr.2.2.2.2.2
              obtain ⟨v, h1, h2⟩ := rtA_ok (av := av) hr hG (fun p hp => by
                obtain ⟨v, g1, g2⟩ := hA p hp
                exact ⟨v, by rw [hr0]; exact at_app _ g1, g2⟩) h
              obtain ⟨x1, x2, x3, x4⟩ := ex_rt (nL := M0.2.2.1) (ex := en.2.2) (ls := ls) (σ := σ) h1
              refine Rn.ret hM hen ?_ ⟨h2, hx9⟩
              unfold stp
              rw [x1]
              simp only [x2, x3, x4, h1]
end AbsE
/-- a cut: where each name comes from and what is known of it; locals; memory; what falls; the call's values -/
abbrev CUT : Type := List ((Nat × Nat × Nat) × (Nat × Int × Int)) × List (Nat × Nat) × List ME × List (Int × Int × Nat) × List (Nat × Nat)
def cutS : Nat → List ((Nat × Nat × Nat) × (Nat × Int × Int)) → List SI
  | _, [] => []
  | n, s :: r => (s.2.1, s.2.2.1, s.2.2.2, n, 0, []) :: cutS (n + 1) r
def cutA (C : CUT) : AS := (cutS 0 C.1, C.2.1, [], C.2.2.1)
/-- names for a cut's names, in the state that comes to it -/
def instA (TY : List (List SEG)) : List ((Nat × Nat × Nat) × (Nat × Int × Int)) → List SI → List ME → List (Nat × Nat) → List Nat → Option (List SI × List ME × List Nat)
  | [], S, M, _, θ => some (S, M, θ)
  | s :: r, S, M, L, θ => match s.1.1 with
    | 0 => match L.lookup s.1.2.1 with
      | some x => instA TY r S M L (θ ++ [x])
      | none => none
    | 1 => match θ[s.1.2.1]? with
      | some o => if tag S o 1 then match fdM M (mF o s.1.2.2) with
          | some v => instA TY r S M L (θ ++ [v])
          | none => instA TY r (S ++ [(0, (ldRg TY (kn S o) s.1.2.2 s.1.2.2).1, (ldRg TY (kn S o) s.1.2.2 s.1.2.2).2, S.length, 0, [])]) ((0, o, s.1.2.2, S.length) :: M) L (θ ++ [S.length])
        else none
      | none => none
    | 2 => match θ[s.1.2.1]? with
      | some o => match fdM M (mR o s.1.2.2) with
        | some v => instA TY r S M L (θ ++ [v])
        | none => none
      | none => none
    | _ => none
def arsC (S : List SI) : List ((Nat × Nat × Nat) × (Nat × Int × Int)) → List Nat → Bool
  | [], [] => true
  | s :: r, x :: θ => arA S x s.2 && arsC S r θ
  | _, _ => false
/-- two names of one value, whatever its kind -/
def sameN (S : List SI) (θ : List Nat) (s : Nat) (t : Nat) : Bool := match θ[t]? with
  | some x => eqS S s x
  | none => false
def memC (S : List SI) (M : List ME) (θ : List Nat) (e : ME) : Bool := (Nat.ble e.1 2 || Nat.beq e.1 6) && M.any (fun e2 => Nat.beq e2.1 e.1 && ((Nat.beq e.1 6 && (sameN S θ e2.2.1 e.2.1 && Nat.beq e2.2.2.1 e.2.2.1)) || (sameN S θ e2.2.1 e.2.1 && (sameN S θ e2.2.2.2 e.2.2.2 && ((Nat.beq e.1 1 && sameN S θ e2.2.2.1 e.2.2.1) || (!(Nat.beq e.1 1) && Nat.beq e2.2.2.1 e.2.2.1))))))
def BB : Nat := 8589934592
def bnd (S : List SI) (m : Int × Int × Nat) : Int × Int := if m.2.1 = 0 then (m.1, m.1) else if m.2.1 = 1 then (m.1 + (ivl S m.2.2).1, m.1 + (ivl S m.2.2).2) else (m.1 - (ivl S m.2.2).2, m.1 - (ivl S m.2.2).1)
def okB (S : List SI) (m : Int × Int × Nat) : Bool := (decide (m.2.1 = 0) || ((decide (m.2.1 = 1) || decide (m.2.1 = -1)) && tag S m.2.2 0)) && decide (0 ≤ (bnd S m).1 ∧ (bnd S m).2 < (BB : Int))
/-- 1: the second is less; 2: equal; 0: not known -/
def cmpM (S : List SI) (m0 m1 : Int × Int × Nat) : Nat :=
  if m0.2.1 = 0 then (if m1.2.1 = 0 then (if m1.1 < m0.1 then 1 else if m1.1 = m0.1 then 2 else 0) else 0)
  else if m1.2.1 = m0.2.1 ∧ tag S m0.2.2 0 = true ∧ tag S m1.2.2 0 = true ∧ (gS S m0.2.2).2.2.2.1 = (gS S m1.2.2).2.2.2.1 then
    (if m1.1 + m1.2.1 * (gS S m1.2.2).2.2.2.2.1 < m0.1 + m0.2.1 * (gS S m0.2.2).2.2.2.2.1 then 1 else if m1.1 + m1.2.1 * (gS S m1.2.2).2.2.2.2.1 = m0.1 + m0.2.1 * (gS S m0.2.2).2.2.2.2.1 then 2 else 0)
  else 0
def lexA (S : List SI) : List (Int × Int × Nat) → List (Int × Int × Nat) → Bool
  | m0 :: r0, m1 :: r1 => okB S m1 && (match cmpM S m0 m1 with
    | 1 => Nat.beq r0.length r1.length && r1.all (okB S)
    | 2 => lexA S r0 r1
    | _ => false)
  | _, _ => false
def mapM (θ : List Nat) (ms : List (Int × Int × Nat)) : List (Int × Int × Nat) := ms.map (fun m => (m.1, m.2.1, if m.2.1 = 0 then 0 else (θ[m.2.2]?).getD 1000000))
def arriveA (TY : List (List SEG)) (argS : List (Nat × Nat)) (mA : Option (List (Int × Int × Nat))) (C : CUT) (a : AS) : Bool := match a.2.2.1 with
  | [] => match instA TY C.1 a.1 a.2.2.2 a.2.1 [] with
    | some (S, M, θ) => arsC S C.1 θ && (C.2.1.all (fun p => match a.2.1.lookup p.1 with
        | some s => sameN S θ s p.2
        | none => false) && (C.2.2.1.all (memC S M θ) && (C.2.2.2.2.all (fun p => match argS.lookup p.1 with
        | some s => sameN S θ s p.2
        | none => false) && (match mA with
        | none => true
        | some m => lexA S m (mapM θ C.2.2.2.1)))))
    | none => false
  | _ => false
def exA (TY : List (List SEG)) (dep : List (Nat × Nat × Nat)) (env : List (Nat × SP)) (sp : SP) (T : List (Nat × EN)) (nL : Nat) (ret : Option FieldType) (xw : XW) (xl : XL) (xr : AS → Bool) (cuts : List (Nat × CUT)) (argS : List (Nat × Nat)) (mA : Option (List (Int × Int × Nat))) : Nat → Nat → AS → Bool
  | 0, _, _ => false
  | n + 1, pc, a => fN pc (fun pc => frcA a (fun a => match cuts.filter (fun q => Nat.beq q.1 pc) with
    | q :: qs => (q :: qs).any (fun q => arriveA TY argS mA q.2 a)
    | [] => stepA TY dep env sp T nL ret xw xl xr argS (exA TY dep env sp T nL ret xw xl xr cuts argS mA n) pc a))
def mvl (ρ : List Value) (m : Int × Int × Nat) : Int := m.1 + m.2.1 * (match ρ[m.2.2]? with
  | some (.int w) => w.toInt
  | _ => 0)
def encM (ρ : List Value) : List (Int × Int × Nat) → Nat
  | [] => 0
  | m :: r => (mvl ρ m).toNat * BB ^ r.length + encM ρ r
/-- the state at a method's entry -/
def entS : Nat → List (Nat × Int × Int) → List SI
  | _, [] => []
  | n, t :: r => (t.1, t.2.1, t.2.2, n, 0, []) :: entS (n + 1) r
def entL : Nat → Nat → List (Nat × Int × Int) → List (Nat × Nat)
  | _, _, [] => []
  | i, n, t :: r => (i, n) :: entL (if Nat.beq t.1 3 then i + 2 else i + 1) (n + 1) r
def entP : Nat → List (Nat × Nat × Int × Int) → List SI × List ME
  | _, [] => ([], [])
  | n, p :: r => ((0, p.2.2.1, p.2.2.2, n, 0, []) :: (entP (n + 1) r).1, (0, p.1, p.2.1, n) :: (entP (n + 1) r).2)
def entE (sp : SP) (p : Nat × Nat) : ME := match Nat.blt p.2 4 with
  | true => (6, p.1, p.2, 0)
  | false => match (spPre sp)[(spPre sp).findIdx (fun u => Nat.beq u.1 ((p.2 - 4) / 1000) && Nat.beq u.2.1 ((p.2 - 4) % 1000))]? with
    | some u => if u.1 = (p.2 - 4) / 1000 ∧ u.2.1 = (p.2 - 4) % 1000 then (3, (spArgs sp).length + (spPre sp).findIdx (fun u => Nat.beq u.1 ((p.2 - 4) / 1000) && Nat.beq u.2.1 ((p.2 - 4) % 1000)), p.1, 0) else (9, 0, 0, 0)
    | none => (9, 0, 0, 0)
def entA (sp : SP) : AS := (entS 0 (spArgs sp) ++ (entP (spArgs sp).length (spPre sp)).1, entL 0 0 (spArgs sp), [], (spPhi sp).map (entE sp) ++ (entP (spArgs sp).length (spPre sp)).2)
def slots (ts : List (Nat × Int × Int)) : Nat := (ts.map (fun t => if Nat.beq t.1 3 then 2 else 1)).sum
def wfC (C : CUT) : Bool := C.2.2.2.1.all (fun m => decide (m.2.1 = 0) || Nat.blt m.2.2 C.1.length)
/-- the whole test of a method against its promise -/
def chkX (xw : XW) (xl : XL) (xr xc : AS → Bool) (TY : List (List SEG)) (dep : List (Nat × Nat × Nat)) (env : List (Nat × SP)) (sp : SP) (M : MI) (cuts : List (Nat × CUT)) (fuel : Nat) : Bool :=
  Nat.ble (slots (spArgs sp)) M.2.2.1 && ((spPre sp).all (fun p => match (spArgs sp)[p.1]? with
    | some t => Nat.beq t.1 1
    | none => false) && (exA TY dep env sp M.2.2.2.2 M.2.2.1 M.2.2.2.1 xw xl xr cuts ((List.range (spArgs sp).length).map (fun j => (j, j))) none fuel 0 (entA sp) && cuts.all (fun q => wfC q.2 && stepA TY dep env sp M.2.2.2.2 M.2.2.1 M.2.2.2.1 xw xl xc q.2.2.2.2.2 (exA TY dep env sp M.2.2.2.2 M.2.2.1 M.2.2.2.1 xw xl xc cuts q.2.2.2.2.2 (some q.2.2.2.2.1) fuel) q.1 (cutA q.2))))
def chkM (TY : List (List SEG)) (dep : List (Nat × Nat × Nat)) (env : List (Nat × SP)) (sp : SP) (M : MI) (cuts : List (Nat × CUT)) (fuel : Nat) : Bool := chkX noW noL (fun _ => true) (fun _ => true) TY dep env sp M cuts fuel
