/-! runs: more steps, deeper; a method's promise; ranges along calls and returns -/
theorem run_more {P : List MI} : ∀ (n m d e mi pc : Nat) (ls : Lcl) (st : List Value) (σ : Sg) (x : Option Value × Sg), n ≤ m → d ≤ e → run P n d mi pc ls st σ = some x → run P m e mi pc ls st σ = some x := by
  intro n
  induction n with
  | zero => intro m d e mi pc ls st σ x _ _ h; cases h
  | succ n ih =>
    intro m d e mi pc ls st σ x hm hd h
    cases m with
    | zero => omega
    | succ m =>
      have hm : n ≤ m := by omega
      unfold run at h ⊢
      cases hM : P[mi]? with
      | none => rw [hM] at h; cases h
      | some M =>
        simp only [hM] at h ⊢
        cases hen : M.2.2.2.2.lookup pc with
        | none => rw [hen] at h; cases h
        | some en =>
          simp only [hen] at h ⊢
          cases hs : stp M.2.2.1 M.2.2.2.1 pc en ls st σ with
          | none => rw [hs] at h; cases h
          | some r =>
            simp only [hs] at h ⊢
            rcases r with r | v | r
            · exact ih m d e _ _ _ _ _ x hm hd h
            · exact h
            · cases d with
              | zero => cases h
              | succ d1 =>
                cases e with
                | zero => omega
                | succ e1 =>
                  simp only at h ⊢
                  cases hv : mm r.1 r.2.1 with
                  | some v =>
                    simp only [hv] at h ⊢
                    exact ih m _ _ _ _ _ _ _ x hm hd h
                  | none =>
                    simp only [hv] at h ⊢
                    cases hMj : P[r.1]? with
                    | none => rw [hMj] at h; cases h
                    | some Mj =>
                      simp only [hMj] at h ⊢
                      split at h
                      · rename_i hlen
                        rw [if_pos hlen]
                        cases hc : run P n d1 r.1 0 (lv_args 0 r.2.1) [] σ with
                        | none => rw [hc] at h; cases h
                        | some y =>
                          rw [ih m d1 e1 _ _ _ _ _ _ hm (by omega) hc]
                          rw [hc] at h
                          exact ih m _ _ _ _ _ _ _ x hm hd h
                      · cases h
/-- from here on the method ends, and what it leaves -/
def Rn (P : List MI) (d mi pc : Nat) (ls : Lcl) (st : List Value) (σ : Sg) (Q : Option Value → Sg → Prop) : Prop := ∃ n v σ', run P n d mi pc ls st σ = some (v, σ') ∧ Q v σ'
def Ok (P : List MI) (d mi : Nat) (av : List Value) (σ : Sg) (Q : Option Value → Sg → Prop) : Prop := ∃ M, P[mi]? = some M ∧ (lg_sl av).length ≤ M.2.2.1 ∧ Rn P d mi 0 (lv_args 0 av) [] σ Q
theorem Rn.mono {P : List MI} {d mi pc : Nat} {ls : Lcl} {st : List Value} {σ : Sg} {Q Q' : Option Value → Sg → Prop} (h : Rn P d mi pc ls st σ Q) (hq : ∀ v σ', Q v σ' → Q' v σ') : Rn P d mi pc ls st σ Q' := by
  obtain ⟨n, v, σ', h1, h2⟩ := h
  exact ⟨n, v, σ', h1, hq v σ' h2⟩
theorem Ok.mono {P : List MI} {d mi : Nat} {av : List Value} {σ : Sg} {Q Q' : Option Value → Sg → Prop} (h : Ok P d mi av σ Q) (hq : ∀ v σ', Q v σ' → Q' v σ') : Ok P d mi av σ Q' := by
  obtain ⟨M, h1, h2, h3⟩ := h
  exact ⟨M, h1, h2, h3.mono hq⟩
theorem Ok.deep {P : List MI} {d e mi : Nat} {av : List Value} {σ : Sg} {Q : Option Value → Sg → Prop} (h : Ok P d mi av σ Q) (hd : d ≤ e) : Ok P e mi av σ Q := by
  obtain ⟨M, h1, h2, n, v, σ', h3, h4⟩ := h
  exact ⟨M, h1, h2, n, v, σ', run_more n n d e _ _ _ _ _ _ (Nat.le_refl _) hd h3, h4⟩
section Rns
variable {P : List MI} {d mi pc : Nat} {ls : Lcl} {st : List Value} {σ : Sg} {Q : Option Value → Sg → Prop} {M : MI} {en : EN}
theorem Rn.step {r : Nat × Lcl × List Value × Sg} (hM : P[mi]? = some M) (hen : M.2.2.2.2.lookup pc = some en) (hs : stp M.2.2.1 M.2.2.2.1 pc en ls st σ = some (.inl r)) (h : Rn P d mi r.1 r.2.1 r.2.2.1 r.2.2.2 Q) : Rn P d mi pc ls st σ Q := by
  obtain ⟨n, v, σ', h1, h2⟩ := h
  refine ⟨n + 1, v, σ', ?_, h2⟩
  unfold run
  simp only [hM, hen, hs]
  exact h1
theorem Rn.ret {v : Option Value} (hM : P[mi]? = some M) (hen : M.2.2.2.2.lookup pc = some en) (hs : stp M.2.2.1 M.2.2.2.1 pc en ls st σ = some (.inr (.inl v))) (h : Q v σ) : Rn P d mi pc ls st σ Q := by
  refine ⟨1, v, σ, ?_, h⟩
  unfold run
  simp only [hM, hen, hs]
theorem Rn.mm {mj : Nat} {av rest : List Value} {v : Value} (hM : P[mi]? = some M) (hen : M.2.2.2.2.lookup pc = some en) (hs : stp M.2.2.1 M.2.2.2.1 pc en ls st σ = some (.inr (.inr (mj, av, rest)))) (hv : mm mj av = some v) (h : Rn P (d + 1) mi (pc + 3) ls (v :: rest) σ Q) : Rn P (d + 1) mi pc ls st σ Q := by
  obtain ⟨n, w, σ', h1, h2⟩ := h
  refine ⟨n + 1, w, σ', ?_, h2⟩
  unfold run
  simp only [hM, hen, hs, hv]
  exact h1
theorem mm_none {mj : Nat} {av : List Value} (h : mj < 1000) : mm mj av = none := by
  unfold mm
  split
  · rw [if_neg (by omega), if_neg (by omega)]
  · rfl
theorem Rn.call {mj : Nat} {av rest : List Value} {Qc : Option Value → Sg → Prop} (hM : P[mi]? = some M) (hen : M.2.2.2.2.lookup pc = some en) (hs : stp M.2.2.1 M.2.2.2.1 pc en ls st σ = some (.inr (.inr (mj, av, rest)))) (hj : mj < 1000) (hc : Ok P d mj av σ Qc) (h : ∀ v σ', Qc v σ' → Rn P (d + 1) mi (pc + 3) ls (v.toList ++ rest) σ' Q) : Rn P (d + 1) mi pc ls st σ Q := by
  obtain ⟨Mj, h1, h2, n, v, σ1, h3, h4⟩ := hc
  obtain ⟨n2, w, σ2, g1, g2⟩ := h v σ1 h4
  refine ⟨n + n2 + 1, w, σ2, ?_, g2⟩
  unfold run
  simp only [hM, hen, hs, mm_none hj, h1]
  rw [if_pos h2, run_more n (n + n2) d d _ _ _ _ _ _ (by omega) (Nat.le_refl _) h3]
  exact run_more n2 (n + n2) (d + 1) (d + 1) _ _ _ _ _ _ (by omega) (Nat.le_refl _) g1
end Rns
def avOK (t : Nat × Int × Int) (v : Value) : Prop := match t.1 with
  | 0 => ∃ w : Int32, v = .int w ∧ t.2.1 ≤ w.toInt ∧ w.toInt ≤ t.2.2
  | 1 => ∃ q, v = .ref q ∧ kdn q = some t.2.1.toNat
  | 3 => ∃ w, v = .long w
  | _ => False
def avsOK (ts : List (Nat × Int × Int)) (av : List Value) : Prop := av.length = ts.length ∧ ∀ (j : Nat) (t : Nat × Int × Int) (v : Value), ts[j]? = some t → av[j]? = some v → avOK t v
def fdOK (av : List Value) (σ : Sg) (p : Nat × Nat × Int × Int) : Prop := ∃ q, av[p.1]? = some (.ref q) ∧ p.2.2.1 ≤ (σ.1 q p.2.1).toInt ∧ (σ.1 q p.2.1).toInt ≤ p.2.2.2
def resOK (t : Option (Nat × Int × Int)) (v : Option Value) : Prop := match t, v with
  | none, none => True
  | some t, some v => avOK t v
  | _, _ => False
def spArgs (sp : SP) : List (Nat × Int × Int) := sp.1
def spPre (sp : SP) : List (Nat × Nat × Int × Int) := sp.2.1
def spRes (sp : SP) : Option (Nat × Int × Int) := sp.2.2.1
def spImp (sp : SP) : List (Nat × Int × Int) := sp.2.2.2.1
def spPost (sp : SP) : List (Nat × Nat × Int × Int) := sp.2.2.2.2.1
def spMods (sp : SP) : List (Nat × Nat × Nat) := sp.2.2.2.2.2.1
def spD (sp : SP) : Nat := sp.2.2.2.2.2.2.1
def spBt (sp : SP) : Nat := sp.2.2.2.2.2.2.2.1
def spPhi (sp : SP) : List (Nat × Nat) := sp.2.2.2.2.2.2.2.2
/-- below 4: a value's two lowest bits; else: a value is no more than a field of another -/
def phOK (av : List Value) (σ : Sg) (p : Nat × Nat) : Prop := match Nat.blt p.2 4 with
  | true => ∃ w : Int32, av[p.1]? = some (.int w) ∧ w.toBitVec.toNat % 4 = p.2
  | false => ∃ (w : Int32) (q : Nat), av[p.1]? = some (.int w) ∧ av[(p.2 - 4) / 1000]? = some (.ref q) ∧ w.toInt ≤ (σ.1 q ((p.2 - 4) % 1000)).toInt
/-- what a promise says of the answer and the store behind it -/
def spQ (TY : List (List SEG)) (I : Sg → Prop) (sp : SP) (av : List Value) (σ : Sg) (v : Option Value) (σ' : Sg) : Prop := Glo TY I (spMods sp) σ σ' ∧ resOK (spRes sp) v ∧ (∀ w : Int32, v = some (.int w) → ¬ w = 0 → (∀ t ∈ spImp sp, ∃ y : Int32, av[t.1]? = some (.int y) ∧ t.2.1 ≤ y.toInt ∧ y.toInt ≤ t.2.2) ∧ (spBt sp = 1 → ∃ x y z : Int32, av = [.int x, .int y, .int z] ∧ y.toInt ≤ x.toInt ∧ x.toInt ≤ z.toInt)) ∧ (∀ p ∈ spPost sp, fdOK av σ' p) ∧ (2 ≤ spBt sp → ∃ w : Int32, v = some (.int w) ∧ w.toBitVec.toNat % 4 = spBt sp - 2)
def SpecOK (P : List MI) (TY : List (List SEG)) (I : Sg → Prop) (mi : Nat) (sp : SP) : Prop := mi < 1000 ∧ ∀ av σ, typed TY σ → I σ → avsOK (spArgs sp) av → (∀ p ∈ spPre sp, fdOK av σ p) → (∀ p ∈ spPhi sp, phOK av σ p) → Ok P (spD sp) mi av σ (spQ TY I sp av σ)
/-- a name fits what is asked -/
def arA (S : List SI) (s : Nat) (t : Nat × Int × Int) : Bool := match t.1 with
  | 0 => tag S s 0 && decide (t.2.1 ≤ (ivl S s).1 ∧ (ivl S s).2 ≤ t.2.2)
  | 1 => tag S s 1 && Nat.beq (kn S s) t.2.1.toNat
  | 3 => tag S s 3
  | _ => false
def arsA (S : List SI) : List Nat → List (Nat × Int × Int) → Bool
  | [], [] => true
  | s :: ss, t :: ts => arA S s t && arsA S ss ts
  | _, _ => false
/-- a cell of a name's object lies in a range -/
def fdA (TY : List (List SEG)) (S : List SI) (M : List ME) (as : List Nat) (p : Nat × Nat × Int × Int) : Bool := match as[p.1]? with
  | some r => tag S r 1 && (match fdM M (mF r p.2.1) with
    | some v => tag S v 0 && decide (p.2.2.1 ≤ (ivl S v).1 ∧ (ivl S v).2 ≤ p.2.2.2)
    | none => decide (p.2.2.1 ≤ (ldRg TY (kn S r) p.2.1 p.2.1).1 ∧ (ldRg TY (kn S r) p.2.1 p.2.1).2 ≤ p.2.2.2))
  | none => false
def phA (S : List SI) (M : List ME) (as : List Nat) (p : Nat × Nat) : Bool := match Nat.blt p.2 4 with
  | true => (match as[p.1]? with
    | some s => tag S s 0 && (match phi S M s with
      | some c => Nat.beq c p.2
      | none => false)
    | none => false)
  | false => (match as[p.1]?, as[(p.2 - 4) / 1000]? with
    | some s, some r => tag S s 0 && (tag S r 1 && (match fdM M (mF r ((p.2 - 4) % 1000)) with
      | some v => tag S v 0 && (eqS S s v || (M.any (fun e => Nat.beq e.1 3 && (Nat.beq e.2.1 v && Nat.beq e.2.2.1 s)) || decide ((ivl S s).2 ≤ (ivl S v).1)))
      | none => false))
    | _, _ => false)
def keepC (S : List SI) (ms : List (Nat × Nat × Nat)) (M : List ME) : List ME := M.filter (fun e => match e.1 with
  | 0 => !(inM ms (kn S e.2.1) e.2.2.1)
  | 1 => !(ms.any (fun m => Nat.beq m.1 (kn S e.2.1)))
  | _ => true)
def subM (ms' ms : List (Nat × Nat × Nat)) : Bool := ms'.all (fun m => ms.any (fun n => Nat.beq n.1 m.1 && (Nat.ble n.2.1 m.2.1 && Nat.ble m.2.2 n.2.2)))
def postA (as : List Nat) : List (Nat × Nat × Int × Int) → List SI → List ME → Option (List SI × List ME)
  | [], S, M => some (S, M)
  | p :: ps, S, M => match as[p.1]? with
    | some r => postA as ps (S ++ [(0, p.2.2.1, p.2.2.2, S.length, 0, [])]) ((0, r, p.2.1, S.length) :: M)
    | none => none
def impA (S : List SI) (as : List Nat) (sp : SP) : List (Nat × Int × Int) := (if Nat.beq (spBt sp) 1 then (match as with
  | [x, y, z] => if tag S x 0 && (tag S y 0 && tag S z 0) then [(x, (ivl S y).1, (ivl S z).2)] else []
  | _ => []) else []) ++ (spImp sp).filterMap (fun t => (as[t.1]?).map (fun s => (s, t.2.1, t.2.2)))
def catA (S : List SI) (K : List Nat) : Nat := (K.map (fun s => if Nat.ble 3 (gS S s).1 then 2 else 1)).sum
/-- behind a call -/
def behA (TY : List (List SEG)) (ms : List (Nat × Nat × Nat)) (d : Nat) (env : List (Nat × SP)) (mj : Nat) (as : List Nat) (S : List SI) (L : List (Nat × Nat)) (K : List Nat) (M : List ME) : Option AS :=
  match env.find? (fun p => Nat.beq p.1 mj && (arsA S as (spArgs p.2) && ((spPre p.2).all (fdA TY S M as) && ((spPhi p.2).all (phA S M as) && (Nat.blt (spD p.2) d && subM (spMods p.2) ms))))) with
  | none => none
  | some p => match postA as (spPost p.2) S (keepC S (spMods p.2) M) with
    | none => none
    | some (S1, M1) => match spRes p.2 with
      | none => some (S1, L, K, M1)
      | some t => if Nat.beq t.1 0 then some (S1 ++ [(0, t.2.1, t.2.2, S1.length, 0, impA S as p.2)], L, S1.length :: K, if Nat.ble 2 (spBt p.2) then (6, S1.length, spBt p.2 - 2, 0) :: M1 else M1) else if Nat.beq t.1 3 then some (pcJ S1 L K M1) else none
def caA (TY : List (List SEG)) (ms : List (Nat × Nat × Nat)) (d : Nat) (env : List (Nat × SP)) (i : Instr) (ex : List Nat) (a : AS) : Option AS := match i with
  | .invokevirtual _ => match ex with
    | mj :: n :: ci :: _ => match a.2.2.1.drop n with
      | r :: K => if tag a.1 r 1 && (Nat.ble n a.2.2.1.length && Nat.ble (catA a.1 K) 8) then match KND[kn a.1 r]? with
        | some (0, c, _) => if Nat.beq c ci then behA TY ms d env mj (r :: (a.2.2.1.take n).reverse) a.1 a.2.1 K a.2.2.2 else none
        | _ => none
        else none
      | [] => none
    | _ => none
  | .invokestatic _ => match ex with
    | mj :: n :: _ => if Nat.ble n a.2.2.1.length && Nat.ble (catA a.1 (a.2.2.1.drop n)) 8 then behA TY ms d env mj (a.2.2.1.take n).reverse a.1 a.2.1 (a.2.2.1.drop n) a.2.2.2 else none
    | _ => none
  | _ => none
/-- Math.max, Math.min -/
def mmA (d : Nat) (i : Instr) (ex : List Nat) (a : AS) : Option AS := match i with
  | .invokestatic _ => match ex, a.2.2.1 with
    | mj :: n :: _, y :: x :: K => if Nat.beq n 2 && (Nat.blt 0 d && (tag a.1 x 0 && (tag a.1 y 0 && Nat.ble (catA a.1 K) 8))) then
        (if Nat.beq mj 1000 then some (a.1 ++ [(0, imax (ivl a.1 x).1 (ivl a.1 y).1, imax (ivl a.1 x).2 (ivl a.1 y).2, a.1.length, 0, [])], a.2.1, a.1.length :: K, a.2.2.2)
        else if Nat.beq mj 1001 then some (a.1 ++ [(0, imin (ivl a.1 x).1 (ivl a.1 y).1, imin (ivl a.1 x).2 (ivl a.1 y).2, a.1.length, 0, [])], a.2.1, a.1.length :: K, a.2.2.2) else none)
      else none
    | _, _ => none
  | _ => none
/-- a return: the answer is as promised -/
def rtA (TY : List (List SEG)) (ret : Option FieldType) (sp : SP) (argS : List (Nat × Nat)) (i : Instr) (a : AS) : Bool :=
  (spPost sp).all (fun p => match argS.lookup p.1 with
    | some r => fdA TY a.1 a.2.2.2 [r] (0, p.2)
    | none => false) && ((!(Nat.beq (spBt sp) 1) && (!(Nat.ble 2 (spBt sp)) || (match a.2.2.1 with
    | [s] => tag a.1 s 0 && (match phi a.1 a.2.2.2 s with
      | some c => Nat.beq c (spBt sp - 2)
      | none => false)
    | _ => false))) && match i with
  | .ireturn => match a.2.2.1, spRes sp with
    | [s], some t => Nat.beq t.1 0 && (arA a.1 s t && ((decide (ret = some .int) || (decide (ret = some .boolean) && decide (0 ≤ t.2.1 ∧ t.2.2 ≤ 1))) && (decide ((ivl a.1 s).1 = 0 ∧ (ivl a.1 s).2 = 0) || (spImp sp).all (fun t => match argS.lookup t.1 with
        | some r => tag a.1 r 0 && (decide (t.2.1 ≤ (ivl a.1 r).1 ∧ (ivl a.1 r).2 ≤ t.2.2) || (gS a.1 s).2.2.2.2.2.any (fun u => Nat.beq u.1 r && decide (t.2.1 ≤ u.2.1 ∧ u.2.2 ≤ t.2.2)))
        | none => false))))
    | _, _ => false
  | .lreturn => match a.2.2.1, spRes sp with
    | [s], some t => Nat.beq t.1 3 && (tag a.1 s 3 && decide (ret = some .long))
    | _, _ => false
  | .return_ => match a.2.2.1, spRes sp with
    | [], none => decide (ret = none)
    | _, _ => false
  | _ => false)
