/-! partial runs: rules -/
/-- every run from here of fewer than n steps, if it ends, leaves this -/
def Pl (P : List MI) (n d mi pc : Nat) (ls : Lcl) (st : List Value) (σ : Sg) (Q : Option Value → Sg → Prop) : Prop := ∀ m, m < n → ∀ v σ', run P m d mi pc ls st σ = some (v, σ') → Q v σ'
/-- a call of fewer than n steps that ended -/
def RCx (P : List MI) (n mj : Nat) (av : List Value) (σ : Sg) (v : Option Value) (σ' : Sg) : Prop := ∃ m d, m < n ∧ run P m d mj 0 (lv_args 0 av) [] σ = some (v, σ')
theorem Pl.zero {P : List MI} {d mi pc : Nat} {ls : Lcl} {st : List Value} {σ : Sg} {Q : Option Value → Sg → Prop} : Pl P 0 d mi pc ls st σ Q := fun _ h => absurd h (Nat.not_lt_zero _)
theorem RCx.of {P : List MI} {n mj : Nat} {av : List Value} {σ σ' : Sg} {v : Option Value} {Q : Option Value → Sg → Prop} (h : RCx P n mj av σ v σ') (hc : ∀ d, Pl P n d mj 0 (lv_args 0 av) [] σ Q) : Q v σ' := by
  obtain ⟨m, d, hm, hr⟩ := h
  exact hc d m hm v σ' hr
theorem RCx.ok {P : List MI} {n d mj : Nat} {av : List Value} {σ σ' : Sg} {v : Option Value} {Q : Option Value → Sg → Prop} (h : RCx P n mj av σ v σ') (hc : Ok P d mj av σ Q) : Q v σ' := by
  obtain ⟨m, d', hm, hr⟩ := h
  obtain ⟨M, h1, h2, n2, v2, σ2, h3, h4⟩ := hc
  have e1 := run_more m (m + n2) d' (max d' d) _ _ _ _ _ _ (by omega) (by omega) hr
  have e2 := run_more n2 (m + n2) d (max d' d) _ _ _ _ _ _ (by omega) (by omega) h3
  rw [e1] at e2
  cases e2
  exact h4
theorem Ok.part {P : List MI} {d mi : Nat} {av : List Value} {σ : Sg} {Q Q' : Option Value → Sg → Prop} (h : Ok P d mi av σ Q) (hp : ∀ n d, Pl P n d mi 0 (lv_args 0 av) [] σ Q') : Ok P d mi av σ (fun v σ' => Q v σ' ∧ Q' v σ') := by
  obtain ⟨M, h1, h2, n, v, σ1, h3, h4⟩ := h
  exact ⟨M, h1, h2, n, v, σ1, h3, h4, hp (n + 1) d n (Nat.lt_succ_self n) v σ1 h3⟩
theorem run_ret {P : List MI} : ∀ (n d mi pc : Nat) (ls : Lcl) (st : List Value) (σ : Sg) (v : Option Value) (σ' : Sg) (M : MI), P[mi]? = some M → run P n d mi pc ls st σ = some (v, σ') → retOK M.2.2.2.1 v = true := by
  intro n
  induction n with
  | zero => intro d mi pc ls st σ v σ' M _ h; cases h
  | succ n ih =>
    intro d mi pc ls st σ v σ' M hM h
    unfold run at h
    simp only [hM] at h
    cases hen : M.2.2.2.2.lookup pc with
    | none => rw [hen] at h; cases h
    | some en =>
      simp only [hen] at h
      cases hs : stp M.2.2.1 M.2.2.2.1 pc en ls st σ with
      | none => rw [hs] at h; cases h
      | some r =>
        rw [hs] at h
        rcases r with r | x | r
        · exact ih _ _ _ _ _ _ _ _ _ hM h
        · simp only at h
          cases h
          unfold stp at hs
          split at hs
          · cases hs
          · split at hs
            · cases hs
            · split at hs
              · split at hs <;> cases hs
              · split at hs
                · cases hs
                · split at hs
                  · rename_i hp
                    cases hs
                    unfold rtI at hp
                    split at hp
                    · split at hp
                      · split at hp
                        · rename_i hr; cases hp; exact hr
                        · cases hp
                      · cases hp
                    · split at hp
                      · split at hp
                        · rename_i hr; cases hp; exact hr
                        · cases hp
                      · cases hp
                    · split at hp
                      · split at hp
                        · rename_i hr; cases hp; exact hr
                        · cases hp
                      · cases hp
                    · cases hp
                  · cases hs
        · simp only at h
          cases d with
          | zero => cases h
          | succ d1 =>
            simp only at h
            cases hv : mm r.1 r.2.1 with
            | some w =>
              simp only [hv] at h
              exact ih _ _ _ _ _ _ _ _ _ hM h
            | none =>
              simp only [hv] at h
              cases hMj : P[r.1]? with
              | none => rw [hMj] at h; cases h
              | some Mj =>
                simp only [hMj] at h
                split at h
                · cases hc : run P n d1 r.1 0 (lv_args 0 r.2.1) [] σ with
                  | none => rw [hc] at h; cases h
                  | some y =>
                    rw [hc] at h
                    exact ih _ _ _ _ _ _ _ _ _ hM h
                · cases h
theorem ret_I {v : Option Value} (h : retOK (some .int) v = true) : ∃ w : Int32, v = some (.int w) := by
  unfold retOK at h
  split at h
  · exact ⟨_, rfl⟩
  · rename_i e; cases e
  · rename_i e; cases e
  · rename_i e; cases e
  · cases h
theorem ret_Z {v : Option Value} (h : retOK (some .boolean) v = true) : ∃ w : Int32, v = some (.int w) ∧ (w = 0 ∨ w = 1) := by
  unfold retOK at h
  split at h
  · rename_i e; cases e
  · rename_i x e; exact ⟨x, rfl, of_decide_eq_true h⟩
  · rename_i e; cases e
  · rename_i e; cases e
  · cases h
theorem ret_J {v : Option Value} (h : retOK (some .long) v = true) : ∃ w : Int64, v = some (.long w) := by
  unfold retOK at h
  split at h
  · rename_i e; cases e
  · rename_i e; cases e
  · exact ⟨_, rfl⟩
  · rename_i e; cases e
  · cases h
theorem ret_V {v : Option Value} (h : retOK none v = true) : v = none := by
  unfold retOK at h
  split at h
  · rename_i e; cases e
  · rename_i e; cases e
  · rename_i e; cases e
  · rfl
  · cases h
section Pls
variable {P : List MI} {n d mi pc : Nat} {ls : Lcl} {st : List Value} {σ : Sg} {Q : Option Value → Sg → Prop} {M : MI} {en : EN}
theorem Pl.weak (h : Pl P (n + 1) d mi pc ls st σ Q) : Pl P n d mi pc ls st σ Q := fun m hm => h m (by omega)
theorem Pl.less {k : Nat} (h : Pl P n d mi pc ls st σ Q) (hk : k ≤ n) : Pl P k d mi pc ls st σ Q := fun m hm => h m (by omega)
theorem Pl.mono {Q' : Option Value → Sg → Prop} (h : Pl P n d mi pc ls st σ Q) (hq : ∀ v σ', Q v σ' → Q' v σ') : Pl P n d mi pc ls st σ Q' := fun m hm v σ' hr => hq _ _ (h m hm v σ' hr)
/-- one step, whatever it is -/
theorem Pl.any (hM : P[mi]? = some M) (hen : M.2.2.2.2.lookup pc = some en) (h : ∀ r, stp M.2.2.1 M.2.2.2.1 pc en ls st σ = some r → match r with
  | .inl r => Pl P n d mi r.1 r.2.1 r.2.2.1 r.2.2.2 Q
  | .inr (.inl v) => Q v σ
  | .inr (.inr _) => False) : Pl P (n + 1) d mi pc ls st σ Q := by
  intro m hm v σ' hr
  cases m with
  | zero => cases hr
  | succ m =>
    unfold run at hr
    simp only [hM, hen] at hr
    cases hs : stp M.2.2.1 M.2.2.2.1 pc en ls st σ with
    | none => rw [hs] at hr; cases hr
    | some r =>
      rw [hs] at hr
      have h2 := h r hs
      rcases r with r | x | r
      · exact h2 m (by omega) v σ' hr
      · simp only at hr
        cases hr
        exact h2
      · exact h2.elim
theorem Pl.step {r : Nat × Lcl × List Value × Sg} (hM : P[mi]? = some M) (hen : M.2.2.2.2.lookup pc = some en) (hs : stp M.2.2.1 M.2.2.2.1 pc en ls st σ = some (.inl r)) (h : Pl P n d mi r.1 r.2.1 r.2.2.1 r.2.2.2 Q) : Pl P (n + 1) d mi pc ls st σ Q := by
  refine Pl.any hM hen (fun r' hr => ?_)
  rw [hs] at hr
  cases hr
  exact h
theorem Pl.seg (hM : P[mi]? = some M) : ∀ (k : Nat) {pc : Nat} {ls : Lcl} {st : List Value} {σ : Sg} {pc' : Nat} {ls' : Lcl} {st' : List Value} {σ' : Sg}, stepN k M pc ls st σ = some (pc', ls', st', σ') → Pl P n d mi pc' ls' st' σ' Q → Pl P n d mi pc ls st σ Q := by
  intro k
  induction k with
  | zero => intro pc ls st σ pc' ls' st' σ' h hr; cases h; exact hr
  | succ k ih =>
    intro pc ls st σ pc' ls' st' σ' h hr
    unfold stepN at h
    split at h
    · cases h
    · rename_i en hen
      split at h
      · rename_i r hs
        exact (Pl.step hM hen hs (ih h hr)).weak
      · cases h
theorem Pl.sg1 (hM : P[mi]? = some M) (k : Nat) {pc' : Nat} {ls' : Lcl} {st' : List Value} {σ' : Sg} (h : stepN (k + 1) M pc ls st σ = some (pc', ls', st', σ')) (hr : Pl P n d mi pc' ls' st' σ' Q) : Pl P (n + 1) d mi pc ls st σ Q := by
  unfold stepN at h
  split at h
  · cases h
  · rename_i en hen
    split at h
    · rename_i r hs
      exact Pl.step hM hen hs (Pl.seg hM k h hr)
    · cases h
theorem Pl.br {c : Prop} [Decidable c] {a b : Nat} (hM : P[mi]? = some M) (k : Nat) {ls' : Lcl} {st' : List Value} {σ' : Sg} (h : stepN k M pc ls st σ = some (if decide c then a else b, ls', st', σ')) (h1 : c → Pl P n d mi a ls' st' σ' Q) (h2 : ¬ c → Pl P n d mi b ls' st' σ' Q) : Pl P n d mi pc ls st σ Q := by
  refine Pl.seg hM k h ?_
  by_cases hc : c
  · rw [if_pos (decide_eq_true hc)]; exact h1 hc
  · rw [if_neg (by rw [decide_eq_true_eq]; exact hc)]; exact h2 hc
theorem Pl.brN {c : Prop} [Decidable c] {a b : Nat} (hM : P[mi]? = some M) (k : Nat) {ls' : Lcl} {st' : List Value} {σ' : Sg} (h : stepN k M pc ls st σ = some (if decide (¬ c) then a else b, ls', st', σ')) (h1 : ¬ c → Pl P n d mi a ls' st' σ' Q) (h2 : c → Pl P n d mi b ls' st' σ' Q) : Pl P n d mi pc ls st σ Q :=
  Pl.br hM k h h1 (fun hc => h2 (Decidable.not_not.mp hc))
theorem Pl.br1 {c : Prop} [Decidable c] {a b : Nat} (hM : P[mi]? = some M) (k : Nat) {ls' : Lcl} {st' : List Value} {σ' : Sg} (h : stepN (k + 1) M pc ls st σ = some (if decide c then a else b, ls', st', σ')) (h1 : c → Pl P n d mi a ls' st' σ' Q) (h2 : ¬ c → Pl P n d mi b ls' st' σ' Q) : Pl P (n + 1) d mi pc ls st σ Q := by
  refine Pl.sg1 hM k h ?_
  by_cases hc : c
  · rw [if_pos (decide_eq_true hc)]; exact h1 hc
  · rw [if_neg (by rw [decide_eq_true_eq]; exact hc)]; exact h2 hc
theorem Pl.brN1 {c : Prop} [Decidable c] {a b : Nat} (hM : P[mi]? = some M) (k : Nat) {ls' : Lcl} {st' : List Value} {σ' : Sg} (h : stepN (k + 1) M pc ls st σ = some (if decide (¬ c) then a else b, ls', st', σ')) (h1 : ¬ c → Pl P n d mi a ls' st' σ' Q) (h2 : c → Pl P n d mi b ls' st' σ' Q) : Pl P (n + 1) d mi pc ls st σ Q :=
  Pl.br1 hM k h h1 (fun hc => h2 (Decidable.not_not.mp hc))
theorem Pl.ret {v : Option Value} (hM : P[mi]? = some M) (hen : M.2.2.2.2.lookup pc = some en) (hs : stp M.2.2.1 M.2.2.2.1 pc en ls st σ = some (.inr (.inl v))) (h : Q v σ) : Pl P (n + 1) d mi pc ls st σ Q := by
  refine Pl.any hM hen (fun r' hr => ?_)
  rw [hs] at hr
  cases hr
  exact h
theorem Pl.retZ {x : Int32} {ex : List Nat} (hM : P[mi]? = some M) (hen : M.2.2.2.2.lookup pc = some (.ireturn, 1, ex)) (hr : M.2.2.2.1 = some .boolean) (h : (x = 0 ∨ x = 1) → Q (some (.int x)) σ) : Pl P (n + 1) d mi pc ls [.int x] σ Q := by
  refine Pl.any hM hen (fun r' h' => ?_)
  by_cases hx : x = 0 ∨ x = 1
  · have : rtI .ireturn (some .boolean) [.int x] = some (some (.int x)) := by
      simp only [rtI, retOK, hx, decide_true, if_true]
    simp only [stp, pureI, hpI, brI, caI, hr, this] at h'
    cases h'
    exact h hx
  · have : rtI .ireturn (some .boolean) [.int x] = none := by
      simp only [rtI, retOK, hx, decide_false, Bool.false_eq_true, if_false]
    simp only [stp, pureI, hpI, brI, caI, hr, this] at h'
    cases h'
theorem Pl.iald {i : Int32} {q k : Nat} {fs : List (Nat × Nat)} {ex : List Nat} {r : List Value} (hM : P[mi]? = some M) (hen : M.2.2.2.2.lookup pc = some (.iaload, 1, ex)) (hk : knd q = some (1, k, fs)) (h : inR i k = true → Pl P n d mi (pc + 1) ls (.int (σ.1 q i.toNatClampNeg) :: r) σ Q) : Pl P (n + 1) d mi pc ls (.int i :: .ref q :: r) σ Q := by
  refine Pl.any hM hen (fun r' h' => ?_)
  by_cases hi : inR i k = true
  · have : hpI .iaload ex (.int i :: .ref q :: r) σ = some (.int (σ.1 q i.toNatClampNeg) :: r, σ) := by
      simp only [hpI, ldA, hk, hi, and_self, if_true]
    simp only [stp, pureI, this] at h'
    cases h'
    exact h hi
  · have : hpI .iaload ex (.int i :: .ref q :: r) σ = none := by
      simp only [hpI, ldA, hk, hi, and_false, Bool.false_eq_true, if_false]
    simp only [stp, pureI, this, brI, caI, rtI] at h'
    cases h'
theorem Pl.bald2 {i : Int32} {q k : Nat} {fs : List (Nat × Nat)} {ex : List Nat} {r : List Value} (hM : P[mi]? = some M) (hen : M.2.2.2.2.lookup pc = some (.baload, 1, ex)) (hk : knd q = some (2, k, fs)) (h : inR i k = true → Pl P n d mi (pc + 1) ls (.int (σ.1 q i.toNatClampNeg) :: r) σ Q) : Pl P (n + 1) d mi pc ls (.int i :: .ref q :: r) σ Q := by
  refine Pl.any hM hen (fun r' h' => ?_)
  by_cases hi : inR i k = true
  · have : hpI .baload ex (.int i :: .ref q :: r) σ = some (.int (σ.1 q i.toNatClampNeg) :: r, σ) := by
      simp only [hpI, ldA, hk, hi, and_self, if_true, Option.or]
    simp only [stp, pureI, this] at h'
    cases h'
    exact h hi
  · have : hpI .baload ex (.int i :: .ref q :: r) σ = none := by
      simp only [hpI, ldA, hk, hi, and_false, Bool.false_eq_true, if_false, Option.or, Nat.reduceEqDiff]
    simp only [stp, pureI, this, brI, caI, rtI] at h'
    cases h'
theorem Pl.bald3 {i : Int32} {q k : Nat} {fs : List (Nat × Nat)} {ex : List Nat} {r : List Value} (hM : P[mi]? = some M) (hen : M.2.2.2.2.lookup pc = some (.baload, 1, ex)) (hk : knd q = some (3, k, fs)) (h : inR i k = true → Pl P n d mi (pc + 1) ls (.int (σ.1 q i.toNatClampNeg) :: r) σ Q) : Pl P (n + 1) d mi pc ls (.int i :: .ref q :: r) σ Q := by
  refine Pl.any hM hen (fun r' h' => ?_)
  by_cases hi : inR i k = true
  · have : hpI .baload ex (.int i :: .ref q :: r) σ = some (.int (σ.1 q i.toNatClampNeg) :: r, σ) := by
      simp only [hpI, ldA, hk, hi, and_true, Option.or, if_true]
      rfl
    simp only [stp, pureI, this] at h'
    cases h'
    exact h hi
  · have : hpI .baload ex (.int i :: .ref q :: r) σ = none := by
      simp only [hpI, ldA, hk, hi, and_false, Bool.false_eq_true, if_false, Option.or]
    simp only [stp, pureI, this, brI, caI, rtI] at h'
    cases h'
theorem Pl.lald {i : Int32} {q k : Nat} {fs : List (Nat × Nat)} {ex : List Nat} {r : List Value} (hM : P[mi]? = some M) (hen : M.2.2.2.2.lookup pc = some (.laload, 1, ex)) (hk : knd q = some (4, k, fs)) (h : inR i k = true → Pl P n d mi (pc + 1) ls (.long (σ.2 q i.toNatClampNeg) :: r) σ Q) : Pl P (n + 1) d mi pc ls (.int i :: .ref q :: r) σ Q := by
  refine Pl.any hM hen (fun r' h' => ?_)
  by_cases hi : inR i k = true
  · have : hpI .laload ex (.int i :: .ref q :: r) σ = some (.long (σ.2 q i.toNatClampNeg) :: r, σ) := by
      simp only [hpI, ldA, hk, hi, and_self, if_true]
    simp only [stp, pureI, this] at h'
    cases h'
    exact h hi
  · have : hpI .laload ex (.int i :: .ref q :: r) σ = none := by
      simp only [hpI, ldA, hk, hi, and_false, Bool.false_eq_true, if_false]
    simp only [stp, pureI, this, brI, caI, rtI] at h'
    cases h'
theorem Pl.iast {i x : Int32} {q k : Nat} {fs : List (Nat × Nat)} {ex : List Nat} {r : List Value} (hM : P[mi]? = some M) (hen : M.2.2.2.2.lookup pc = some (.iastore, 1, ex)) (hk : knd q = some (1, k, fs)) (h : inR i k = true → Pl P n d mi (pc + 1) ls r (s1 σ q i.toNatClampNeg x) Q) : Pl P (n + 1) d mi pc ls (.int x :: .int i :: .ref q :: r) σ Q := by
  refine Pl.any hM hen (fun r' h' => ?_)
  by_cases hi : inR i k = true
  · have : hpI .iastore ex (.int x :: .int i :: .ref q :: r) σ = some (r, s1 σ q i.toNatClampNeg x) := by
      simp only [hpI, stA, hk, hi, and_self, if_true]
    simp only [stp, pureI, this] at h'
    cases h'
    exact h hi
  · have : hpI .iastore ex (.int x :: .int i :: .ref q :: r) σ = none := by
      simp only [hpI, stA, hk, hi, and_false, Bool.false_eq_true, if_false]
    simp only [stp, pureI, this, brI, caI, rtI] at h'
    cases h'
theorem Pl.bast2 {i x : Int32} {q k : Nat} {fs : List (Nat × Nat)} {ex : List Nat} {r : List Value} (hM : P[mi]? = some M) (hen : M.2.2.2.2.lookup pc = some (.bastore, 1, ex)) (hk : knd q = some (2, k, fs)) (h : inR i k = true → Pl P n d mi (pc + 1) ls r (s1 σ q i.toNatClampNeg (vp_nar .byte x)) Q) : Pl P (n + 1) d mi pc ls (.int x :: .int i :: .ref q :: r) σ Q := by
  refine Pl.any hM hen (fun r' h' => ?_)
  by_cases hi : inR i k = true
  · have : hpI .bastore ex (.int x :: .int i :: .ref q :: r) σ = some (r, s1 σ q i.toNatClampNeg (vp_nar .byte x)) := by
      simp only [hpI, stA, hk, hi, and_self, if_true, Option.or]
    simp only [stp, pureI, this] at h'
    cases h'
    exact h hi
  · have : hpI .bastore ex (.int x :: .int i :: .ref q :: r) σ = none := by
      simp only [hpI, stA, hk, hi, and_false, Bool.false_eq_true, if_false, Option.or]
    simp only [stp, pureI, this, brI, caI, rtI] at h'
    cases h'
theorem Pl.bast3 {i x : Int32} {q k : Nat} {fs : List (Nat × Nat)} {ex : List Nat} {r : List Value} (hM : P[mi]? = some M) (hen : M.2.2.2.2.lookup pc = some (.bastore, 1, ex)) (hk : knd q = some (3, k, fs)) (h : inR i k = true → Pl P n d mi (pc + 1) ls r (s1 σ q i.toNatClampNeg (vp_nar .boolean x)) Q) : Pl P (n + 1) d mi pc ls (.int x :: .int i :: .ref q :: r) σ Q := by
  refine Pl.any hM hen (fun r' h' => ?_)
  by_cases hi : inR i k = true
  · have : hpI .bastore ex (.int x :: .int i :: .ref q :: r) σ = some (r, s1 σ q i.toNatClampNeg (vp_nar .boolean x)) := by
      simp only [hpI, stA, hk, hi, and_true, Option.or, if_true]
      rfl
    simp only [stp, pureI, this] at h'
    cases h'
    exact h hi
  · have : hpI .bastore ex (.int x :: .int i :: .ref q :: r) σ = none := by
      simp only [hpI, stA, hk, hi, and_false, Bool.false_eq_true, if_false, Option.or]
    simp only [stp, pureI, this, brI, caI, rtI] at h'
    cases h'
theorem Pl.last {i : Int32} {x : Int64} {q k : Nat} {fs : List (Nat × Nat)} {ex : List Nat} {r : List Value} (hM : P[mi]? = some M) (hen : M.2.2.2.2.lookup pc = some (.lastore, 1, ex)) (hk : knd q = some (4, k, fs)) (h : inR i k = true → Pl P n d mi (pc + 1) ls r (s2 σ q i.toNatClampNeg x) Q) : Pl P (n + 1) d mi pc ls (.long x :: .int i :: .ref q :: r) σ Q := by
  refine Pl.any hM hen (fun r' h' => ?_)
  by_cases hi : inR i k = true
  · have : hpI .lastore ex (.long x :: .int i :: .ref q :: r) σ = some (r, s2 σ q i.toNatClampNeg x) := by
      simp only [hpI, hk, hi, if_true]
    simp only [stp, pureI, this] at h'
    cases h'
    exact h hi
  · have : hpI .lastore ex (.long x :: .int i :: .ref q :: r) σ = none := by
      simp only [hpI, hk, hi, Bool.false_eq_true, if_false]
    simp only [stp, pureI, this, brI, caI, rtI] at h'
    cases h'
theorem Pl.dv {x y : Int32} {ex : List Nat} {r : List Value} (hM : P[mi]? = some M) (hen : M.2.2.2.2.lookup pc = some (.idiv, 1, ex)) (h : ¬ y = 0 → Pl P n d mi (pc + 1) ls (.int (x / y) :: r) σ Q) : Pl P (n + 1) d mi pc ls (.int y :: .int x :: r) σ Q := by
  refine Pl.any hM hen (fun r' h' => ?_)
  by_cases hy : y = 0
  · simp only [stp, pureI, bin0, hy, if_true, hpI, brI, caI, rtI] at h'
    cases h'
  · simp only [stp, pureI, bin0, hy, if_false] at h'
    cases h'
    exact h hy
theorem Pl.rm {x y : Int32} {ex : List Nat} {r : List Value} (hM : P[mi]? = some M) (hen : M.2.2.2.2.lookup pc = some (.irem, 1, ex)) (h : ¬ y = 0 → Pl P n d mi (pc + 1) ls (.int (x - x / y * y) :: r) σ Q) : Pl P (n + 1) d mi pc ls (.int y :: .int x :: r) σ Q := by
  refine Pl.any hM hen (fun r' h' => ?_)
  by_cases hy : y = 0
  · simp only [stp, pureI, bin0, hy, if_true, hpI, brI, caI, rtI] at h'
    cases h'
  · simp only [stp, pureI, bin0, hy, if_false] at h'
    cases h'
    exact h hy
theorem Pl.putZ {x : Int32} {q c k ix z : Nat} {fs : List (Nat × Nat)} {ex r0 : List Nat} {r : List Value} (hM : P[mi]? = some M) (hen : M.2.2.2.2.lookup pc = some (.putfield ix, 3, ex)) (he : ex = c :: k :: r0) (hk : knd q = some (0, c, fs)) (hf : fs[k]? = some (1, z)) (h : (x = 0 ∨ x = 1) → Pl P n d mi (pc + 3) ls r (s1 σ q k x) Q) : Pl P (n + 1) d mi pc ls (.int x :: .ref q :: r) σ Q := by
  refine Pl.any hM hen (fun r' h' => ?_)
  subst he
  by_cases hx : x = 0 ∨ x = 1
  · have : hpI (.putfield ix) (c :: k :: r0) (.int x :: .ref q :: r) σ = some (r, s1 σ q k x) := by
      simp only [hpI, putF, hk, hf, if_true, Option.bind_some, putV, hx, Option.map_some]
    simp only [stp, pureI, this] at h'
    cases h'
    exact h hx
  · have : hpI (.putfield ix) (c :: k :: r0) (.int x :: .ref q :: r) σ = none := by
      simp only [hpI, putF, hk, hf, if_true, Option.bind_some, putV, hx, if_false, Option.map_none]
    simp only [stp, pureI, this, brI, caI, rtI] at h'
    cases h'
theorem Pl.tsw {x : Int32} {dd lo hi : Int} {offs : Array Int} {ex : List Nat} {r : List Value} {ln : Nat} (hM : P[mi]? = some M) (hen : M.2.2.2.2.lookup pc = some (.tableswitch dd lo hi offs, ln, ex)) (h1 : (x.toInt < lo ∨ hi < x.toInt) → Pl P n d mi ((pc : Int) + dd).toNat ls r σ Q) (h2 : ∀ (j : Nat) (o : Int), x.toInt = lo + (j : Int) → offs[j]? = some o → Pl P n d mi ((pc : Int) + o).toNat ls r σ Q) : Pl P (n + 1) d mi pc ls (.int x :: r) σ Q := by
  refine Pl.any hM hen (fun r' h' => ?_)
  by_cases hx : x.toInt < lo ∨ hi < x.toInt
  · simp only [stp, pureI, hpI, brI, hx, if_true, caI, rtI] at h'
    split at h'
    · cases h'; exact h1 hx
    · cases h'
  · cases ho : offs[(x.toInt - lo).toNat]? with
    | none =>
      simp only [stp, pureI, hpI, brI, hx, if_false, ho, Option.map_none, caI, rtI] at h'
      cases h'
    | some o =>
      simp only [stp, pureI, hpI, brI, hx, if_false, ho, Option.map_some, caI, rtI] at h'
      split at h'
      · cases h'
        exact h2 _ o (by omega) ho
      · cases h'
theorem Pl.mm {mj : Nat} {av rest : List Value} {v : Value} (hM : P[mi]? = some M) (hen : M.2.2.2.2.lookup pc = some en) (hs : stp M.2.2.1 M.2.2.2.1 pc en ls st σ = some (.inr (.inr (mj, av, rest)))) (hv : mm mj av = some v) (h : Pl P n d mi (pc + 3) ls (v :: rest) σ Q) : Pl P (n + 1) d mi pc ls st σ Q := by
  intro m hm w σ' hr
  cases m with
  | zero => cases hr
  | succ m =>
    unfold run at hr
    simp only [hM, hen, hs] at hr
    cases d with
    | zero => cases hr
    | succ d1 =>
      simp only [hv] at hr
      exact h m (by omega) w σ' hr
theorem Pl.call {mj : Nat} {av rest : List Value} (hM : P[mi]? = some M) (hen : M.2.2.2.2.lookup pc = some en) (hs : stp M.2.2.1 M.2.2.2.1 pc en ls st σ = some (.inr (.inr (mj, av, rest)))) (hj : mj < 1000) (h : ∀ v σ1, RCx P n mj av σ v σ1 → Pl P n d mi (pc + 3) ls (v.toList ++ rest) σ1 Q) : Pl P (n + 1) d mi pc ls st σ Q := by
  intro m hm w σ' hr
  cases m with
  | zero => cases hr
  | succ m =>
    unfold run at hr
    simp only [hM, hen, hs, mm_none hj] at hr
    cases d with
    | zero => cases hr
    | succ d1 =>
      simp only at hr
      cases hMj : P[mj]? with
      | none => rw [hMj] at hr; cases hr
      | some Mj =>
        simp only [hMj] at hr
        split at hr
        · cases hc : run P m d1 mj 0 (lv_args 0 av) [] σ with
          | none => rw [hc] at hr; cases hr
          | some y =>
            rw [hc] at hr
            obtain ⟨v, σ1⟩ := y
            exact h v σ1 ⟨m, d1, by omega, hc⟩ m (by omega) w σ' hr
        · cases hr
theorem RCx.ret {mj : Nat} {av : List Value} {v : Option Value} {σ1 : Sg} {Mj : MI} (h : RCx P n mj av σ v σ1) (hM : P[mj]? = some Mj) : retOK Mj.2.2.2.1 v = true := by
  obtain ⟨m, d, -, hr⟩ := h
  exact run_ret _ _ _ _ _ _ _ _ _ _ hM hr
theorem Pl.cI {mj : Nat} {av rest : List Value} {Mj : MI} (hM : P[mi]? = some M) (hen : M.2.2.2.2.lookup pc = some en) (hs : stp M.2.2.1 M.2.2.2.1 pc en ls st σ = some (.inr (.inr (mj, av, rest)))) (hj : mj < 1000) (hMj : P[mj]? = some Mj) (hr : Mj.2.2.2.1 = some .int) (h : ∀ w σ1, RCx P n mj av σ (some (.int w)) σ1 → Pl P n d mi (pc + 3) ls (.int w :: rest) σ1 Q) : Pl P (n + 1) d mi pc ls st σ Q := by
  refine Pl.call hM hen hs hj (fun v σ1 hc => ?_)
  have hv := hc.ret hMj
  rw [hr] at hv
  obtain ⟨w, rfl⟩ := ret_I hv
  exact h w σ1 hc
theorem Pl.cZ {mj : Nat} {av rest : List Value} {Mj : MI} (hM : P[mi]? = some M) (hen : M.2.2.2.2.lookup pc = some en) (hs : stp M.2.2.1 M.2.2.2.1 pc en ls st σ = some (.inr (.inr (mj, av, rest)))) (hj : mj < 1000) (hMj : P[mj]? = some Mj) (hr : Mj.2.2.2.1 = some .boolean) (h : ∀ w σ1, RCx P n mj av σ (some (.int w)) σ1 → (w = 0 ∨ w = 1) → Pl P n d mi (pc + 3) ls (.int w :: rest) σ1 Q) : Pl P (n + 1) d mi pc ls st σ Q := by
  refine Pl.call hM hen hs hj (fun v σ1 hc => ?_)
  have hv := hc.ret hMj
  rw [hr] at hv
  obtain ⟨w, rfl, hw⟩ := ret_Z hv
  exact h w σ1 hc hw
theorem Pl.cJ {mj : Nat} {av rest : List Value} {Mj : MI} (hM : P[mi]? = some M) (hen : M.2.2.2.2.lookup pc = some en) (hs : stp M.2.2.1 M.2.2.2.1 pc en ls st σ = some (.inr (.inr (mj, av, rest)))) (hj : mj < 1000) (hMj : P[mj]? = some Mj) (hr : Mj.2.2.2.1 = some .long) (h : ∀ w σ1, RCx P n mj av σ (some (.long w)) σ1 → Pl P n d mi (pc + 3) ls (.long w :: rest) σ1 Q) : Pl P (n + 1) d mi pc ls st σ Q := by
  refine Pl.call hM hen hs hj (fun v σ1 hc => ?_)
  have hv := hc.ret hMj
  rw [hr] at hv
  obtain ⟨w, rfl⟩ := ret_J hv
  exact h w σ1 hc
theorem Pl.cV {mj : Nat} {av rest : List Value} {Mj : MI} (hM : P[mi]? = some M) (hen : M.2.2.2.2.lookup pc = some en) (hs : stp M.2.2.1 M.2.2.2.1 pc en ls st σ = some (.inr (.inr (mj, av, rest)))) (hj : mj < 1000) (hMj : P[mj]? = some Mj) (hr : Mj.2.2.2.1 = none) (h : ∀ σ1, RCx P n mj av σ none σ1 → Pl P n d mi (pc + 3) ls rest σ1 Q) : Pl P (n + 1) d mi pc ls st σ Q := by
  refine Pl.call hM hen hs hj (fun v σ1 hc => ?_)
  have hv := hc.ret hMj
  rw [hr] at hv
  obtain rfl := ret_V hv
  exact h σ1 hc
theorem Pl.live {A : List (Nat × List Nat)} {l' : Lcl} (hM : P[mi]? = some M) (hA : chkLv M A = true) (ha : agr (lvA A pc) ls l') (h : Pl P n d mi pc l' st σ Q) : Pl P n d mi pc ls st σ Q :=
  fun m hm v σ' hr => h m hm v σ' (run_live hM hA _ _ _ _ _ _ _ _ ha hr)
end Pls
theorem inR_lo {i : Int32} {n : Nat} (h : inR i n = true) : 0 ≤ i.toInt ∧ i.toInt < n := by
  unfold inR at h
  simp only [Bool.not_eq_true', Bool.or_eq_false_iff, decide_eq_false_iff_not] at h
  obtain ⟨h1, h2⟩ := h
  rw [Int32.lt_iff_toInt_lt] at h1
  have h3 : ¬ i.toInt < 0 := h1
  have h4 : ¬ (n ≤ i.toInt.toNat) := h2
  omega
