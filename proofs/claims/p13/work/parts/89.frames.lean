/-! what runs leave: longs, a field -/
/-- calls stay among S -/
def clI (S : List Nat) (e : EN) : Bool := match e.1 with
  | .invokevirtual _ => match e.2.2 with
    | mj :: _ => S.contains mj
    | _ => false
  | .invokestatic _ => match e.2.2 with
    | mj :: _ => S.contains mj
    | _ => false
  | _ => true
theorem ca_cl {S : List Nat} {e : EN} {st av rest : List Value} {mj : Nat} (hn : clI S e = true) (h : caI e.1 e.2.2 st = some (mj, av, rest)) : mj ∈ S := by
  obtain ⟨i, ln, ex⟩ := e
  simp only at h
  unfold caI at h
  unfold clI at hn
  split at h
  · split at h
    · split at h
      · split at h
        · split at h
          · cases h; simpa using hn
          · cases h
        · cases h
      · cases h
    · cases h
  · split at h
    · split at h
      · cases h; simpa using hn
      · cases h
    · cases h
  · cases h
/-- a relation that every step of the methods S keeps, their runs keep -/
theorem run_inv {P : List MI} {S : List Nat} {R : Sg → Sg → Prop} {ck : EN → Bool} (r1 : ∀ σ, R σ σ) (r2 : ∀ σ σ1 σ2, R σ σ1 → R σ1 σ2 → R σ σ2) (hck : ∀ (e : EN) (st st' : List Value) (σ σ' : Sg), ck e = true → hpI e.1 e.2.2 st σ = some (st', σ') → R σ σ') (hS : S.all (fun mi => match P[mi]? with
  | some M => M.2.2.2.2.all (fun p => clI S p.2 && ck p.2)
  | none => true) = true) : ∀ (n d mi pc : Nat) (ls : Lcl) (st : List Value) (σ : Sg) (v : Option Value) (σ' : Sg), mi ∈ S → run P n d mi pc ls st σ = some (v, σ') → R σ σ' := by
  intro n
  induction n with
  | zero => intro d mi pc ls st σ v σ' _ h; cases h
  | succ n ih =>
    intro d mi pc ls st σ v σ' hmi h
    unfold run at h
    have hm := List.all_eq_true.mp hS mi hmi
    cases hM : P[mi]? with
    | none => rw [hM] at h; cases h
    | some M =>
      rw [hM] at hm
      simp only [hM] at h
      cases hen : M.2.2.2.2.lookup pc with
      | none => rw [hen] at h; cases h
      | some en =>
        simp only [hen] at h
        have hn2 := List.all_eq_true.mp hm _ (lookup_mem hen)
        simp only [Bool.and_eq_true] at hn2
        obtain ⟨hcl, hcke⟩ := hn2
        cases hs : stp M.2.2.1 M.2.2.2.1 pc en ls st σ with
        | none => rw [hs] at h; cases h
        | some r =>
          rw [hs] at h
          rcases r with r | x | r
          · simp only at h
            have e1 := ih _ _ _ _ _ _ _ _ hmi h
            have e2 : R σ r.2.2.2 := by
              unfold stp at hs
              split at hs
              · cases hs; exact r1 _
              · split at hs
                · rename_i hp
                  cases hs
                  exact hck _ _ _ _ _ hcke hp
                · split at hs
                  · split at hs
                    · cases hs; exact r1 _
                    · cases hs
                  · split at hs
                    · cases hs
                    · split at hs <;> cases hs
            exact r2 _ _ _ e2 e1
          · simp only at h
            cases h; exact r1 _
          · simp only at h
            have hmj : r.1 ∈ S := by
              unfold stp at hs
              split at hs
              · cases hs
              · split at hs
                · cases hs
                · split at hs
                  · split at hs <;> cases hs
                  · split at hs
                    · rename_i hp
                      cases hs
                      exact ca_cl hcl hp
                    · split at hs <;> cases hs
            cases d with
            | zero => cases h
            | succ d1 =>
              simp only at h
              cases hv : mm r.1 r.2.1 with
              | some w =>
                simp only [hv] at h
                exact ih _ _ _ _ _ _ _ _ hmi h
              | none =>
                simp only [hv] at h
                cases hMj : P[r.1]? with
                | none => rw [hMj] at h; cases h
                | some Mj =>
                  simp only [hMj] at h
                  split at h
                  · cases hc : run P n d1 r.1 0 (lv_args 0 r.2.1) [] σ with
                    | none => rw [hc] at h; cases h
                    | some y =>
                      rw [hc] at h
                      obtain ⟨w, σ1⟩ := y
                      exact r2 _ _ _ (ih _ _ _ _ _ _ _ _ hmj hc) (ih _ _ _ _ _ _ _ _ hmi h)
                  · cases h
theorem Ok.inv {P : List MI} {S : List Nat} {R : Sg → Sg → Prop} {ck : EN → Bool} (r1 : ∀ σ, R σ σ) (r2 : ∀ σ σ1 σ2, R σ σ1 → R σ1 σ2 → R σ σ2) (hck : ∀ (e : EN) (st st' : List Value) (σ σ' : Sg), ck e = true → hpI e.1 e.2.2 st σ = some (st', σ') → R σ σ') (hS : S.all (fun mi => match P[mi]? with
  | some M => M.2.2.2.2.all (fun p => clI S p.2 && ck p.2)
  | none => true) = true) {d mi : Nat} {av : List Value} {σ : Sg} {Q : Option Value → Sg → Prop} (hmi : mi ∈ S) (h : Ok P d mi av σ Q) : Ok P d mi av σ (fun v σ' => R σ σ' ∧ Q v σ') := by
  obtain ⟨M, a1, a2, n, v, σ1, a3, a4⟩ := h
  exact ⟨M, a1, a2, n, v, σ1, a3, run_inv r1 r2 hck hS _ _ _ _ _ _ _ _ _ hmi a3, a4⟩
/-- what instructions on cells write -/
theorem hp_wr {e : EN} {st st' : List Value} {σ σ' : Sg} (h : hpI e.1 e.2.2 st σ = some (st', σ')) : σ' = σ ∨ (∃ q c k x fs ix, e.1 = .putfield ix ∧ (∃ r, e.2.2 = c :: k :: r) ∧ knd q = some (0, c, fs) ∧ σ' = s1 σ q k x) ∨ (∃ q t n fs k x, knd q = some (t, n, fs) ∧ 1 ≤ t ∧ σ' = s1 σ q k x) ∨ (∃ q k x, e.1 = .lastore ∧ σ' = s2 σ q k x) := by
  have hld : ∀ {tag : Nat} {f : Nat → Nat → Value} {x : List Value × Sg}, ldA tag f st σ = some x → x.2 = σ := by
    intro tag f x hx
    unfold ldA at hx
    split at hx
    · split at hx
      · split at hx
        · cases hx; rfl
        · cases hx
      · cases hx
    · cases hx
  have hst : ∀ {tag : Nat} {g : Int32 → Int32} {x : List Value × Sg}, 1 ≤ tag → stA tag g st σ = some x → ∃ q t n fs k y, knd q = some (t, n, fs) ∧ 1 ≤ t ∧ x.2 = s1 σ q k y := by
    intro tag g x htag hx
    unfold stA at hx
    split at hx
    · rename_i y i q r
      split at hx
      · rename_i t n fs hk
        split at hx
        · rename_i hc
          cases hx
          exact ⟨q, t, n, fs, _, _, hk, by rw [hc.1]; exact htag, rfl⟩
        · cases hx
      · cases hx
    · cases hx
  obtain ⟨i, ln, ex⟩ := e
  simp only at h ⊢
  unfold hpI at h
  split at h
  · unfold getF at h
    split at h
    · split at h
      · split at h
        · obtain ⟨f, hf, he⟩ := Option.map_eq_some_iff.mp h
          cases he; exact Or.inl rfl
        · cases h
      · cases h
    · cases h
  · rename_i ix
    unfold putF at h
    split at h
    · rename_i v q r ci k r2
      split at h
      · rename_i c fs hk
        split at h
        · rename_i hc
          subst hc
          obtain ⟨f, hf, he⟩ := Option.bind_eq_some_iff.mp h
          obtain ⟨σ1, hp, he2⟩ := Option.map_eq_some_iff.mp he
          cases he2
          refine Or.inr (Or.inl ?_)
          unfold putV at hp
          split at hp
          · cases hp; exact ⟨q, c, k, _, fs, ix, rfl, ⟨r2, rfl⟩, hk, rfl⟩
          · split at hp
            · cases hp; exact ⟨q, c, k, _, fs, ix, rfl, ⟨r2, rfl⟩, hk, rfl⟩
            · cases hp
          · cases hp; exact ⟨q, c, k, _, fs, ix, rfl, ⟨r2, rfl⟩, hk, rfl⟩
          · split at hp
            · cases hp; exact ⟨q, c, k, _, fs, ix, rfl, ⟨r2, rfl⟩, hk, rfl⟩
            · cases hp
          · cases hp
        · cases h
      · cases h
    · cases h
  · exact Or.inl (hld h)
  · rcases Option.or_eq_some_iff.mp h with h | ⟨-, h⟩
    · exact Or.inl (hld h)
    · exact Or.inl (hld h)
  · exact Or.inl (hld h)
  · rcases Option.or_eq_some_iff.mp h with h | ⟨-, h⟩
    · rcases Option.or_eq_some_iff.mp h with h | ⟨-, h⟩
      · exact Or.inl (hld h)
      · exact Or.inl (hld h)
    · exact Or.inl (hld h)
  · exact Or.inr (Or.inr (Or.inl (hst (by omega) h)))
  · rcases Option.or_eq_some_iff.mp h with h | ⟨-, h⟩
    · exact Or.inr (Or.inr (Or.inl (hst (by omega) h)))
    · exact Or.inr (Or.inr (Or.inl (hst (by omega) h)))
  · split at h
    · split at h
      · split at h
        · cases h; exact Or.inr (Or.inr (Or.inr ⟨_, _, _, rfl, rfl⟩))
        · cases h
      · cases h
    · cases h
  · split at h
    · split at h
      · split at h
        · cases h; exact Or.inl rfl
        · cases h
      · cases h
    · cases h
  · cases h
/-- no long is stored -/
def nlI (e : EN) : Bool := match e.1 with
  | .lastore => false
  | _ => true
theorem nl_ok (e : EN) (st st' : List Value) (σ σ' : Sg) (h : nlI e = true) (hp : hpI e.1 e.2.2 st σ = some (st', σ')) : σ'.2 = σ.2 := by
  rcases hp_wr hp with rfl | ⟨q, c, k, x, fs, ix, -, -, -, rfl⟩ | ⟨q, t, n, fs, k, x, -, -, rfl⟩ | ⟨q, k, x, he, rfl⟩
  · rfl
  · rfl
  · rfl
  · unfold nlI at h
    rw [he] at h
    cases h
def nlS (P : List MI) (S : List Nat) : Bool := S.all (fun mi => match P[mi]? with
  | some M => M.2.2.2.2.all (fun p => clI S p.2 && nlI p.2)
  | none => true)
theorem Ok.longs {P : List MI} {S : List Nat} (hS : nlS P S = true) {d mi : Nat} {av : List Value} {σ : Sg} {Q : Option Value → Sg → Prop} (hmi : mi ∈ S) (h : Ok P d mi av σ Q) : Ok P d mi av σ (fun v σ' => σ'.2 = σ.2 ∧ Q v σ') :=
  Ok.inv (R := fun σ σ' => σ'.2 = σ.2) (ck := nlI) (fun _ => rfl) (fun _ _ _ a b => b.trans a) nl_ok hS hmi h
/-- field k of class c is not stored -/
def nfI (c k : Nat) (e : EN) : Bool := match e.1 with
  | .putfield _ => match e.2.2 with
    | ci :: j :: _ => !(Nat.beq ci c && Nat.beq j k)
    | _ => true
  | _ => true
theorem nf_ok {q0 c k0 : Nat} {fs0 : List (Nat × Nat)} (hq0 : knd q0 = some (0, c, fs0)) (e : EN) (st st' : List Value) (σ σ' : Sg) (h : nfI c k0 e = true) (hp : hpI e.1 e.2.2 st σ = some (st', σ')) : σ'.1 q0 k0 = σ.1 q0 k0 := by
  rcases hp_wr hp with rfl | ⟨q, ci, k, x, fs, ix, he, ⟨r, hr⟩, hk, rfl⟩ | ⟨q, t, n, fs, k, x, hk, ht, rfl⟩ | ⟨q, k, x, he, rfl⟩
  · rfl
  · refine if_neg (fun ⟨e1, e2⟩ => ?_)
    subst e1; subst e2
    rw [hq0] at hk
    cases hk
    unfold nfI at h
    rw [he, hr] at h
    simp at h
  · refine if_neg (fun ⟨e1, e2⟩ => ?_)
    subst e1
    rw [hq0] at hk
    cases hk
    omega
  · rfl
def nfS (P : List MI) (S : List Nat) (c k : Nat) : Bool := S.all (fun mi => match P[mi]? with
  | some M => M.2.2.2.2.all (fun p => clI S p.2 && nfI c k p.2)
  | none => true)
theorem Ok.field {P : List MI} {S : List Nat} {q0 c k0 : Nat} {fs0 : List (Nat × Nat)} (hq0 : knd q0 = some (0, c, fs0)) (hS : nfS P S c k0 = true) {d mi : Nat} {av : List Value} {σ : Sg} {Q : Option Value → Sg → Prop} (hmi : mi ∈ S) (h : Ok P d mi av σ Q) : Ok P d mi av σ (fun v σ' => σ'.1 q0 k0 = σ.1 q0 k0 ∧ Q v σ') :=
  Ok.inv (R := fun σ σ' => σ'.1 q0 k0 = σ.1 q0 k0) (ck := nfI c k0) (fun _ => rfl) (fun _ _ _ a b => b.trans a) (nf_ok hq0) hS hmi h
