/-! runs: both of two promises; methods that write nothing -/
theorem Ok.and {P : List MI} {d e mi : Nat} {av : List Value} {σ : Sg} {Q1 Q2 : Option Value → Sg → Prop} (h1 : Ok P d mi av σ Q1) (h2 : Ok P e mi av σ Q2) : Ok P (max d e) mi av σ (fun v σ' => Q1 v σ' ∧ Q2 v σ') := by
  obtain ⟨M, a1, a2, n, v, σ1, a3, a4⟩ := h1
  obtain ⟨M', -, -, m, w, σ2, b3, b4⟩ := h2
  have e1 := run_more n (n + m) d (max d e) _ _ _ _ _ _ (by omega) (by omega) a3
  have e2 := run_more m (n + m) e (max d e) _ _ _ _ _ _ (by omega) (by omega) b3
  rw [e1] at e2
  cases e2
  exact ⟨M, a1, a2, n + m, v, σ1, e1, a4, b4⟩
theorem OkI.and {P : List MI} {d e mi : Nat} {av : List Value} {σ : Sg} {Q1 Q2 : Int32 → Sg → Prop} (h1 : OkI P d mi av σ Q1) (h2 : OkI P e mi av σ Q2) : OkI P (max d e) mi av σ (fun v σ' => Q1 v σ' ∧ Q2 v σ') := by
  refine (Ok.and h1 h2).mono (fun v σ' h => ?_)
  obtain ⟨⟨w, rfl, a⟩, ⟨w', e, b⟩⟩ := h
  cases e
  exact ⟨w, rfl, a, b⟩
theorem OkI.deep {P : List MI} {d e mi : Nat} {av : List Value} {σ : Sg} {Q : Int32 → Sg → Prop} (h : OkI P d mi av σ Q) (hd : d ≤ e) : OkI P e mi av σ Q := Ok.deep h hd
theorem OkV.deep {P : List MI} {d e mi : Nat} {av : List Value} {σ : Sg} {Q : Sg → Prop} (h : OkV P d mi av σ Q) (hd : d ≤ e) : OkV P e mi av σ Q := Ok.deep h hd
/-- instructions that write no cell -/
def nwI (S : List Nat) (e : EN) : Bool := match e.1 with
  | .putfield _ => false
  | .iastore => false
  | .bastore => false
  | .lastore => false
  | .invokevirtual _ => match e.2.2 with
    | mj :: _ => S.contains mj
    | _ => false
  | .invokestatic _ => match e.2.2 with
    | mj :: _ => S.contains mj
    | _ => false
  | _ => true
theorem hp_nw {S : List Nat} {e : EN} {st st' : List Value} {σ σ' : Sg} (hn : nwI S e = true) (h : hpI e.1 e.2.2 st σ = some (st', σ')) : σ' = σ := by
  have hld : ∀ {tag : Nat} {f : Nat → Nat → Value} {x : List Value × Sg}, ldA tag f st σ = some x → x.2 = σ := by
    intro tag f x hx
    unfold ldA at hx
    split at hx
    · split at hx
      · split at hx
        · cases hx; rfl
        · cases hx
      · cases hx
    · cases hx
  obtain ⟨i, ln, ex⟩ := e
  simp only at h
  unfold hpI at h
  split at h
  · unfold getF at h
    split at h
    · split at h
      · split at h
        · rename_i fs _ _
          revert h
          rename_i k _ _ _ _ _
          intro h
          obtain ⟨f, hf, he⟩ := Option.map_eq_some_iff.mp h
          cases he; rfl
        · cases h
      · cases h
    · cases h
  · cases hn
  · exact hld h
  · rcases Option.or_eq_some_iff.mp h with h | ⟨-, h⟩
    · exact hld h
    · exact hld h
  · exact hld h
  · rcases Option.or_eq_some_iff.mp h with h | ⟨-, h⟩
    · rcases Option.or_eq_some_iff.mp h with h | ⟨-, h⟩
      · exact hld h
      · exact hld h
    · exact hld h
  · cases hn
  · cases hn
  · cases hn
  · split at h
    · split at h
      · split at h
        · cases h; rfl
        · cases h
      · cases h
    · cases h
  · cases h
theorem ca_nw {S : List Nat} {e : EN} {st av rest : List Value} {mj : Nat} (hn : nwI S e = true) (h : caI e.1 e.2.2 st = some (mj, av, rest)) : mj ∈ S := by
  obtain ⟨i, ln, ex⟩ := e
  simp only at h
  unfold caI at h
  unfold nwI at hn
  split at h
  · split at h
    · split at h
      · split at h
        · split at h
          · cases h; simpa using hn
          · cases h
        · cases h
      · cases h
    · cases h
  · split at h
    · split at h
      · cases h; simpa using hn
      · cases h
    · cases h
  · cases h
def pureS (P : List MI) (S : List Nat) : Bool := S.all (fun mi => match P[mi]? with
  | some M => M.2.2.2.2.all (fun p => nwI S p.2)
  | none => true)
theorem run_pure {P : List MI} {S : List Nat} (hS : pureS P S = true) : ∀ (n d mi pc : Nat) (ls : Lcl) (st : List Value) (σ : Sg) (v : Option Value) (σ' : Sg), mi ∈ S → run P n d mi pc ls st σ = some (v, σ') → σ' = σ := by
  intro n
  induction n with
  | zero => intro d mi pc ls st σ v σ' _ h; cases h
  | succ n ih =>
    intro d mi pc ls st σ v σ' hmi h
    unfold run at h
    have hm := List.all_eq_true.mp hS mi hmi
    cases hM : P[mi]? with
    | none => rw [hM] at h; cases h
    | some M =>
      rw [hM] at hm
      simp only [hM] at h
      cases hen : M.2.2.2.2.lookup pc with
      | none => rw [hen] at h; cases h
      | some en =>
        simp only [hen] at h
        have hn : nwI S en = true := List.all_eq_true.mp hm _ (lookup_mem hen)
        cases hs : stp M.2.2.1 M.2.2.2.1 pc en ls st σ with
        | none => rw [hs] at h; cases h
        | some r =>
          rw [hs] at h
          rcases r with r | x | r
          · simp only at h
            have e1 := ih _ _ _ _ _ _ _ _ hmi h
            have e2 : r.2.2.2 = σ := by
              unfold stp at hs
              split at hs
              · cases hs; rfl
              · split at hs
                · rename_i hp
                  cases hs
                  exact hp_nw hn hp
                · split at hs
                  · split at hs
                    · cases hs; rfl
                    · cases hs
                  · split at hs
                    · cases hs
                    · split at hs <;> cases hs
            rw [e1, e2]
          · simp only at h
            cases h; rfl
          · simp only at h
            have hmj : r.1 ∈ S := by
              unfold stp at hs
              split at hs
              · cases hs
              · split at hs
                · cases hs
                · split at hs
                  · split at hs <;> cases hs
                  · split at hs
                    · rename_i hp
                      cases hs
                      exact ca_nw hn hp
                    · split at hs <;> cases hs
            cases d with
            | zero => cases h
            | succ d1 =>
              simp only at h
              cases hv : mm r.1 r.2.1 with
              | some w =>
                simp only [hv] at h
                exact ih _ _ _ _ _ _ _ _ hmi h
              | none =>
                simp only [hv] at h
                cases hMj : P[r.1]? with
                | none => rw [hMj] at h; cases h
                | some Mj =>
                  simp only [hMj] at h
                  split at h
                  · cases hc : run P n d1 r.1 0 (lv_args 0 r.2.1) [] σ with
                    | none => rw [hc] at h; cases h
                    | some y =>
                      rw [hc] at h
                      obtain ⟨w, σ1⟩ := y
                      have := ih _ _ _ _ _ _ _ _ hmj hc
                      subst this
                      exact ih _ _ _ _ _ _ _ _ hmi h
                  · cases h
theorem Ok.pure {P : List MI} {S : List Nat} {d mi : Nat} {av : List Value} {σ : Sg} {Q : Option Value → Sg → Prop} (hS : pureS P S = true) (hmi : mi ∈ S) (h : Ok P d mi av σ Q) : Ok P d mi av σ (fun v σ' => σ' = σ ∧ Q v σ') := by
  obtain ⟨M, a1, a2, n, v, σ1, a3, a4⟩ := h
  exact ⟨M, a1, a2, n, v, σ1, a3, run_pure hS _ _ _ _ _ _ _ _ _ hmi a3, a4⟩
