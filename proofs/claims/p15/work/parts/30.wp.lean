/-! walks by hand: many steps at once by rfl; fewer locals are enough; ends of methods -/
def stepN : Nat → MI → Nat → Lcl → List Value → Sg → Option (Nat × Lcl × List Value × Sg)
  | 0, _, pc, ls, st, σ => some (pc, ls, st, σ)
  | n + 1, M, pc, ls, st, σ => match M.2.2.2.2.lookup pc with
    | none => none
    | some en => match stp M.2.2.1 M.2.2.2.1 pc en ls st σ with
      | some (.inl r) => stepN n M r.1 r.2.1 r.2.2.1 r.2.2.2
      | _ => none
section Wp
variable {P : List MI} {d mi pc : Nat} {ls : Lcl} {st : List Value} {σ : Sg} {Q : Option Value → Sg → Prop} {M : MI} {en : EN}
theorem Rn.seg (hM : P[mi]? = some M) : ∀ (n : Nat) {pc : Nat} {ls : Lcl} {st : List Value} {σ : Sg} {pc' : Nat} {ls' : Lcl} {st' : List Value} {σ' : Sg}, stepN n M pc ls st σ = some (pc', ls', st', σ') → Rn P d mi pc' ls' st' σ' Q → Rn P d mi pc ls st σ Q := by
  intro n
  induction n with
  | zero => intro pc ls st σ pc' ls' st' σ' h hr; cases h; exact hr
  | succ n ih =>
    intro pc ls st σ pc' ls' st' σ' h hr
    unfold stepN at h
    split at h
    · cases h
    · rename_i en hen
      split at h
      · rename_i r hs
        exact Rn.step hM hen hs (ih h hr)
      · cases h
theorem Rn.br {c : Prop} [Decidable c] {a b : Nat} (hM : P[mi]? = some M) (n : Nat) {ls' : Lcl} {st' : List Value} {σ' : Sg} (h : stepN n M pc ls st σ = some (if decide c then a else b, ls', st', σ')) (h1 : c → Rn P d mi a ls' st' σ' Q) (h2 : ¬ c → Rn P d mi b ls' st' σ' Q) : Rn P d mi pc ls st σ Q := by
  refine Rn.seg hM n h ?_
  by_cases hc : c
  · rw [if_pos (decide_eq_true hc)]; exact h1 hc
  · rw [if_neg (by rw [decide_eq_true_eq]; exact hc)]; exact h2 hc
theorem Rn.brN {c : Prop} [Decidable c] {a b : Nat} (hM : P[mi]? = some M) (n : Nat) {ls' : Lcl} {st' : List Value} {σ' : Sg} (h : stepN n M pc ls st σ = some (if decide (¬ c) then a else b, ls', st', σ')) (h1 : ¬ c → Rn P d mi a ls' st' σ' Q) (h2 : c → Rn P d mi b ls' st' σ' Q) : Rn P d mi pc ls st σ Q :=
  Rn.br hM n h h1 (fun hc => h2 (Decidable.not_not.mp hc))
theorem Rn.iald {i : Int32} {q n : Nat} {fs : List (Nat × Nat)} {ex : List Nat} {r : List Value} (hM : P[mi]? = some M) (hen : M.2.2.2.2.lookup pc = some (.iaload, 1, ex)) (hk : knd q = some (1, n, fs)) (hi : inR i n = true) (h : Rn P d mi (pc + 1) ls (.int (σ.1 q i.toNatClampNeg) :: r) σ Q) : Rn P d mi pc ls (.int i :: .ref q :: r) σ Q := by
  refine Rn.step hM hen (r := (pc + 1, ls, .int (σ.1 q i.toNatClampNeg) :: r, σ)) ?_ h
  have : hpI .iaload ex (.int i :: .ref q :: r) σ = some (.int (σ.1 q i.toNatClampNeg) :: r, σ) := by
    simp only [hpI, ldA, hk, hi, and_self, if_true]
  simp only [stp, pureI, this]
theorem Rn.bald2 {i : Int32} {q n : Nat} {fs : List (Nat × Nat)} {ex : List Nat} {r : List Value} (hM : P[mi]? = some M) (hen : M.2.2.2.2.lookup pc = some (.baload, 1, ex)) (hk : knd q = some (2, n, fs)) (hi : inR i n = true) (h : Rn P d mi (pc + 1) ls (.int (σ.1 q i.toNatClampNeg) :: r) σ Q) : Rn P d mi pc ls (.int i :: .ref q :: r) σ Q := by
  refine Rn.step hM hen (r := (pc + 1, ls, .int (σ.1 q i.toNatClampNeg) :: r, σ)) ?_ h
  have : hpI .baload ex (.int i :: .ref q :: r) σ = some (.int (σ.1 q i.toNatClampNeg) :: r, σ) := by
    simp only [hpI, ldA, hk, hi, and_self, if_true, Option.or]
  simp only [stp, pureI, this]
theorem Rn.bald3 {i : Int32} {q n : Nat} {fs : List (Nat × Nat)} {ex : List Nat} {r : List Value} (hM : P[mi]? = some M) (hen : M.2.2.2.2.lookup pc = some (.baload, 1, ex)) (hk : knd q = some (3, n, fs)) (hi : inR i n = true) (h : Rn P d mi (pc + 1) ls (.int (σ.1 q i.toNatClampNeg) :: r) σ Q) : Rn P d mi pc ls (.int i :: .ref q :: r) σ Q := by
  refine Rn.step hM hen (r := (pc + 1, ls, .int (σ.1 q i.toNatClampNeg) :: r, σ)) ?_ h
  have : hpI .baload ex (.int i :: .ref q :: r) σ = some (.int (σ.1 q i.toNatClampNeg) :: r, σ) := by
    simp only [hpI, ldA, hk, hi, and_true, Option.or, if_true]
    rfl
  simp only [stp, pureI, this]
theorem Rn.lald {i : Int32} {q n : Nat} {fs : List (Nat × Nat)} {ex : List Nat} {r : List Value} (hM : P[mi]? = some M) (hen : M.2.2.2.2.lookup pc = some (.laload, 1, ex)) (hk : knd q = some (4, n, fs)) (hi : inR i n = true) (h : Rn P d mi (pc + 1) ls (.long (σ.2 q i.toNatClampNeg) :: r) σ Q) : Rn P d mi pc ls (.int i :: .ref q :: r) σ Q := by
  refine Rn.step hM hen (r := (pc + 1, ls, .long (σ.2 q i.toNatClampNeg) :: r, σ)) ?_ h
  have : hpI .laload ex (.int i :: .ref q :: r) σ = some (.long (σ.2 q i.toNatClampNeg) :: r, σ) := by
    simp only [hpI, ldA, hk, hi, and_self, if_true]
  simp only [stp, pureI, this]
theorem Rn.iast {i x : Int32} {q n : Nat} {fs : List (Nat × Nat)} {ex : List Nat} {r : List Value} (hM : P[mi]? = some M) (hen : M.2.2.2.2.lookup pc = some (.iastore, 1, ex)) (hk : knd q = some (1, n, fs)) (hi : inR i n = true) (h : Rn P d mi (pc + 1) ls r (s1 σ q i.toNatClampNeg x) Q) : Rn P d mi pc ls (.int x :: .int i :: .ref q :: r) σ Q := by
  refine Rn.step hM hen (r := (pc + 1, ls, r, s1 σ q i.toNatClampNeg x)) ?_ h
  have : hpI .iastore ex (.int x :: .int i :: .ref q :: r) σ = some (r, s1 σ q i.toNatClampNeg x) := by
    simp only [hpI, stA, hk, hi, and_self, if_true]
  simp only [stp, pureI, this]
theorem Rn.bast2 {i x : Int32} {q n : Nat} {fs : List (Nat × Nat)} {ex : List Nat} {r : List Value} (hM : P[mi]? = some M) (hen : M.2.2.2.2.lookup pc = some (.bastore, 1, ex)) (hk : knd q = some (2, n, fs)) (hi : inR i n = true) (h : Rn P d mi (pc + 1) ls r (s1 σ q i.toNatClampNeg (vp_nar .byte x)) Q) : Rn P d mi pc ls (.int x :: .int i :: .ref q :: r) σ Q := by
  refine Rn.step hM hen (r := (pc + 1, ls, r, s1 σ q i.toNatClampNeg (vp_nar .byte x))) ?_ h
  have : hpI .bastore ex (.int x :: .int i :: .ref q :: r) σ = some (r, s1 σ q i.toNatClampNeg (vp_nar .byte x)) := by
    simp only [hpI, stA, hk, hi, and_self, if_true, Option.or]
  simp only [stp, pureI, this]
theorem Rn.bast3 {i x : Int32} {q n : Nat} {fs : List (Nat × Nat)} {ex : List Nat} {r : List Value} (hM : P[mi]? = some M) (hen : M.2.2.2.2.lookup pc = some (.bastore, 1, ex)) (hk : knd q = some (3, n, fs)) (hi : inR i n = true) (h : Rn P d mi (pc + 1) ls r (s1 σ q i.toNatClampNeg (vp_nar .boolean x)) Q) : Rn P d mi pc ls (.int x :: .int i :: .ref q :: r) σ Q := by
  refine Rn.step hM hen (r := (pc + 1, ls, r, s1 σ q i.toNatClampNeg (vp_nar .boolean x))) ?_ h
  have : hpI .bastore ex (.int x :: .int i :: .ref q :: r) σ = some (r, s1 σ q i.toNatClampNeg (vp_nar .boolean x)) := by
    simp only [hpI, stA, hk, hi, and_true, Option.or, if_true]
    rfl
  simp only [stp, pureI, this]
theorem Rn.last {i : Int32} {x : Int64} {q n : Nat} {fs : List (Nat × Nat)} {ex : List Nat} {r : List Value} (hM : P[mi]? = some M) (hen : M.2.2.2.2.lookup pc = some (.lastore, 1, ex)) (hk : knd q = some (4, n, fs)) (hi : inR i n = true) (h : Rn P d mi (pc + 1) ls r (s2 σ q i.toNatClampNeg x) Q) : Rn P d mi pc ls (.long x :: .int i :: .ref q :: r) σ Q := by
  refine Rn.step hM hen (r := (pc + 1, ls, r, s2 σ q i.toNatClampNeg x)) ?_ h
  have : hpI .lastore ex (.long x :: .int i :: .ref q :: r) σ = some (r, s2 σ q i.toNatClampNeg x) := by
    simp only [hpI, hk, hi, if_true]
  simp only [stp, pureI, this]
theorem Rn.dv {x y : Int32} {ex : List Nat} {r : List Value} (hM : P[mi]? = some M) (hen : M.2.2.2.2.lookup pc = some (.idiv, 1, ex)) (hy : ¬ y = 0) (h : Rn P d mi (pc + 1) ls (.int (x / y) :: r) σ Q) : Rn P d mi pc ls (.int y :: .int x :: r) σ Q := by
  refine Rn.step hM hen (r := (pc + 1, ls, .int (x / y) :: r, σ)) ?_ h
  simp only [stp, pureI, bin0, hy, if_false]
theorem Rn.rm {x y : Int32} {ex : List Nat} {r : List Value} (hM : P[mi]? = some M) (hen : M.2.2.2.2.lookup pc = some (.irem, 1, ex)) (hy : ¬ y = 0) (h : Rn P d mi (pc + 1) ls (.int (x - x / y * y) :: r) σ Q) : Rn P d mi pc ls (.int y :: .int x :: r) σ Q := by
  refine Rn.step hM hen (r := (pc + 1, ls, .int (x - x / y * y) :: r, σ)) ?_ h
  simp only [stp, pureI, bin0, hy, if_false]
/-- what a call answers: an int, a long, nothing -/
def OkI (P : List MI) (d mi : Nat) (av : List Value) (σ : Sg) (Q : Int32 → Sg → Prop) : Prop := Ok P d mi av σ (fun v σ' => ∃ w, v = some (.int w) ∧ Q w σ')
def OkJ (P : List MI) (d mi : Nat) (av : List Value) (σ : Sg) (Q : Int64 → Sg → Prop) : Prop := Ok P d mi av σ (fun v σ' => ∃ w, v = some (.long w) ∧ Q w σ')
def OkV (P : List MI) (d mi : Nat) (av : List Value) (σ : Sg) (Q : Sg → Prop) : Prop := Ok P d mi av σ (fun v σ' => v = none ∧ Q σ')
theorem Rn.cI {mj : Nat} {av rest : List Value} {Qc : Int32 → Sg → Prop} (hM : P[mi]? = some M) (hen : M.2.2.2.2.lookup pc = some en) (hs : stp M.2.2.1 M.2.2.2.1 pc en ls st σ = some (.inr (.inr (mj, av, rest)))) (hj : mj < 1000) (hc : OkI P d mj av σ Qc) (h : ∀ w σ', Qc w σ' → Rn P (d + 1) mi (pc + 3) ls (.int w :: rest) σ' Q) : Rn P (d + 1) mi pc ls st σ Q :=
  Rn.call hM hen hs hj hc (fun _ σ' ⟨w, e, hq⟩ => by subst e; exact h w σ' hq)
theorem Rn.cJ {mj : Nat} {av rest : List Value} {Qc : Int64 → Sg → Prop} (hM : P[mi]? = some M) (hen : M.2.2.2.2.lookup pc = some en) (hs : stp M.2.2.1 M.2.2.2.1 pc en ls st σ = some (.inr (.inr (mj, av, rest)))) (hj : mj < 1000) (hc : OkJ P d mj av σ Qc) (h : ∀ w σ', Qc w σ' → Rn P (d + 1) mi (pc + 3) ls (.long w :: rest) σ' Q) : Rn P (d + 1) mi pc ls st σ Q :=
  Rn.call hM hen hs hj hc (fun _ σ' ⟨w, e, hq⟩ => by subst e; exact h w σ' hq)
theorem Rn.cV {mj : Nat} {av rest : List Value} {Qc : Sg → Prop} (hM : P[mi]? = some M) (hen : M.2.2.2.2.lookup pc = some en) (hs : stp M.2.2.1 M.2.2.2.1 pc en ls st σ = some (.inr (.inr (mj, av, rest)))) (hj : mj < 1000) (hc : OkV P d mj av σ Qc) (h : ∀ σ', Qc σ' → Rn P (d + 1) mi (pc + 3) ls rest σ' Q) : Rn P (d + 1) mi pc ls st σ Q :=
  Rn.call hM hen hs hj hc (fun _ σ' ⟨e, hq⟩ => by subst e; exact h σ' hq)
theorem OkI.mono {av : List Value} {Q Q' : Int32 → Sg → Prop} (h : OkI P d mi av σ Q) (hq : ∀ w σ', Q w σ' → Q' w σ') : OkI P d mi av σ Q' := Ok.mono h (fun _ σ' ⟨w, e, x⟩ => ⟨w, e, hq w σ' x⟩)
theorem OkV.mono {av : List Value} {Q Q' : Sg → Prop} (h : OkV P d mi av σ Q) (hq : ∀ σ', Q σ' → Q' σ') : OkV P d mi av σ Q' := Ok.mono h (fun _ σ' ⟨e, x⟩ => ⟨e, hq σ' x⟩)
end Wp
theorem inR_ok {i : Int32} {n : Nat} (h1 : 0 ≤ i.toInt) (h2 : i.toInt < n) : inR i n = true := by
  unfold inR
  have e1 : ¬ i < 0 := by rw [Int32.lt_iff_toInt_lt]; simp; exact h1
  have e2 : ¬ n ≤ i.toNatClampNeg := by
    have : (i.toNatClampNeg : Int) = i.toInt := by
      show ((i.toInt.toNat : Nat) : Int) = i.toInt
      omega
    omega
  simp [e1, e2]
/-! fewer locals -/
def subL (l' l : Lcl) : Prop := ∀ k v, l'.lookup k = some v → l.lookup k = some v
def ndL (l : Lcl) : Prop := (l.map Prod.fst).Nodup
theorem lk_mem {l : Lcl} {k : Nat} {v : Value} (h : l.lookup k = some v) : (k, v) ∈ l := by
  induction l with
  | nil => cases h
  | cons p l ih =>
    rw [List.lookup_cons] at h
    split at h
    · rename_i e
      cases h
      rw [eq_of_beq e]
      exact List.mem_cons_self
    · exact List.mem_cons_of_mem _ (ih h)
theorem lk_of_mem {l : Lcl} {k : Nat} {v : Value} (hn : ndL l) (h : (k, v) ∈ l) : l.lookup k = some v := by
  induction l with
  | nil => cases h
  | cons p l ih =>
    unfold ndL at hn
    rw [List.map_cons, List.nodup_cons] at hn
    rw [List.lookup_cons]
    rcases List.mem_cons.mp h with rfl | h
    · simp
    · have : ¬ k = p.1 := fun e => hn.1 (List.mem_map.mpr ⟨(k, v), h, e⟩)
      have e2 : (k == p.1) = false := by simpa using this
      rw [e2]
      exact ih hn.2 h
theorem lk_filter {l : Lcl} {k : Nat} {v : Value} {p : Nat × Value → Bool} (h : l.lookup k = some v) (hp : p (k, v) = true) : (l.filter p).lookup k = some v := by
  induction l with
  | nil => cases h
  | cons q l ih =>
    rw [List.lookup_cons] at h
    split at h
    · rename_i e
      cases h
      have : q = (k, q.2) := by rw [eq_of_beq e]
      rw [List.filter_cons, if_pos (by rw [this]; exact hp), List.lookup_cons, e]
    · rename_i e
      rw [List.filter_cons]
      split
      · rw [List.lookup_cons, e]; exact ih h
      · exact ih h
theorem nd_filter {l : Lcl} {p : Nat × Value → Bool} (h : ndL l) : ndL (l.filter p) := by
  unfold ndL at h ⊢
  exact List.Nodup.sublist (List.Sublist.map _ List.filter_sublist) h
theorem set1_sub {l' l : Lcl} {i : Nat} {v : Value} (hs : subL l' l) (hn : ndL l') : subL (set1 i v l') (set1 i v l) ∧ ndL (set1 i v l') := by
  refine ⟨fun k w h => ?_, ?_⟩
  · unfold set1 at h ⊢
    rw [List.lookup_cons] at h ⊢
    split at h
    · exact h
    · have hm := lk_mem h
      rw [List.mem_filter] at hm
      exact lk_filter (hs k w (lk_of_mem hn hm.1)) hm.2
  · unfold set1 ndL
    rw [List.map_cons, List.nodup_cons]
    refine ⟨fun h => ?_, nd_filter hn⟩
    obtain ⟨q, h1, h2⟩ := List.mem_map.mp h
    rw [List.mem_filter] at h1
    simp [h2] at h1
theorem set2_sub {l' l : Lcl} {i : Nat} {v : Value} (hs : subL l' l) (hn : ndL l') : subL (set2 i v l') (set2 i v l) ∧ ndL (set2 i v l') := by
  refine ⟨fun k w h => ?_, ?_⟩
  · unfold set2 at h ⊢
    rw [List.lookup_cons] at h ⊢
    split at h
    · exact h
    · have hm := lk_mem h
      rw [List.mem_filter] at hm
      exact lk_filter (hs k w (lk_of_mem hn hm.1)) hm.2
  · unfold set2 ndL
    rw [List.map_cons, List.nodup_cons]
    refine ⟨fun h => ?_, nd_filter hn⟩
    obtain ⟨q, h1, h2⟩ := List.mem_map.mp h
    rw [List.mem_filter] at h1
    simp [h2] at h1
section Sub
variable {l' l l1' : Lcl} {st s1 : List Value}
theorem ldi_sub {k : Nat} (h : ldi k l' st = some (l1', s1)) (hs : subL l' l) (hn : ndL l') : ∃ l1, ldi k l st = some (l1, s1) ∧ subL l1' l1 ∧ ndL l1' := by
  unfold ldi at h
  split at h
  · rename_i x hx
    cases h
    exact ⟨l, by unfold ldi; rw [hs _ _ hx], hs, hn⟩
  · cases h
theorem ldl_sub {k : Nat} (h : ldl k l' st = some (l1', s1)) (hs : subL l' l) (hn : ndL l') : ∃ l1, ldl k l st = some (l1, s1) ∧ subL l1' l1 ∧ ndL l1' := by
  unfold ldl at h
  split at h
  · rename_i x hx
    cases h
    exact ⟨l, by unfold ldl; rw [hs _ _ hx], hs, hn⟩
  · cases h
theorem lda_sub {k : Nat} (h : lda k l' st = some (l1', s1)) (hs : subL l' l) (hn : ndL l') : ∃ l1, lda k l st = some (l1, s1) ∧ subL l1' l1 ∧ ndL l1' := by
  unfold lda at h
  split at h
  · rename_i x hx
    cases h
    exact ⟨l, by unfold lda; rw [hs _ _ hx], hs, hn⟩
  · cases h
theorem sti_sub {n k : Nat} (h : sti n k l' st = some (l1', s1)) (hs : subL l' l) (hn : ndL l') : ∃ l1, sti n k l st = some (l1, s1) ∧ subL l1' l1 ∧ ndL l1' := by
  unfold sti at h
  split at h
  · split at h
    · rename_i hk
      cases h
      exact ⟨_, by unfold sti; simp only [hk, if_true], set1_sub hs hn⟩
    · cases h
  · cases h
theorem sta_sub {n k : Nat} (h : sta n k l' st = some (l1', s1)) (hs : subL l' l) (hn : ndL l') : ∃ l1, sta n k l st = some (l1, s1) ∧ subL l1' l1 ∧ ndL l1' := by
  unfold sta at h
  split at h
  · split at h
    · rename_i hk
      cases h
      exact ⟨_, by unfold sta; simp only [hk, if_true], set1_sub hs hn⟩
    · cases h
  · cases h
theorem stl_sub {n k : Nat} (h : stl n k l' st = some (l1', s1)) (hs : subL l' l) (hn : ndL l') : ∃ l1, stl n k l st = some (l1, s1) ∧ subL l1' l1 ∧ ndL l1' := by
  unfold stl at h
  split at h
  · split at h
    · rename_i hk
      cases h
      exact ⟨_, by unfold stl; simp only [hk, if_true], set2_sub hs hn⟩
    · cases h
  · cases h
theorem bin1_sub {f : Int32 → Int32 → Int32} (h : bin1 f l' st = some (l1', s1)) (hs : subL l' l) (hn : ndL l') : ∃ l1, bin1 f l st = some (l1, s1) ∧ subL l1' l1 ∧ ndL l1' := by
  unfold bin1 at h
  split at h
  · cases h; exact ⟨l, rfl, hs, hn⟩
  · cases h
theorem bin0_sub {f : Int32 → Int32 → Int32} (h : bin0 f l' st = some (l1', s1)) (hs : subL l' l) (hn : ndL l') : ∃ l1, bin0 f l st = some (l1, s1) ∧ subL l1' l1 ∧ ndL l1' := by
  unfold bin0 at h
  split at h
  · split at h
    · cases h
    · rename_i hy; cases h; exact ⟨l, by unfold bin0; simp only [hy, if_false], hs, hn⟩
  · cases h
theorem bin2_sub {f : Int64 → Int64 → Int64} (h : bin2 f l' st = some (l1', s1)) (hs : subL l' l) (hn : ndL l') : ∃ l1, bin2 f l st = some (l1, s1) ∧ subL l1' l1 ∧ ndL l1' := by
  unfold bin2 at h
  split at h
  · cases h; exact ⟨l, rfl, hs, hn⟩
  · cases h
theorem sh2_sub {f : Int64 → Int32 → Int64} (h : sh2 f l' st = some (l1', s1)) (hs : subL l' l) (hn : ndL l') : ∃ l1, sh2 f l st = some (l1, s1) ∧ subL l1' l1 ∧ ndL l1' := by
  unfold sh2 at h
  split at h
  · cases h; exact ⟨l, rfl, hs, hn⟩
  · cases h
set_option maxHeartbeats 4000000 in
theorem pureI_sub {nL : Nat} {i : Instr} {ex : List Nat} (h : pureI nL i ex l' st = some (l1', s1)) (hs : subL l' l) (hn : ndL l') : ∃ l1, pureI nL i ex l st = some (l1, s1) ∧ subL l1' l1 ∧ ndL l1' := by
  unfold pureI at h
  split at h
  all_goals first
    | exact ldi_sub h hs hn
    | exact ldl_sub h hs hn
    | exact lda_sub h hs hn
    | exact sti_sub h hs hn
    | exact sta_sub h hs hn
    | exact stl_sub h hs hn
    | exact bin1_sub h hs hn
    | exact bin0_sub h hs hn
    | exact bin2_sub h hs hn
    | exact sh2_sub h hs hn
    | (cases h; exact ⟨l, rfl, hs, hn⟩)
    | (cases h; done)
    | (split at h
       · cases h; exact ⟨l, rfl, hs, hn⟩
       · cases h)
    | (split at h
       · split at h
         · rename_i hc; cases h; exact ⟨l, by simp only [pureI, hc, if_true, and_self], hs, hn⟩
         · cases h
       · cases h)
    | (split at h
       · rename_i x hx
         split at h
         · rename_i hc; cases h; exact ⟨_, by simp only [pureI, hs _ _ hx, hc, if_true], set1_sub hs hn⟩
         · cases h
       · cases h)
end Sub
theorem hp_pure {i : Instr} {ex : List Nat} {st : List Value} {σ : Sg} {x : List Value × Sg} (h : hpI i ex st σ = some x) (nL : Nat) (l : Lcl) : pureI nL i ex l st = none := by
  unfold hpI at h
  split at h <;> first | rfl | cases h
theorem br_pure {i : Instr} {st : List Value} {x : Bool × Int × List Value} (h : brI i st = some x) (nL : Nat) (ex : List Nat) (l : Lcl) : pureI nL i ex l st = none := by
  unfold brI at h
  split at h <;> first | rfl | cases h
theorem ca_pure {i : Instr} {ex : List Nat} {st : List Value} {x : Nat × List Value × List Value} (h : caI i ex st = some x) (nL : Nat) (l : Lcl) : pureI nL i ex l st = none := by
  unfold caI at h
  split at h <;> first | rfl | cases h
theorem rt_pure {i : Instr} {ret : Option FieldType} {st : List Value} {x : Option Value} (h : rtI i ret st = some x) (nL : Nat) (ex : List Nat) (l : Lcl) : pureI nL i ex l st = none := by
  unfold rtI at h
  split at h <;> first | rfl | cases h
theorem stp_sub {nL : Nat} {ret : Option FieldType} {pc : Nat} {en : EN} {l' l : Lcl} {st : List Value} {σ : Sg} {r : StepR} (h : stp nL ret pc en l' st σ = some r) (hs : subL l' l) (hn : ndL l') : (∃ p l1' l1 s1 σ1, r = .inl (p, l1', s1, σ1) ∧ stp nL ret pc en l st σ = some (.inl (p, l1, s1, σ1)) ∧ subL l1' l1 ∧ ndL l1') ∨ (∃ x, r = .inr x ∧ stp nL ret pc en l st σ = some (.inr x)) := by
  unfold stp at h
  split at h
  · rename_i l1' s1 hp
    cases h
    obtain ⟨l1, h1, h2, h3⟩ := pureI_sub hp hs hn
    refine Or.inl ⟨_, _, l1, _, _, rfl, ?_, h2, h3⟩
    unfold stp; rw [h1]
  · split at h
    · rename_i s1 σ1 hp
      cases h
      refine Or.inl ⟨_, _, l, _, _, rfl, ?_, hs, hn⟩
      unfold stp; rw [hp_pure hp, hp]
    · rename_i hh
      split at h
      · rename_i b off s1 hp
        split at h
        · rename_i hc
          cases h
          refine Or.inl ⟨_, _, l, _, _, rfl, ?_, hs, hn⟩
          unfold stp; rw [br_pure hp]; simp only [hh, hp, hc, if_true]
        · cases h
      · rename_i hb
        split at h
        · rename_i mj av rest hp
          cases h
          refine Or.inr ⟨_, rfl, ?_⟩
          unfold stp; rw [ca_pure hp]; simp only [hh, hb, hp]
        · rename_i hc
          split at h
          · rename_i v hp
            cases h
            refine Or.inr ⟨_, rfl, ?_⟩
            unfold stp; rw [rt_pure hp]; simp only [hh, hb, hc, hp]
          · cases h
theorem run_sub {P : List MI} : ∀ (n d mi pc : Nat) (l' l : Lcl) (st : List Value) (σ : Sg) (x : Option Value × Sg), subL l' l → ndL l' → run P n d mi pc l' st σ = some x → run P n d mi pc l st σ = some x := by
  intro n
  induction n with
  | zero => intro d mi pc l' l st σ x _ _ h; cases h
  | succ n ih =>
    intro d mi pc l' l st σ x hs hn h
    unfold run at h ⊢
    cases hM : P[mi]? with
    | none => rw [hM] at h; cases h
    | some M =>
      simp only [hM] at h ⊢
      cases hen : M.2.2.2.2.lookup pc with
      | none => rw [hen] at h; cases h
      | some en =>
        simp only [hen] at h ⊢
        cases hst : stp M.2.2.1 M.2.2.2.1 pc en l' st σ with
        | none => rw [hst] at h; cases h
        | some r =>
          rw [hst] at h
          rcases stp_sub hst hs hn with ⟨p, l1', l1, s1, σ1, rfl, h2, h3, h4⟩ | ⟨y, rfl, h2⟩
          · rw [h2]
            exact ih _ _ _ _ _ _ _ _ h3 h4 h
          · rw [h2]
            rcases y with v | r
            · exact h
            · cases d with
              | zero => cases h
              | succ d1 =>
                simp only at h ⊢
                cases hv : mm r.1 r.2.1 with
                | some v =>
                  simp only [hv] at h ⊢
                  exact ih _ _ _ _ _ _ _ _ hs hn h
                | none =>
                  simp only [hv] at h ⊢
                  cases hMj : P[r.1]? with
                  | none => rw [hMj] at h; cases h
                  | some Mj =>
                    simp only [hMj] at h ⊢
                    split at h
                    · rename_i hlen
                      rw [if_pos hlen]
                      cases hc : run P n d1 r.1 0 (lv_args 0 r.2.1) [] σ with
                      | none => rw [hc] at h; cases h
                      | some y =>
                        rw [hc] at h
                        exact ih _ _ _ _ _ _ _ _ hs hn h
                    · cases h
theorem Rn.sub {P : List MI} {d mi pc : Nat} {l' l : Lcl} {st : List Value} {σ : Sg} {Q : Option Value → Sg → Prop} (h : Rn P d mi pc l' st σ Q) (hs : subL l' l) (hn : ndL l') : Rn P d mi pc l st σ Q := by
  obtain ⟨n, v, σ', h1, h2⟩ := h
  exact ⟨n, v, σ', run_sub n d mi pc l' l st σ _ hs hn h1, h2⟩
theorem subL_nil {l : Lcl} : subL [] l := fun _ _ h => by cases h
theorem subL_cons {l' l : Lcl} {k : Nat} {v : Value} (h : l.lookup k = some v) (hs : subL l' l) : subL ((k, v) :: l') l := by
  intro k' w h'
  rw [List.lookup_cons] at h'
  split at h'
  · rename_i e; cases h'; rw [eq_of_beq e]; exact h
  · exact hs _ _ h'
section Wp2
variable {P : List MI} {d mi pc : Nat} {ls : Lcl} {st : List Value} {σ : Sg} {Q : Option Value → Sg → Prop} {M : MI} {en : EN}
theorem Rn.putZ {x : Int32} {q c k ix z : Nat} {fs : List (Nat × Nat)} {ex r0 : List Nat} {r : List Value} (hM : P[mi]? = some M) (hen : M.2.2.2.2.lookup pc = some (.putfield ix, 3, ex)) (he : ex = c :: k :: r0) (hk : knd q = some (0, c, fs)) (hf : fs[k]? = some (1, z)) (hx : x = 0 ∨ x = 1) (h : Rn P d mi (pc + 3) ls r (s1 σ q k x) Q) : Rn P d mi pc ls (.int x :: .ref q :: r) σ Q := by
  refine Rn.step hM hen (r := (pc + 3, ls, r, s1 σ q k x)) ?_ h
  subst he
  have : hpI (.putfield ix) (c :: k :: r0) (.int x :: .ref q :: r) σ = some (r, s1 σ q k x) := by
    simp only [hpI, putF, hk, hf, if_true, Option.bind_some, putV, hx, Option.map_some]
  simp only [stp, pureI, this]
theorem Rn.retZ {x : Int32} {ex : List Nat} (hM : P[mi]? = some M) (hen : M.2.2.2.2.lookup pc = some (.ireturn, 1, ex)) (hr : M.2.2.2.1 = some .boolean) (hx : x = 0 ∨ x = 1) (h : Q (some (.int x)) σ) : Rn P d mi pc ls [.int x] σ Q := by
  refine Rn.ret hM hen (v := some (.int x)) ?_ h
  have : rtI .ireturn (some .boolean) [.int x] = some (some (.int x)) := by
    simp only [rtI, retOK, hx, decide_true, if_true]
  simp only [stp, pureI, hpI, brI, caI, hr, this]
theorem tsw_cases (x : Int32) (lo hi : Int) (h : lo ≤ hi) : (x.toInt < lo ∨ hi < x.toInt) ∨ ∃ j : Nat, j ≤ (hi - lo).toNat ∧ x.toInt = lo + j := by
  by_cases c : x.toInt < lo ∨ hi < x.toInt
  · exact Or.inl c
  · exact Or.inr ⟨(x.toInt - lo).toNat, by omega, by omega⟩
theorem Rn.tswD {x : Int32} {dd lo hi : Int} {offs : Array Int} {ex : List Nat} {r : List Value} {pc' ln : Nat} (hM : P[mi]? = some M) (hen : M.2.2.2.2.lookup pc = some (.tableswitch dd lo hi offs, ln, ex)) (c : x.toInt < lo ∨ hi < x.toInt) (hp : 0 ≤ (pc : Int) + dd) (he : ((pc : Int) + dd).toNat = pc') (h : Rn P d mi pc' ls r σ Q) : Rn P d mi pc ls (.int x :: r) σ Q := by
  subst he
  refine Rn.step hM hen (r := (((pc : Int) + dd).toNat, ls, r, σ)) ?_ h
  simp only [stp, pureI, hpI, brI, c, hp, if_true]
theorem Rn.tswK {x : Int32} {dd lo hi o : Int} {offs : Array Int} {ex : List Nat} {r : List Value} {pc' ln j : Nat} (hM : P[mi]? = some M) (hen : M.2.2.2.2.lookup pc = some (.tableswitch dd lo hi offs, ln, ex)) (c : x.toInt = lo + (j : Int)) (hj : lo + (j : Int) ≤ hi) (hp : 0 ≤ (pc : Int) + o) (ho : offs[j]? = some o) (he : ((pc : Int) + o).toNat = pc') (h : Rn P d mi pc' ls r σ Q) : Rn P d mi pc ls (.int x :: r) σ Q := by
  subst he
  refine Rn.step hM hen (r := (((pc : Int) + o).toNat, ls, r, σ)) ?_ h
  have e1 : ¬ (x.toInt < lo ∨ hi < x.toInt) := by omega
  have e2 : (x.toInt - lo).toNat = j := by omega
  simp only [stp, pureI, hpI, brI, e1, if_false, e2, ho, Option.map_some, hp, if_true]
end Wp2
