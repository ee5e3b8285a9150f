/-! a cell to which no reference is at hand is not written -/
def OV (q0 : Nat) (ls : Lcl) (st : List Value) : Prop := (∀ p ∈ ls, ¬ p.2 = .ref q0) ∧ ∀ v ∈ st, ¬ v = .ref q0
def ckV (G : List (Nat × Nat)) (e : EN) : Bool := match e.1 with
  | .getfield _ => match e.2.2 with
    | ci :: k :: _ => G.any (fun p => Nat.beq p.1 ci && Nat.beq p.2 k)
    | _ => false
  | _ => true
/-- these fields hold no reference to the cell -/
def goodG (q0 : Nat) (G : List (Nat × Nat)) : Bool := G.all (fun p => (List.range 158).all (fun q => match knd q with
  | some (0, c, fs) => !(Nat.beq c p.1) || (match fs[p.2]? with
    | some f => Nat.blt f.1 2 || (Nat.beq f.1 2 && !(Nat.beq (tg q p.2) q0))
    | none => true)
  | _ => true))
/-- nor do these arrays -/
def goodA (q0 : Nat) : Bool := (List.range 158).all (fun q => match knd q with
  | some (t, n, _) => Nat.blt t 5 || (List.range n).all (fun j => !(Nat.beq (tg q j) q0))
  | none => true)
theorem knd_lt2 {q : Nat} {κ : KD} (h : knd q = some κ) : q < 158 := by
  unfold knd at h
  rcases Nat.lt_or_ge q 158 with g | g
  · exact g
  · have hl : LAY.length = 158 := by decide +kernel
    rw [List.getElem?_eq_none (by omega)] at h
    cases h
section Vi
variable {q0 : Nat} {G : List (Nat × Nat)}
theorem OV.set {ls : Lcl} {st st' : List Value} {i : Nat} {v : Value} {p : Nat × Value → Bool} (h : OV q0 ls st) (hv : v ∈ st) (hs : ∀ x ∈ st', x ∈ st) : OV q0 ((i, v) :: ls.filter p) st' := by
  refine ⟨fun q hq => ?_, fun x hx => h.2 x (hs x hx)⟩
  rcases List.mem_cons.mp hq with rfl | hq
  · exact h.2 v hv
  · exact h.1 q (List.mem_filter.mp hq).1
theorem OV.push {ls : Lcl} {st st' : List Value} {v : Value} (h : OV q0 ls st) (hv : ¬ v = .ref q0) (hs : ∀ x ∈ st', x ∈ st) : OV q0 ls (v :: st') := by
  refine ⟨h.1, fun x hx => ?_⟩
  rcases List.mem_cons.mp hx with rfl | hx
  · exact hv
  · exact h.2 x (hs x hx)
theorem OV.sub {ls : Lcl} {st st' : List Value} (h : OV q0 ls st) (hs : ∀ x ∈ st', x ∈ st) : OV q0 ls st' := ⟨h.1, fun x hx => h.2 x (hs x hx)⟩
theorem mc1 {a : Value} {r : List Value} : ∀ x ∈ r, x ∈ a :: r := fun _ h => List.mem_cons_of_mem _ h
theorem mc2 {a b : Value} {r : List Value} : ∀ x ∈ r, x ∈ a :: b :: r := fun _ h => List.mem_cons_of_mem _ (List.mem_cons_of_mem _ h)
theorem mc3 {a b c : Value} {r : List Value} : ∀ x ∈ r, x ∈ a :: b :: c :: r := fun _ h => List.mem_cons_of_mem _ (List.mem_cons_of_mem _ (List.mem_cons_of_mem _ h))
theorem ni {x : Int32} : ¬ Value.int x = .ref q0 := fun e => by cases e
theorem nl {x : Int64} : ¬ Value.long x = .ref q0 := fun e => by cases e
variable {ls l1 : Lcl} {st s1' : List Value}
theorem bin1_ov {f : Int32 → Int32 → Int32} (h : bin1 f ls st = some (l1, s1')) (ho : OV q0 ls st) : OV q0 l1 s1' := by
  unfold bin1 at h
  split at h
  · cases h; exact ho.push ni mc2
  · cases h
theorem bin0_ov {f : Int32 → Int32 → Int32} (h : bin0 f ls st = some (l1, s1')) (ho : OV q0 ls st) : OV q0 l1 s1' := by
  unfold bin0 at h
  split at h
  · split at h
    · cases h
    · cases h; exact ho.push ni mc2
  · cases h
theorem bin2_ov {f : Int64 → Int64 → Int64} (h : bin2 f ls st = some (l1, s1')) (ho : OV q0 ls st) : OV q0 l1 s1' := by
  unfold bin2 at h
  split at h
  · cases h; exact ho.push nl mc2
  · cases h
theorem sh2_ov {f : Int64 → Int32 → Int64} (h : sh2 f ls st = some (l1, s1')) (ho : OV q0 ls st) : OV q0 l1 s1' := by
  unfold sh2 at h
  split at h
  · cases h; exact ho.push nl mc2
  · cases h
theorem ldi_ov {k : Nat} (h : ldi k ls st = some (l1, s1')) (ho : OV q0 ls st) : OV q0 l1 s1' := by
  unfold ldi at h
  split at h
  · cases h; exact ho.push ni (fun _ h => h)
  · cases h
theorem ldl_ov {k : Nat} (h : ldl k ls st = some (l1, s1')) (ho : OV q0 ls st) : OV q0 l1 s1' := by
  unfold ldl at h
  split at h
  · cases h; exact ho.push nl (fun _ h => h)
  · cases h
theorem lda_ov {k : Nat} (h : lda k ls st = some (l1, s1')) (ho : OV q0 ls st) : OV q0 l1 s1' := by
  unfold lda at h
  split at h
  · rename_i x hx
    cases h
    exact ho.push (ho.1 _ (lk_mem hx)) (fun _ h => h)
  · cases h
theorem sti_ov {n k : Nat} (h : sti n k ls st = some (l1, s1')) (ho : OV q0 ls st) : OV q0 l1 s1' := by
  unfold sti at h
  split at h
  · split at h
    · cases h; exact ho.set List.mem_cons_self mc1
    · cases h
  · cases h
theorem stl_ov {n k : Nat} (h : stl n k ls st = some (l1, s1')) (ho : OV q0 ls st) : OV q0 l1 s1' := by
  unfold stl at h
  split at h
  · split at h
    · cases h; exact ho.set List.mem_cons_self mc1
    · cases h
  · cases h
theorem sta_ov {n k : Nat} (h : sta n k ls st = some (l1, s1')) (ho : OV q0 ls st) : OV q0 l1 s1' := by
  unfold sta at h
  split at h
  · split at h
    · cases h; exact ho.set List.mem_cons_self mc1
    · cases h
  · cases h
set_option maxHeartbeats 4000000 in
theorem pureI_ov {nL : Nat} {i : Instr} {ex : List Nat} (h : pureI nL i ex ls st = some (l1, s1')) (ho : OV q0 ls st) : OV q0 l1 s1' := by
  unfold pureI at h
  split at h
  all_goals first
    | exact ldi_ov h ho
    | exact ldl_ov h ho
    | exact lda_ov h ho
    | exact sti_ov h ho
    | exact sta_ov h ho
    | exact stl_ov h ho
    | exact bin1_ov h ho
    | exact bin0_ov h ho
    | exact bin2_ov h ho
    | exact sh2_ov h ho
    | (cases h; exact ho.push ni (fun _ h => h))
    | (cases h; exact ho.push nl (fun _ h => h))
    | (cases h; exact ho.push (fun e => by cases e) (fun _ h => h))
    | (cases h; done)
    | (split at h
       · cases h; exact ho.push ni (fun _ h => h)
       · cases h)
    | (split at h
       · cases h; exact ho.push nl (fun _ h => h)
       · cases h)
    | (split at h
       · cases h; exact ho.push ni mc1
       · cases h)
    | (split at h
       · cases h; exact ho.push nl mc1
       · cases h)
    | (split at h
       · cases h; exact ho.push ni mc2
       · cases h)
    | (split at h
       · split at h
         · cases h; exact ho.push (ho.2 _ List.mem_cons_self) (fun _ h => h)
         · cases h
       · cases h)
    | (split at h
       · split at h
         · cases h; exact ho.sub mc1
         · cases h
       · cases h)
    | (split at h
       · split at h
         · cases h
           refine ⟨ho.1, fun x hx => ho.2 x ?_⟩
           rcases List.mem_cons.mp hx with rfl | hx
           · exact List.mem_cons_self
           · rcases List.mem_cons.mp hx with rfl | hx
             · exact List.mem_cons_of_mem _ List.mem_cons_self
             · exact hx
         · cases h
       · cases h)
    | (split at h
       · rename_i x hx
         split at h
         · cases h
           refine ⟨fun p hp => ?_, ho.2⟩
           rcases List.mem_cons.mp hp with rfl | hp
           · exact ni
           · exact ho.1 p (List.mem_filter.mp hp).1
         · cases h
       · cases h)
theorem ldA_ov {tag : Nat} {f : Nat → Nat → Value} {σ : Sg} {x : List Value × Sg} (h : ldA tag f st σ = some x) (hf : ∀ (q j n : Nat) (fs : List (Nat × Nat)), knd q = some (tag, n, fs) → j < n → ¬ f q j = .ref q0) (ho : OV q0 ls st) : OV q0 ls x.1 ∧ x.2 = σ := by
  unfold ldA at h
  split at h
  · rename_i i q r
    split at h
    · rename_i t n fs hk
      split at h
      · rename_i hc
        cases h
        obtain ⟨rfl, hi⟩ := hc
        have hl := inR_lo hi
        exact ⟨ho.push (hf q _ n fs hk (by show i.toInt.toNat < n; omega)) mc2, rfl⟩
      · cases h
    · cases h
  · cases h
variable {R : Sg → Sg → Prop}
theorem stA_ov {tag : Nat} {g : Int32 → Int32} {σ : Sg} {x : List Value × Sg} (r1 : ∀ σ, R σ σ) (w1 : ∀ σ q k y, ¬ q = q0 → R σ (s1 σ q k y)) (h : stA tag g st σ = some x) (ho : OV q0 ls st) : OV q0 ls x.1 ∧ R σ x.2 := by
  unfold stA at h
  split at h
  · rename_i y i q r
    split at h
    · split at h
      · cases h
        exact ⟨ho.sub mc3, w1 _ _ _ _ (fun e => ho.2 _ (List.mem_cons_of_mem _ (List.mem_cons_of_mem _ List.mem_cons_self)) (by rw [e]))⟩
      · cases h
    · cases h
  · cases h
theorem hp_ov {e : EN} {σ : Sg} {x : List Value × Sg} (hG : goodG q0 G = true) (hA : goodA q0 = true) (r1 : ∀ σ, R σ σ) (w1 : ∀ σ q k y, ¬ q = q0 → R σ (s1 σ q k y)) (w2 : ∀ σ q k y, ¬ q = q0 → R σ (s2 σ q k y)) (hc : ckV G e = true) (h : hpI e.1 e.2.2 st σ = some x) (ho : OV q0 ls st) : OV q0 ls x.1 ∧ R σ x.2 := by
  have refs : ∀ (t : Nat), 5 ≤ t → ∀ (q j n : Nat) (fs : List (Nat × Nat)), knd q = some (t, n, fs) → j < n → ¬ Value.ref (tg q j) = .ref q0 := by
    intro t ht q j n fs hk hj he
    have hl := knd_lt2 hk
    have := List.all_eq_true.mp hA q (List.mem_range.mpr hl)
    rw [hk] at this
    simp only [Bool.or_eq_true] at this
    rcases this with g | g
    · have := Nat.le_of_ble_eq_true g; omega
    · have g2 := List.all_eq_true.mp g j (List.mem_range.mpr hj)
      cases he
      simp at g2
  have ld : ∀ {y : List Value × Sg}, OV q0 ls y.1 ∧ y.2 = σ → OV q0 ls y.1 ∧ R σ y.2 := fun h => ⟨h.1, by rw [h.2]; exact r1 σ⟩
  obtain ⟨i, ln, ex⟩ := e
  simp only at h hc
  unfold hpI at h
  split at h
  · unfold getF at h
    split at h
    · rename_i q r ci k r2
      split at h
      · rename_i c fs hk
        split at h
        · rename_i hcc
          subst hcc
          obtain ⟨f, hf, he⟩ := Option.map_eq_some_iff.mp h
          cases he
          refine ⟨ho.push ?_ mc1, r1 σ⟩
          have hl := knd_lt2 hk
          have hc2 : G.any (fun p => Nat.beq p.1 c && Nat.beq p.2 k) = true := hc
          obtain ⟨p, hp, hpe⟩ := List.any_eq_true.mp hc2
          rw [Bool.and_eq_true] at hpe
          have e1 := Nat.eq_of_beq_eq_true hpe.1
          have e2 := Nat.eq_of_beq_eq_true hpe.2
          have hg := List.all_eq_true.mp (List.all_eq_true.mp hG p hp) q (List.mem_range.mpr hl)
          rw [hk] at hg
          simp only at hg
          rw [e1, e2, hf] at hg
          have hb : Nat.beq c c = true := Nat.beq_refl c
          rw [hb] at hg
          simp only [Bool.not_true, Bool.false_or, Bool.or_eq_true, Bool.and_eq_true] at hg
          unfold fV
          rcases hg with g | ⟨g1, g2⟩
          · have := Nat.le_of_ble_eq_true g
            have h01 : f.1 = 0 ∨ f.1 = 1 := by omega
            rcases h01 with z | z
            · rw [z]; exact ni
            · rw [z]; exact ni
          · have z := Nat.eq_of_beq_eq_true g1
            rw [z]
            intro he
            cases he
            simp at g2
        · cases h
      · cases h
    · cases h
  · unfold putF at h
    split at h
    · rename_i v q r ci k r2
      split at h
      · split at h
        · obtain ⟨f, hf, he⟩ := Option.bind_eq_some_iff.mp h
          obtain ⟨σ1, hp, he2⟩ := Option.map_eq_some_iff.mp he
          cases he2
          have hq : ¬ q = q0 := fun e => ho.2 _ (List.mem_cons_of_mem _ List.mem_cons_self) (by rw [e])
          refine ⟨ho.sub mc2, ?_⟩
          unfold putV at hp
          split at hp
          · cases hp; exact w1 _ _ _ _ hq
          · split at hp
            · cases hp; exact w1 _ _ _ _ hq
            · cases hp
          · cases hp; exact w1 _ _ _ _ hq
          · split at hp
            · cases hp; exact w1 _ _ _ _ hq
            · cases hp
          · cases hp
        · cases h
      · cases h
    · cases h
  · exact ld (ldA_ov h (fun _ _ _ _ _ _ => ni) ho)
  · rcases Option.or_eq_some_iff.mp h with h | ⟨-, h⟩
    · exact ld (ldA_ov h (fun _ _ _ _ _ _ => ni) ho)
    · exact ld (ldA_ov h (fun _ _ _ _ _ _ => ni) ho)
  · exact ld (ldA_ov h (fun _ _ _ _ _ _ => nl) ho)
  · rcases Option.or_eq_some_iff.mp h with h | ⟨-, h⟩
    · rcases Option.or_eq_some_iff.mp h with h | ⟨-, h⟩
      · exact ld (ldA_ov h (refs 5 (by omega)) ho)
      · exact ld (ldA_ov h (refs 6 (by omega)) ho)
    · exact ld (ldA_ov h (refs 7 (by omega)) ho)
  · exact stA_ov r1 w1 h ho
  · rcases Option.or_eq_some_iff.mp h with h | ⟨-, h⟩
    · exact stA_ov r1 w1 h ho
    · exact stA_ov r1 w1 h ho
  · split at h
    · rename_i y i q r
      split at h
      · split at h
        · cases h
          exact ⟨ho.sub mc3, w2 _ _ _ _ (fun e => ho.2 _ (List.mem_cons_of_mem _ (List.mem_cons_of_mem _ List.mem_cons_self)) (by rw [e]))⟩
        · cases h
      · cases h
    · cases h
  · split at h
    · split at h
      · split at h
        · cases h; exact ⟨ho.push ni mc1, r1 σ⟩
        · cases h
      · cases h
    · cases h
  · cases h
theorem un0_sub {f : Int32 → Bool} {off : Int} {y : Bool × Int × List Value} (h : un0 f off st = some y) : ∀ x ∈ y.2.2, x ∈ st := by
  unfold un0 at h
  split at h
  · cases h; exact mc1
  · cases h
theorem un2_sub {f : Int32 → Int32 → Bool} {off : Int} {y : Bool × Int × List Value} (h : un2 f off st = some y) : ∀ x ∈ y.2.2, x ∈ st := by
  unfold un2 at h
  split at h
  · cases h; exact mc2
  · cases h
theorem br_sub {i : Instr} {y : Bool × Int × List Value} (h : brI i st = some y) : ∀ x ∈ y.2.2, x ∈ st := by
  unfold brI at h
  split at h
  all_goals first
    | exact un0_sub h
    | exact un2_sub h
    | (cases h; done)
    | (cases h; exact fun x hx => hx)
    | skip
  · split at h
    · split at h
      · split at h
        · cases h; exact mc2
        · cases h
      · cases h
    · cases h
  · split at h
    · split at h
      · cases h; exact mc1
      · obtain ⟨o, ho, he⟩ := Option.map_eq_some_iff.mp h
        cases he; exact mc1
    · cases h
  · split at h
    · split at h
      · cases h; exact mc1
      · cases h
    · cases h
theorem ca_sub {i : Instr} {ex : List Nat} {mj : Nat} {av rest : List Value} (h : caI i ex st = some (mj, av, rest)) : (∀ x ∈ av, x ∈ st) ∧ ∀ x ∈ rest, x ∈ st := by
  unfold caI at h
  split at h
  · split at h
    · rename_i mj' n ci r0
      split at h
      · rename_i b rest' hd
        split at h
        · split at h
          · cases h
            have hin : ∀ x ∈ Value.ref b :: rest, x ∈ st := fun x hx => List.mem_of_mem_drop (by rw [hd]; exact hx)
            refine ⟨fun x hx => ?_, fun x hx => hin x (List.mem_cons_of_mem _ hx)⟩
            rcases List.mem_cons.mp hx with rfl | hx
            · exact hin _ List.mem_cons_self
            · exact List.mem_of_mem_take (List.mem_reverse.mp hx)
          · cases h
        · cases h
      · cases h
    · cases h
  · split at h
    · split at h
      · cases h
        exact ⟨fun x hx => List.mem_of_mem_take (List.mem_reverse.mp hx), fun x hx => List.mem_of_mem_drop hx⟩
      · cases h
    · cases h
  · cases h
end Vi
theorem args_mem : ∀ (av : List Value) (k : Nat), ∀ p ∈ lv_args k av, p.2 ∈ av := by
  intro av
  induction av with
  | nil => intro k p hp; cases hp
  | cons v av ih =>
    intro k p hp
    unfold lv_args at hp
    rcases List.mem_cons.mp hp with rfl | hp
    · exact List.mem_cons_self
    · exact List.mem_cons_of_mem _ (ih _ p hp)
theorem ret_ok {q0 : Nat} {r : Option FieldType} {v : Option Value} (h : retOK r v = true) : ∀ x ∈ v.toList, ¬ x = .ref q0 := by
  intro x hx
  cases v with
  | none => cases hx
  | some y =>
    have hxy : x = y := by simpa using hx
    subst hxy
    intro e
    subst e
    unfold retOK at h
    split at h <;> first | (rename_i h2; cases h2; done) | cases h
theorem run_vinv {P : List MI} {S X : List Nat} {q0 : Nat} {G : List (Nat × Nat)} {R : Sg → Sg → Prop} (hG : goodG q0 G = true) (hA : goodA q0 = true) (r1 : ∀ σ, R σ σ) (r2 : ∀ σ σ1 σ2, R σ σ1 → R σ1 σ2 → R σ σ2) (w1 : ∀ σ q k y, ¬ q = q0 → R σ (s1 σ q k y)) (w2 : ∀ σ q k y, ¬ q = q0 → R σ (s2 σ q k y)) (hX : ∀ mj ∈ X, ∀ (n d : Nat) (ls : Lcl) (σ : Sg) (v : Option Value) (σ' : Sg), run P n d mj 0 ls [] σ = some (v, σ') → R σ σ') (hS : S.all (fun mi => match P[mi]? with
  | some M => M.2.2.2.2.all (fun p => clI (S ++ X) p.2 && ckV G p.2)
  | none => true) = true) : ∀ (n d mi pc : Nat) (ls : Lcl) (st : List Value) (σ : Sg) (v : Option Value) (σ' : Sg), mi ∈ S → OV q0 ls st → run P n d mi pc ls st σ = some (v, σ') → R σ σ' := by
  intro n
  induction n with
  | zero => intro d mi pc ls st σ v σ' _ _ h; cases h
  | succ n ih =>
    intro d mi pc ls st σ v σ' hmi ho h
    unfold run at h
    have hm := List.all_eq_true.mp hS mi hmi
    cases hM : P[mi]? with
    | none => rw [hM] at h; cases h
    | some M =>
      rw [hM] at hm
      simp only [hM] at h
      cases hen : M.2.2.2.2.lookup pc with
      | none => rw [hen] at h; cases h
      | some en =>
        simp only [hen] at h
        have hn2 := List.all_eq_true.mp hm _ (lookup_mem hen)
        simp only [Bool.and_eq_true] at hn2
        obtain ⟨hcl, hcke⟩ := hn2
        cases hs : stp M.2.2.1 M.2.2.2.1 pc en ls st σ with
        | none => rw [hs] at h; cases h
        | some r =>
          rw [hs] at h
          rcases r with r | x | r
          · simp only at h
            have e2 : OV q0 r.2.1 r.2.2.1 ∧ R σ r.2.2.2 := by
              unfold stp at hs
              split at hs
              · rename_i hp
                cases hs
                exact ⟨pureI_ov hp ho, r1 _⟩
              · split at hs
                · rename_i hp
                  cases hs
                  exact hp_ov hG hA r1 w1 w2 hcke hp ho
                · split at hs
                  · rename_i hp
                    split at hs
                    · cases hs; exact ⟨ho.sub (br_sub hp), r1 _⟩
                    · cases hs
                  · split at hs
                    · cases hs
                    · split at hs <;> cases hs
            exact r2 _ _ _ e2.2 (ih _ _ _ _ _ _ _ _ hmi e2.1 h)
          · simp only at h
            cases h; exact r1 _
          · simp only at h
            have hmj : r.1 ∈ S ++ X ∧ (∀ x ∈ r.2.1, x ∈ st) ∧ ∀ x ∈ r.2.2, x ∈ st := by
              unfold stp at hs
              split at hs
              · cases hs
              · split at hs
                · cases hs
                · split at hs
                  · split at hs <;> cases hs
                  · split at hs
                    · rename_i hp
                      cases hs
                      exact ⟨ca_cl hcl hp, ca_sub hp⟩
                    · split at hs <;> cases hs
            cases d with
            | zero => cases h
            | succ d1 =>
              simp only at h
              cases hv : mm r.1 r.2.1 with
              | some w =>
                simp only [hv] at h
                refine ih _ _ _ _ _ _ _ _ hmi ?_ h
                have hw : ¬ w = .ref q0 := by
                  unfold mm at hv
                  split at hv
                  · split at hv
                    · cases hv; exact ni
                    · split at hv
                      · cases hv; exact ni
                      · cases hv
                  · cases hv
                exact ho.push hw hmj.2.2
              | none =>
                simp only [hv] at h
                cases hMj : P[r.1]? with
                | none => rw [hMj] at h; cases h
                | some Mj =>
                  simp only [hMj] at h
                  split at h
                  · cases hc : run P n d1 r.1 0 (lv_args 0 r.2.1) [] σ with
                    | none => rw [hc] at h; cases h
                    | some y =>
                      rw [hc] at h
                      obtain ⟨w, σ1⟩ := y
                      have hret := ret_ok (q0 := q0) (run_ret _ _ _ _ _ _ _ _ _ _ hMj hc)
                      have hR1 : R σ σ1 := by
                        rcases List.mem_append.mp hmj.1 with g | g
                        · exact ih _ _ _ _ _ _ _ _ g ⟨fun p hp => ho.2 _ (hmj.2.1 _ (args_mem _ _ p hp)), fun _ h => absurd h List.not_mem_nil⟩ hc
                        · exact hX _ g _ _ _ _ _ _ hc
                      refine r2 _ _ _ hR1 (ih _ _ _ _ _ _ _ _ hmi ⟨ho.1, fun x hx => ?_⟩ h)
                      rcases List.mem_append.mp hx with hx | hx
                      · exact hret x hx
                      · exact ho.2 x (hmj.2.2 x hx)
                  · cases h
def viS (P : List MI) (S X : List Nat) (G : List (Nat × Nat)) : Bool := S.all (fun mi => match P[mi]? with
  | some M => M.2.2.2.2.all (fun p => clI (S ++ X) p.2 && ckV G p.2)
  | none => true)
/-- the whole cell; its longs -/
def cellR (q0 : Nat) (σ σ' : Sg) : Prop := (∀ j, σ'.1 q0 j = σ.1 q0 j) ∧ ∀ j, σ'.2 q0 j = σ.2 q0 j
def longR (q0 : Nat) (σ σ' : Sg) : Prop := ∀ j, σ'.2 q0 j = σ.2 q0 j
theorem run_cell {P : List MI} {S : List Nat} {q0 : Nat} {G : List (Nat × Nat)} (hG : goodG q0 G = true) (hA : goodA q0 = true) (hS : viS P S [] G = true) {n d mi : Nat} {av : List Value} {σ σ' : Sg} {v : Option Value} (hmi : mi ∈ S) (hav : ∀ x ∈ av, ¬ x = .ref q0) (h : run P n d mi 0 (lv_args 0 av) [] σ = some (v, σ')) : cellR q0 σ σ' :=
  run_vinv (R := cellR q0) hG hA (fun _ => ⟨fun _ => rfl, fun _ => rfl⟩) (fun _ _ _ a b => ⟨fun j => (b.1 j).trans (a.1 j), fun j => (b.2 j).trans (a.2 j)⟩) (fun σ q k y hq => ⟨fun j => s1_off (fun e => hq e.1.symm), fun _ => rfl⟩) (fun σ q k y hq => ⟨fun _ => rfl, fun j => if_neg (fun e => hq e.1.symm)⟩) (fun _ h => absurd h List.not_mem_nil) hS _ _ _ _ _ _ _ _ _ hmi ⟨fun p hp => hav _ (args_mem _ _ p hp), fun _ h => absurd h List.not_mem_nil⟩ h
theorem run_long {P : List MI} {S X : List Nat} {q0 : Nat} {G : List (Nat × Nat)} (hG : goodG q0 G = true) (hA : goodA q0 = true) (hX : nlS P X = true) (hS : viS P S X G = true) {n d mi : Nat} {av : List Value} {σ σ' : Sg} {v : Option Value} (hmi : mi ∈ S) (hav : ∀ x ∈ av, ¬ x = .ref q0) (h : run P n d mi 0 (lv_args 0 av) [] σ = some (v, σ')) : longR q0 σ σ' :=
  run_vinv (R := longR q0) hG hA (fun _ _ => rfl) (fun _ _ _ a b j => (b j).trans (a j)) (fun σ q k y hq j => rfl) (fun σ q k y hq j => if_neg (fun e => hq e.1.symm)) (fun mj hmj n d ls σ v σ' hr j => by
    have := run_inv (R := fun σ σ' => σ'.2 = σ.2) (ck := nlI) (fun _ => rfl) (fun _ _ _ a b => b.trans a) nl_ok hX n d mj 0 ls [] σ v σ' hmj hr
    rw [this]) hS _ _ _ _ _ _ _ _ _ hmi ⟨fun p hp => hav _ (args_mem _ _ p hp), fun _ h => absurd h List.not_mem_nil⟩ h
theorem RCx.cell {S : List Nat} {q0 : Nat} {G : List (Nat × Nat)} (hG : goodG q0 G = true) (hA : goodA q0 = true) (hS : viS PRG S [] G = true) {n mi : Nat} {av : List Value} {σ σ' : Sg} {v : Option Value} (hmi : S.contains mi = true) (hav : ∀ x ∈ av, ¬ x = .ref q0) (h : RCx PRG n mi av σ v σ') : cellR q0 σ σ' := by
  obtain ⟨m, d, -, hr⟩ := h
  exact run_cell hG hA hS (by simpa using hmi) hav hr
theorem RCx.long {S X : List Nat} {q0 : Nat} {G : List (Nat × Nat)} (hG : goodG q0 G = true) (hA : goodA q0 = true) (hX : nlS PRG X = true) (hS : viS PRG S X G = true) {n mi : Nat} {av : List Value} {σ σ' : Sg} {v : Option Value} (hmi : S.contains mi = true) (hav : ∀ x ∈ av, ¬ x = .ref q0) (h : RCx PRG n mi av σ v σ') : longR q0 σ σ' := by
  obtain ⟨m, d, -, hr⟩ := h
  exact run_long hG hA hX hS (by simpa using hmi) hav hr
theorem Ok.cell {S : List Nat} {q0 : Nat} {G : List (Nat × Nat)} (hG : goodG q0 G = true) (hA : goodA q0 = true) (hS : viS PRG S [] G = true) {d mi : Nat} {av : List Value} {σ : Sg} {Q : Option Value → Sg → Prop} (hmi : S.contains mi = true) (hav : ∀ x ∈ av, ¬ x = .ref q0) (h : Ok PRG d mi av σ Q) : Ok PRG d mi av σ (fun v σ' => cellR q0 σ σ' ∧ Q v σ') := by
  obtain ⟨M, h1, h2, n, v, σ1, h3, h4⟩ := h
  exact ⟨M, h1, h2, n, v, σ1, h3, run_cell hG hA hS (by simpa using hmi) hav h3, h4⟩
theorem Ok.longC {S X : List Nat} {q0 : Nat} {G : List (Nat × Nat)} (hG : goodG q0 G = true) (hA : goodA q0 = true) (hX : nlS PRG X = true) (hS : viS PRG S X G = true) {d mi : Nat} {av : List Value} {σ : Sg} {Q : Option Value → Sg → Prop} (hmi : S.contains mi = true) (hav : ∀ x ∈ av, ¬ x = .ref q0) (h : Ok PRG d mi av σ Q) : Ok PRG d mi av σ (fun v σ' => longR q0 σ σ' ∧ Q v σ') := by
  obtain ⟨M, h1, h2, n, v, σ1, h3, h4⟩ := h
  exact ⟨M, h1, h2, n, v, σ1, h3, run_long hG hA hX hS (by simpa using hmi) hav h3, h4⟩
