/-! partial runs: what must hold of a run that ends; locals that are live are enough -/
section Live
theorem lk_filter_nd {p : Nat × Value → Bool} {k : Nat} : ∀ {l : Lcl}, ndL l → (l.filter p).lookup k = (l.lookup k).filter (fun w => p (k, w)) := by
  intro l
  induction l with
  | nil => intro _; rfl
  | cons q l ih =>
    intro hn
    unfold ndL at hn
    rw [List.map_cons, List.nodup_cons] at hn
    have ih' := ih hn.2
    by_cases e : k = q.1
    · have e2 : (k == q.1) = true := by simpa using e
      have eq : (k, q.2) = q := by rw [e]
      rw [List.lookup_cons, e2, List.filter_cons]
      by_cases hp : p q = true
      · rw [if_pos hp, List.lookup_cons, e2]
        simp only [Option.filter, eq, hp, if_true]
      · rw [if_neg hp, ih']
        have : l.lookup k = none := by
          cases hl : l.lookup k with
          | none => rfl
          | some w => exact absurd (List.mem_map.mpr ⟨(k, w), lk_mem hl, e⟩) hn.1
        rw [this]
        simp only [Option.filter, eq, hp, if_false]
        rfl
    · have e2 : (k == q.1) = false := by simpa using e
      rw [List.lookup_cons, e2, List.filter_cons]
      split
      · rw [List.lookup_cons, e2]; exact ih'
      · exact ih'
def agr (A : List Nat) (l l' : Lcl) : Prop := ndL l ∧ ndL l' ∧ ∀ k ∈ A, l.lookup k = l'.lookup k
theorem agr_set {A : List Nat} {l l' : Lcl} {i : Nat} {v : Value} {p : Nat × Value → Bool} (hp : ∀ w, p (i, w) = false) (h : agr A l l') : agr (i :: A) ((i, v) :: l.filter p) ((i, v) :: l'.filter p) := by
  have hd : ∀ {l : Lcl}, ndL l → ndL ((i, v) :: l.filter p) := by
    intro l hn
    unfold ndL
    rw [List.map_cons, List.nodup_cons]
    refine ⟨fun h => ?_, nd_filter hn⟩
    obtain ⟨q, h1, h2⟩ := List.mem_map.mp h
    rw [List.mem_filter] at h1
    have e : q = (i, q.2) := Prod.ext h2 rfl
    rw [e, hp] at h1
    exact absurd h1.2 (by decide)
  refine ⟨hd h.1, hd h.2.1, fun k hk => ?_⟩
  rw [List.lookup_cons, List.lookup_cons]
  by_cases e : k = i
  · have e2 : (k == i) = true := by simpa using e
    rw [e2]
  · have e2 : (k == i) = false := by simpa using e
    rw [e2]
    have hk' : k ∈ A := by
      rcases List.mem_cons.mp hk with h | h
      · exact absurd h e
      · exact h
    show (l.filter p).lookup k = (l'.filter p).lookup k
    rw [lk_filter_nd h.1, lk_filter_nd h.2.1, h.2.2 k hk']
theorem agr_set1 {A : List Nat} {l l' : Lcl} {i : Nat} {v : Value} (h : agr A l l') : agr (i :: A) (set1 i v l) (set1 i v l') := agr_set (fun w => by simp) h
theorem agr_set2 {A : List Nat} {l l' : Lcl} {i : Nat} {v : Value} (h : agr A l l') : agr (i :: A) (set2 i v l) (set2 i v l') := agr_set (fun w => by simp) h
def useI (i : Instr) : List Nat := match i with
  | .iload_n k => [(k : Nat)]
  | .iload k => [k]
  | .lload_n k => [(k : Nat)]
  | .lload k => [k]
  | .aload_n k => [(k : Nat)]
  | .aload k => [k]
  | .iinc k _ => [k]
  | _ => []
def defI (i : Instr) : List Nat := match i with
  | .istore_n k => [(k : Nat)]
  | .istore k => [k]
  | .lstore_n k => [(k : Nat)]
  | .lstore k => [k]
  | .astore_n k => [(k : Nat)]
  | .astore k => [k]
  | .iinc k _ => [k]
  | _ => []
def sucI (pc : Nat) (en : EN) : List Nat := match en.1 with
  | .ifCond _ off => [((pc : Int) + off).toNat, pc + 3]
  | .if_icmp _ off => [((pc : Int) + off).toNat, pc + 3]
  | .if_acmp _ off => [((pc : Int) + off).toNat, pc + 3]
  | .goto off => [((pc : Int) + off).toNat]
  | .tableswitch dflt _ _ offs => ((pc : Int) + dflt).toNat :: offs.toList.map (fun o => ((pc : Int) + o).toNat)
  | .invokevirtual _ => [pc + 3]
  | .invokestatic _ => [pc + 3]
  | .ireturn => []
  | .lreturn => []
  | .return_ => []
  | _ => [pc + en.2.1]
def notLs (i : Instr) : Bool := match i with
  | .lookupswitch _ _ => false
  | _ => true
def lvA (A : List (Nat × List Nat)) (pc : Nat) : List Nat := (A.lookup pc).getD []
def okLv (A : List (Nat × List Nat)) (p : Nat × EN) : Bool := notLs p.2.1 && (useI p.2.1).all (fun k => (lvA A p.1).contains k) && (sucI p.1 p.2).all (fun s => (lvA A s).all (fun k => (defI p.2.1 ++ lvA A p.1).contains k))
def chkLv (M : MI) (A : List (Nat × List Nat)) : Bool := M.2.2.2.2.all (okLv A)
variable {l l' l1 : Lcl} {st s1 : List Value} {A : List Nat}
theorem ldi_agr {k : Nat} (h : ldi k l st = some (l1, s1)) (ha : agr A l l') (hu : k ∈ A) : ∃ l1', ldi k l' st = some (l1', s1) ∧ agr A l1 l1' := by
  unfold ldi at h
  split at h
  · rename_i x hx
    cases h
    exact ⟨l', by unfold ldi; rw [← ha.2.2 k hu, hx], ha⟩
  · cases h
theorem ldl_agr {k : Nat} (h : ldl k l st = some (l1, s1)) (ha : agr A l l') (hu : k ∈ A) : ∃ l1', ldl k l' st = some (l1', s1) ∧ agr A l1 l1' := by
  unfold ldl at h
  split at h
  · rename_i x hx
    cases h
    exact ⟨l', by unfold ldl; rw [← ha.2.2 k hu, hx], ha⟩
  · cases h
theorem lda_agr {k : Nat} (h : lda k l st = some (l1, s1)) (ha : agr A l l') (hu : k ∈ A) : ∃ l1', lda k l' st = some (l1', s1) ∧ agr A l1 l1' := by
  unfold lda at h
  split at h
  · rename_i x hx
    cases h
    exact ⟨l', by unfold lda; rw [← ha.2.2 k hu, hx], ha⟩
  · cases h
theorem sti_agr {n k : Nat} (h : sti n k l st = some (l1, s1)) (ha : agr A l l') : ∃ l1', sti n k l' st = some (l1', s1) ∧ agr (k :: A) l1 l1' := by
  unfold sti at h
  split at h
  · split at h
    · rename_i hk
      cases h
      exact ⟨_, by unfold sti; simp only [hk, if_true], agr_set1 ha⟩
    · cases h
  · cases h
theorem sta_agr {n k : Nat} (h : sta n k l st = some (l1, s1)) (ha : agr A l l') : ∃ l1', sta n k l' st = some (l1', s1) ∧ agr (k :: A) l1 l1' := by
  unfold sta at h
  split at h
  · split at h
    · rename_i hk
      cases h
      exact ⟨_, by unfold sta; simp only [hk, if_true], agr_set1 ha⟩
    · cases h
  · cases h
theorem stl_agr {n k : Nat} (h : stl n k l st = some (l1, s1)) (ha : agr A l l') : ∃ l1', stl n k l' st = some (l1', s1) ∧ agr (k :: A) l1 l1' := by
  unfold stl at h
  split at h
  · split at h
    · rename_i hk
      cases h
      exact ⟨_, by unfold stl; simp only [hk, if_true], agr_set2 ha⟩
    · cases h
  · cases h
theorem bin1_agr {f : Int32 → Int32 → Int32} (h : bin1 f l st = some (l1, s1)) (ha : agr A l l') : ∃ l1', bin1 f l' st = some (l1', s1) ∧ agr A l1 l1' := by
  unfold bin1 at h
  split at h
  · cases h; exact ⟨l', rfl, ha⟩
  · cases h
theorem bin0_agr {f : Int32 → Int32 → Int32} (h : bin0 f l st = some (l1, s1)) (ha : agr A l l') : ∃ l1', bin0 f l' st = some (l1', s1) ∧ agr A l1 l1' := by
  unfold bin0 at h
  split at h
  · split at h
    · cases h
    · rename_i hy; cases h; exact ⟨l', by unfold bin0; simp only [hy, if_false], ha⟩
  · cases h
theorem bin2_agr {f : Int64 → Int64 → Int64} (h : bin2 f l st = some (l1, s1)) (ha : agr A l l') : ∃ l1', bin2 f l' st = some (l1', s1) ∧ agr A l1 l1' := by
  unfold bin2 at h
  split at h
  · cases h; exact ⟨l', rfl, ha⟩
  · cases h
theorem sh2_agr {f : Int64 → Int32 → Int64} (h : sh2 f l st = some (l1, s1)) (ha : agr A l l') : ∃ l1', sh2 f l' st = some (l1', s1) ∧ agr A l1 l1' := by
  unfold sh2 at h
  split at h
  · cases h; exact ⟨l', rfl, ha⟩
  · cases h
set_option maxHeartbeats 4000000 in
theorem pureI_agr {nL : Nat} {i : Instr} {ex : List Nat} (h : pureI nL i ex l st = some (l1, s1)) (ha : agr A l l') (hu : ∀ k ∈ useI i, k ∈ A) : ∃ l1', pureI nL i ex l' st = some (l1', s1) ∧ agr (defI i ++ A) l1 l1' := by
  unfold pureI at h
  split at h
  all_goals first
    | exact ldi_agr h ha (hu _ List.mem_cons_self)
    | exact ldl_agr h ha (hu _ List.mem_cons_self)
    | exact lda_agr h ha (hu _ List.mem_cons_self)
    | exact sti_agr h ha
    | exact sta_agr h ha
    | exact stl_agr h ha
    | exact bin1_agr h ha
    | exact bin0_agr h ha
    | exact bin2_agr h ha
    | exact sh2_agr h ha
    | (cases h; exact ⟨l', rfl, ha⟩)
    | (cases h; done)
    | (split at h
       · cases h; exact ⟨l', rfl, ha⟩
       · cases h)
    | (split at h
       · split at h
         · rename_i hc; cases h; exact ⟨l', by simp only [pureI, hc, if_true, and_self], ha⟩
         · cases h
       · cases h)
    | (split at h
       · rename_i x hx
         split at h
         · rename_i hc; cases h; exact ⟨_, by simp only [pureI, ← ha.2.2 _ (hu _ List.mem_cons_self), hx, hc, if_true], agr_set1 ha⟩
         · cases h
       · cases h)
theorem pure_suc {nL pc : Nat} {en : EN} (h : pureI nL en.1 en.2.2 l st = some (l1, s1)) : pc + en.2.1 ∈ sucI pc en := by
  obtain ⟨i, ln, ex⟩ := en
  simp only at h
  unfold pureI at h
  split at h <;> first | exact List.mem_cons_self | cases h
theorem hp_suc {pc : Nat} {en : EN} {σ : Sg} {x : List Value × Sg} (h : hpI en.1 en.2.2 st σ = some x) : pc + en.2.1 ∈ sucI pc en := by
  obtain ⟨i, ln, ex⟩ := en
  simp only at h
  unfold hpI at h
  split at h <;> first | exact List.mem_cons_self | cases h
theorem ca_suc {pc mj : Nat} {en : EN} {av rest : List Value} (h : caI en.1 en.2.2 st = some (mj, av, rest)) : pc + 3 ∈ sucI pc en := by
  obtain ⟨i, ln, ex⟩ := en
  simp only at h
  unfold caI at h
  split at h <;> first | exact List.mem_cons_self | cases h
theorem br_suc {pc : Nat} {en : EN} {b : Bool} {off : Int} {r : List Value} (hl : notLs en.1 = true) (h : brI en.1 st = some (b, off, r)) : (if b then ((pc : Int) + off).toNat else pc + 3) ∈ sucI pc en := by
  obtain ⟨i, ln, ex⟩ := en
  simp only at h hl
  have two : ∀ (b : Bool) (x y : Nat), (if b then x else y) ∈ [x, y] := by
    intro b x y
    cases b
    · exact List.mem_cons_of_mem _ List.mem_cons_self
    · exact List.mem_cons_self
  have hu0 : ∀ {f : Int32 → Bool} {o : Int}, un0 f o st = some (b, off, r) → off = o := by
    intro f o h
    unfold un0 at h
    split at h
    · cases h; rfl
    · cases h
  have hu2 : ∀ {f : Int32 → Int32 → Bool} {o : Int}, un2 f o st = some (b, off, r) → off = o := by
    intro f o h
    unfold un2 at h
    split at h
    · cases h; rfl
    · cases h
  unfold brI at h
  split at h
  all_goals first
    | (rw [hu0 h]; exact two _ _ _)
    | (rw [hu2 h]; exact two _ _ _)
    | (cases h; done)
    | (cases h; exact List.mem_cons_self)
    | (cases hl; done)
    | skip
  · split at h
    · split at h
      · split at h
        · cases h; exact two _ _ _
        · cases h
      · cases h
    · cases h
  · split at h
    · split at h
      · cases h
        exact List.mem_cons_self
      · obtain ⟨o, ho, he⟩ := Option.map_eq_some_iff.mp h
        cases he
        refine List.mem_cons_of_mem _ (List.mem_map.mpr ⟨_, ?_, rfl⟩)
        exact Array.mem_toList_iff.mpr (Array.mem_of_getElem? ho)
    · cases h
theorem stp_agr {nL : Nat} {ret : Option FieldType} {pc : Nat} {en : EN} {σ : Sg} {r : StepR} (hl : notLs en.1 = true) (h : stp nL ret pc en l st σ = some r) (ha : agr A l l') (hu : ∀ k ∈ useI en.1, k ∈ A) : (∃ p l1 l1' s1 σ1, r = .inl (p, l1, s1, σ1) ∧ stp nL ret pc en l' st σ = some (.inl (p, l1', s1, σ1)) ∧ agr (defI en.1 ++ A) l1 l1' ∧ p ∈ sucI pc en) ∨ (∃ y, r = .inr y ∧ stp nL ret pc en l' st σ = some (.inr y)) ∧ (∀ z, r = .inr (.inr z) → pc + 3 ∈ sucI pc en) := by
  have hw : agr A l l' → agr (defI en.1 ++ A) l l' ∨ True := fun _ => Or.inr trivial
  unfold stp at h
  split at h
  · rename_i l1 s1 hp
    cases h
    obtain ⟨l1', h1, h2⟩ := pureI_agr hp ha hu
    refine Or.inl ⟨_, _, l1', _, _, rfl, ?_, h2, pure_suc hp⟩
    unfold stp; rw [h1]
  · rename_i hpn
    split at h
    · rename_i s1 σ1 hp
      cases h
      have hdef : defI en.1 = [] := by
        obtain ⟨i, ln, ex⟩ := en
        simp only at hp ⊢
        unfold hpI at hp
        split at hp <;> first | rfl | cases hp
      refine Or.inl ⟨_, _, l', _, _, rfl, ?_, ?_, hp_suc hp⟩
      · unfold stp; rw [hp_pure hp, hp]
      · rw [hdef]; exact ha
    · rename_i hh
      split at h
      · rename_i b off s1 hp
        split at h
        · rename_i hc
          cases h
          have hdef : defI en.1 = [] := by
            obtain ⟨i, ln, ex⟩ := en
            simp only at hp ⊢
            unfold brI at hp
            split at hp <;> first | rfl | cases hp
          refine Or.inl ⟨_, _, l', _, _, rfl, ?_, ?_, br_suc hl hp⟩
          · unfold stp; rw [br_pure hp]; simp only [hh, hp, hc, if_true]
          · rw [hdef]; exact ha
        · cases h
      · rename_i hb
        split at h
        · rename_i mj av rest hp
          cases h
          refine Or.inr ⟨⟨_, rfl, ?_⟩, fun z hz => ca_suc hp⟩
          unfold stp; rw [ca_pure hp]; simp only [hh, hb, hp]
        · rename_i hc
          split at h
          · rename_i v hp
            cases h
            refine Or.inr ⟨⟨_, rfl, ?_⟩, fun z hz => (by cases hz)⟩
            unfold stp; rw [rt_pure hp]; simp only [hh, hb, hc, hp]
          · cases h
end Live
theorem agr_mono {A B : List Nat} {l l' : Lcl} (h : agr A l l') (hs : ∀ k ∈ B, k ∈ A) : agr B l l' := ⟨h.1, h.2.1, fun k hk => h.2.2 k (hs k hk)⟩
theorem run_live {P : List MI} {mi : Nat} {M : MI} {A : List (Nat × List Nat)} (hM : P[mi]? = some M) (hA : chkLv M A = true) : ∀ (n d pc : Nat) (l l' : Lcl) (st : List Value) (σ : Sg) (x : Option Value × Sg), agr (lvA A pc) l l' → run P n d mi pc l st σ = some x → run P n d mi pc l' st σ = some x := by
  intro n
  induction n with
  | zero => intro d pc l l' st σ x _ h; cases h
  | succ n ih =>
    intro d pc l l' st σ x ha h
    unfold run at h ⊢
    simp only [hM] at h ⊢
    cases hen : M.2.2.2.2.lookup pc with
    | none => rw [hen] at h; cases h
    | some en =>
      simp only [hen] at h ⊢
      have hk := List.all_eq_true.mp hA _ (lookup_mem hen)
      unfold okLv at hk
      simp only [Bool.and_eq_true, List.all_eq_true] at hk
      obtain ⟨⟨k1, k2⟩, k3⟩ := hk
      have k2' : ∀ k ∈ useI en.1, k ∈ lvA A pc := fun k hk => by simpa using k2 k hk
      have k3' : ∀ s ∈ sucI pc en, ∀ k ∈ lvA A s, k ∈ defI en.1 ++ lvA A pc := fun s hs k hk => by
        have := k3 s hs k hk
        exact List.contains_iff_mem.mp this
      cases hst : stp M.2.2.1 M.2.2.2.1 pc en l st σ with
      | none => rw [hst] at h; cases h
      | some r =>
        rw [hst] at h
        rcases stp_agr k1 hst ha k2' with ⟨p, l1, l1', s1, σ1, rfl, h2, h3, h4⟩ | ⟨⟨y, rfl, h2⟩, h5⟩
        · rw [h2]
          exact ih _ _ _ _ _ _ _ (agr_mono h3 (k3' p h4)) h
        · rw [h2]
          rcases y with v | r
          · exact h
          · have h6 : agr (lvA A (pc + 3)) l l' := by
              have hdef : defI en.1 = [] := by
                unfold stp at hst
                split at hst
                · cases hst
                · split at hst
                  · cases hst
                  · split at hst
                    · split at hst <;> cases hst
                    · split at hst
                      · rename_i hp
                        obtain ⟨i, ln, ex⟩ := en
                        simp only at hp ⊢
                        unfold caI at hp
                        split at hp <;> first | rfl | cases hp
                      · split at hst <;> cases hst
              refine agr_mono ha (fun k hk => ?_)
              have := k3' _ (h5 r rfl) k hk
              rw [hdef] at this
              exact this
            cases d with
            | zero => cases h
            | succ d1 =>
              simp only at h ⊢
              cases hv : mm r.1 r.2.1 with
              | some v =>
                simp only [hv] at h ⊢
                exact ih _ _ _ _ _ _ _ h6 h
              | none =>
                simp only [hv] at h ⊢
                cases hMj : P[r.1]? with
                | none => rw [hMj] at h; cases h
                | some Mj =>
                  simp only [hMj] at h ⊢
                  split at h
                  · rename_i hlen
                    rw [if_pos hlen]
                    cases hc : run P n d1 r.1 0 (lv_args 0 r.2.1) [] σ with
                    | none => rw [hc] at h; cases h
                    | some y =>
                      rw [hc] at h
                      exact ih _ _ _ _ _ _ _ h6 h
                  · cases h
