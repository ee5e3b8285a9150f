/-! runs in which the reader does not write: the laws stay -/
def kT : List Bool → List Value → Prop
  | [], [] => True
  | b :: bs, v :: st => (b = true → v = .int 0) ∧ kT bs st
  | _, _ => False
def tT (e : EN) (bs : List Bool) : Option (List Bool) := match e.1 with
  | .iconst _ => some (false :: bs)
  | .bipush _ => some (false :: bs)
  | .sipush _ => some (false :: bs)
  | .lconst _ => some (false :: bs)
  | .ldc _ => some (false :: bs)
  | .ldc_w _ => some (false :: bs)
  | .ldc2_w _ => some (false :: bs)
  | .aconst_null => some (false :: bs)
  | .iload_n _ => some (false :: bs)
  | .iload _ => some (false :: bs)
  | .lload_n _ => some (false :: bs)
  | .lload _ => some (false :: bs)
  | .aload_n _ => some (false :: bs)
  | .aload _ => some (false :: bs)
  | .istore_n _ => some (bs.drop 1)
  | .istore _ => some (bs.drop 1)
  | .lstore_n _ => some (bs.drop 1)
  | .lstore _ => some (bs.drop 1)
  | .astore_n _ => some (bs.drop 1)
  | .astore _ => some (bs.drop 1)
  | .iinc _ _ => some bs
  | .iadd => some (false :: bs.drop 2)
  | .isub => some (false :: bs.drop 2)
  | .imul => some (false :: bs.drop 2)
  | .iand => some (false :: bs.drop 2)
  | .ior => some (false :: bs.drop 2)
  | .ixor => some (false :: bs.drop 2)
  | .idiv => some (false :: bs.drop 2)
  | .irem => some (false :: bs.drop 2)
  | .ishl => some (false :: bs.drop 2)
  | .ishr => some (false :: bs.drop 2)
  | .iushr => some (false :: bs.drop 2)
  | .ladd => some (false :: bs.drop 2)
  | .lsub => some (false :: bs.drop 2)
  | .lmul => some (false :: bs.drop 2)
  | .land => some (false :: bs.drop 2)
  | .lor => some (false :: bs.drop 2)
  | .lshl => some (false :: bs.drop 2)
  | .lushr => some (false :: bs.drop 2)
  | .lcmp => some (false :: bs.drop 2)
  | .ineg => some (false :: bs.drop 1)
  | .i2b => some (false :: bs.drop 1)
  | .i2l => some (false :: bs.drop 1)
  | .l2i => some (false :: bs.drop 1)
  | .dup => some (false :: false :: bs.drop 1)
  | .pop => some (bs.drop 1)
  | .pop2 => some (bs.drop 1)
  | .dup2 => some (false :: false :: false :: false :: bs.drop 2)
  | .getfield _ => match e.2.2 with
    | ci :: k :: _ => some ((Nat.beq ci 8 && Nat.beq k 3) :: bs.drop 1)
    | _ => none
  | .putfield _ => match e.2.2 with
    | ci :: k :: _ => if Nat.beq ci 5 || (Nat.beq ci 8 && Nat.beq k 3) then none else some (bs.drop 2)
    | _ => none
  | .iaload => some (false :: bs.drop 2)
  | .baload => some (false :: bs.drop 2)
  | .laload => some (false :: bs.drop 2)
  | .aaload => some (false :: bs.drop 2)
  | .lastore => some (bs.drop 3)
  | .arraylength => some (false :: bs.drop 1)
  | _ => none
section Wt
variable {bs bs' : List Bool} {st st' : List Value} {ls l1 : Lcl}
theorem kT_drop : ∀ (k : Nat) {bs : List Bool} {st : List Value}, kT bs st → kT (bs.drop k) (st.drop k) := by
  intro k
  induction k with
  | zero => intro bs st h; exact h
  | succ k ih =>
    intro bs st h
    cases bs with
    | nil => cases st with
      | nil => exact h
      | cons v st => exact absurd h (fun h => h)
    | cons b bs => cases st with
      | nil => exact absurd h (fun h => h)
      | cons v st => exact ih h.2
theorem kT.pu {v : Value} {k : Nat} (h : kT bs st) (e : some (false :: bs.drop k) = some bs') (hs : st.drop k = st') : kT bs' (v :: st') := by
  cases e
  subst hs
  exact ⟨fun e => (by cases e), kT_drop k h⟩
theorem kT.dr {k : Nat} (h : kT bs st) (e : some (bs.drop k) = some bs') (hs : st.drop k = st') : kT bs' st' := by
  cases e
  subst hs
  exact kT_drop k h
theorem bin1_T {f : Int32 → Int32 → Int32} (h : bin1 f ls st = some (l1, st')) (ho : kT bs st) (e : some (false :: bs.drop 2) = some bs') : kT bs' st' := by
  unfold bin1 at h
  split at h
  · cases h; exact ho.pu e rfl
  · cases h
theorem bin0_T {f : Int32 → Int32 → Int32} (h : bin0 f ls st = some (l1, st')) (ho : kT bs st) (e : some (false :: bs.drop 2) = some bs') : kT bs' st' := by
  unfold bin0 at h
  split at h
  · split at h
    · cases h
    · cases h; exact ho.pu e rfl
  · cases h
theorem bin2_T {f : Int64 → Int64 → Int64} (h : bin2 f ls st = some (l1, st')) (ho : kT bs st) (e : some (false :: bs.drop 2) = some bs') : kT bs' st' := by
  unfold bin2 at h
  split at h
  · cases h; exact ho.pu e rfl
  · cases h
theorem sh2_T {f : Int64 → Int32 → Int64} (h : sh2 f ls st = some (l1, st')) (ho : kT bs st) (e : some (false :: bs.drop 2) = some bs') : kT bs' st' := by
  unfold sh2 at h
  split at h
  · cases h; exact ho.pu e rfl
  · cases h
theorem ldi_T {k : Nat} (h : ldi k ls st = some (l1, st')) (ho : kT bs st) (e : some (false :: bs) = some bs') : kT bs' st' := by
  unfold ldi at h
  split at h
  · cases h; exact ho.pu (k := 0) e rfl
  · cases h
theorem ldl_T {k : Nat} (h : ldl k ls st = some (l1, st')) (ho : kT bs st) (e : some (false :: bs) = some bs') : kT bs' st' := by
  unfold ldl at h
  split at h
  · cases h; exact ho.pu (k := 0) e rfl
  · cases h
theorem lda_T {k : Nat} (h : lda k ls st = some (l1, st')) (ho : kT bs st) (e : some (false :: bs) = some bs') : kT bs' st' := by
  unfold lda at h
  split at h
  · cases h; exact ho.pu (k := 0) e rfl
  · cases h
theorem sti_T {n k : Nat} (h : sti n k ls st = some (l1, st')) (ho : kT bs st) (e : some (bs.drop 1) = some bs') : kT bs' st' := by
  unfold sti at h
  split at h
  · split at h
    · cases h; exact ho.dr e rfl
    · cases h
  · cases h
theorem stl_T {n k : Nat} (h : stl n k ls st = some (l1, st')) (ho : kT bs st) (e : some (bs.drop 1) = some bs') : kT bs' st' := by
  unfold stl at h
  split at h
  · split at h
    · cases h; exact ho.dr e rfl
    · cases h
  · cases h
theorem sta_T {n k : Nat} (h : sta n k ls st = some (l1, st')) (ho : kT bs st) (e : some (bs.drop 1) = some bs') : kT bs' st' := by
  unfold sta at h
  split at h
  · split at h
    · cases h; exact ho.dr e rfl
    · cases h
  · cases h
set_option maxHeartbeats 4000000 in
theorem pureI_T {nL ln : Nat} {i : Instr} {ex : List Nat} (h : pureI nL i ex ls st = some (l1, st')) (ho : kT bs st) (e : tT (i, ln, ex) bs = some bs') : kT bs' st' := by
  unfold pureI at h
  split at h
  all_goals first
    | exact ldi_T h ho e
    | exact ldl_T h ho e
    | exact lda_T h ho e
    | exact sti_T h ho e
    | exact sta_T h ho e
    | exact stl_T h ho e
    | exact bin1_T h ho e
    | exact bin0_T h ho e
    | exact bin2_T h ho e
    | exact sh2_T h ho e
    | (cases h; exact ho.pu (k := 0) e rfl)
    | (cases h; done)
    | (split at h
       · cases h; exact ho.pu (k := 0) e rfl
       · cases h)
    | (split at h
       · cases h; exact ho.pu (k := 1) e rfl
       · cases h)
    | (split at h
       · cases h; exact ho.pu (k := 2) e rfl
       · cases h)
    | (split at h
       · split at h
         · cases h; exact ho.dr (k := 1) e rfl
         · cases h
       · cases h)
    | (split at h
       · split at h
         · cases h
           cases (show some (false :: false :: bs.drop 1) = some bs' from e)
           exact ⟨fun e => (by cases e), fun e => (by cases e), kT_drop 1 ho⟩
         · cases h
       · cases h)
    | (split at h
       · split at h
         · cases h
           cases (show some (false :: false :: false :: false :: bs.drop 2) = some bs' from e)
           exact ⟨fun e => (by cases e), fun e => (by cases e), fun e => (by cases e), fun e => (by cases e), kT_drop 2 ho⟩
         · cases h
       · cases h)
    | (split at h
       · split at h
         · cases h
           cases (show some bs = some bs' from e); exact ho
         · cases h
       · cases h)
/-- the laws, and that nothing is written -/
def lawK (σ σ' : Sg) : Prop := (∀ q, 3 ≤ q → q < 12 → ∀ j, σ'.1 q j = σ.1 q j) ∧ σ'.1 15 3 = σ.1 15 3
theorem lawK.refl (σ : Sg) : lawK σ σ := ⟨fun _ _ _ _ => rfl, rfl⟩
theorem lawK.trans {σ σ1 σ2 : Sg} (h : lawK σ σ1) (h' : lawK σ1 σ2) : lawK σ σ2 := ⟨fun q a b j => (h'.1 q a b j).trans (h.1 q a b j), h'.2.trans h.2⟩
set_option maxRecDepth 100000 in
theorem cl8 : (List.range 158).all (fun q => match knd q with
  | some (0, c, fs) => (!(Nat.beq c 8) || (Nat.beq q 15 && (match fs[3]? with
    | some f => Nat.beq f.1 1
    | none => false))) && (!(Nat.beq c 5) || Nat.beq q 3) && (!(Nat.ble 4 q && Nat.blt q 12)) && (Nat.beq c 5 || !(Nat.beq q 3))
  | _ => true) = true := by decide +kernel
theorem hp_T {e : EN} {σ : Sg} {x : List Value × Sg} (h : hpI e.1 e.2.2 st σ = some x) (ho : kT bs st) (h0 : σ.1 15 3 = 0) (et : tT e bs = some bs') : kT bs' x.1 ∧ lawK σ x.2 := by
  have ldA_T : ∀ {tag : Nat} {f : Nat → Nat → Value} {x : List Value × Sg}, ldA tag f st σ = some x → some (false :: bs.drop 2) = some bs' → kT bs' x.1 ∧ lawK σ x.2 := by
    intro tag f x h e
    unfold ldA at h
    split at h
    · split at h
      · split at h
        · cases h; exact ⟨ho.pu e rfl, lawK.refl σ⟩
        · cases h
      · cases h
    · cases h
  obtain ⟨i, ln, ex⟩ := e
  simp only at h
  unfold hpI at h
  split at h
  · unfold getF at h
    split at h
    · rename_i q r ci k r2
      split at h
      · rename_i c fs hk
        split at h
        · rename_i hcc
          subst hcc
          obtain ⟨f, hf, he⟩ := Option.map_eq_some_iff.mp h
          cases he
          cases (show some ((Nat.beq c 8 && Nat.beq k 3) :: bs.drop 1) = some bs' from et)
          refine ⟨⟨fun hb => ?_, kT_drop 1 ho⟩, lawK.refl σ⟩
          rw [Bool.and_eq_true] at hb
          have e1 := Nat.eq_of_beq_eq_true hb.1
          have e2 := Nat.eq_of_beq_eq_true hb.2
          subst e1; subst e2
          have hl := List.all_eq_true.mp cl8 q (List.mem_range.mpr (knd_lt2 hk))
          rw [hk] at hl
          simp only [Bool.and_eq_true, Bool.or_eq_true] at hl
          obtain ⟨⟨⟨hl, -⟩, -⟩, -⟩ := hl
          rcases hl with hl | hl
          · simp at hl
          · have eq := Nat.eq_of_beq_eq_true hl.1
            subst eq
            rw [hf] at hl
            have ef := Nat.eq_of_beq_eq_true hl.2
            unfold fV
            rw [ef]
            exact congrArg Value.int h0
        · cases h
      · cases h
    · cases h
  · unfold putF at h
    split at h
    · rename_i v q r ci k r2
      split at h
      · rename_i c fs hk
        split at h
        · rename_i hcc
          subst hcc
          obtain ⟨f, hf, he⟩ := Option.bind_eq_some_iff.mp h
          obtain ⟨σ1, hp, he2⟩ := Option.map_eq_some_iff.mp he
          cases he2
          have et' : (if Nat.beq c 5 || (Nat.beq c 8 && Nat.beq k 3) then none else some (bs.drop 2)) = some bs' := et
          split at et'
          · cases et'
          · rename_i hn
            have hl := List.all_eq_true.mp cl8 q (List.mem_range.mpr (knd_lt2 hk))
            rw [hk] at hl
            simp only [Bool.and_eq_true, Bool.or_eq_true] at hl
            obtain ⟨⟨⟨l1, l2⟩, l3⟩, l4⟩ := hl
            have n3 : ¬ q = 3 := fun e => by
              subst e
              rcases l4 with l4 | l4
              · exact hn (by rw [l4]; rfl)
              · simp at l4
            have n4 : ¬ (4 ≤ q ∧ q < 12) := fun e => by
              rw [Bool.not_eq_true', Bool.and_eq_false_iff] at l3
              rcases l3 with l3 | l3
              · rw [Nat.ble_eq_true_of_le e.1] at l3; cases l3
              · rw [show Nat.blt q 12 = true from Nat.ble_eq_true_of_le e.2] at l3; cases l3
            have n15 : ¬ (q = 15 ∧ k = 3) := fun e => by
              obtain ⟨rfl, rfl⟩ := e
              have : knd 15 = some (0, 8, _) := rfl
              rw [hk] at this
              cases this
              exact hn (by rfl)
            have key : ∀ y, lawK σ (s1 σ q k y) := fun y => ⟨fun q' a b j => s1_off (fun e => by
              rcases Nat.lt_or_ge q 4 with g | g
              · exact n3 (Nat.le_antisymm (Nat.le_of_lt_succ g) (e.1 ▸ a))
              · exact n4 ⟨g, e.1 ▸ b⟩), s1_off (fun e => n15 ⟨e.1.symm, e.2.symm⟩)⟩
            refine ⟨ho.dr (k := 2) et' rfl, ?_⟩
            unfold putV at hp
            split at hp
            · cases hp; exact key _
            · split at hp
              · cases hp; exact key _
              · cases hp
            · cases hp; exact key _
            · split at hp
              · cases hp; exact key _
              · cases hp
            · cases hp
        · cases h
      · cases h
    · cases h
  · exact ldA_T h et
  · rcases Option.or_eq_some_iff.mp h with h | ⟨-, h⟩
    · exact ldA_T h et
    · exact ldA_T h et
  · exact ldA_T h et
  · rcases Option.or_eq_some_iff.mp h with h | ⟨-, h⟩
    · rcases Option.or_eq_some_iff.mp h with h | ⟨-, h⟩
      · exact ldA_T h et
      · exact ldA_T h et
    · exact ldA_T h et
  · cases et
  · cases et
  · split at h
    · split at h
      · split at h
        · cases h; exact ⟨ho.dr (k := 3) et rfl, fun _ _ _ _ => rfl, rfl⟩
        · cases h
      · cases h
    · cases h
  · split at h
    · split at h
      · split at h
        · cases h; exact ⟨ho.pu (k := 1) et rfl, lawK.refl σ⟩
        · cases h
      · cases h
    · cases h
  · cases h
def only0 (i : Instr) (bs : List Bool) : Bool := match i, bs with
  | .ifCond .eq _, true :: _ => true
  | _, _ => false
def ckT (P : List MI) (S : List Nat) (T : TBL) (mi : Nat) (p : Nat × EN) : Bool := match tbA T mi p.1 with
  | none => true
  | some bs => notLs p.2.1 && match tT p.2 bs with
    | some bs' => eqB (tbA T mi (p.1 + p.2.2.1)) bs'
    | none => match caN p.2 with
      | some (mj, n) => (S.contains mj || Nat.ble 1000 mj) && (eqB (tbA T mi (p.1 + 3)) (psB (rtB P mj) (bs.drop n)))
      | none => (ckB.isRt p.2.1 || ckB.isBr p.2.1) && (if only0 p.2.1 bs then (match p.2.1 with
        | .ifCond _ off => eqB (tbA T mi ((p.1 : Int) + off).toNat) (bs.drop 1)
        | _ => false) else (sucI p.1 p.2).all (fun s => ckB.isRt p.2.1 || eqB (tbA T mi s) (brB p.2.1 bs)))
def bitT (P : List MI) (S : List Nat) (T : TBL) : Bool := S.all (fun mi => Nat.blt mi 1000 && (eqB (tbA T mi 0) [] && (match P[mi]? with
  | some M => M.2.2.2.2.all (ckT P S T mi)
  | none => false)))
theorem un0_T {f : Int32 → Bool} {off o : Int} {b : Bool} {r : List Value} (h : un0 f o st = some (b, off, r)) (ho : kT bs st) : kT (bs.drop 1) r := by
  unfold un0 at h
  split at h
  · cases h; exact kT_drop 1 ho
  · cases h
theorem un2_T {f : Int32 → Int32 → Bool} {off o : Int} {b : Bool} {r : List Value} (h : un2 f o st = some (b, off, r)) (ho : kT bs st) : kT (bs.drop 2) r := by
  unfold un2 at h
  split at h
  · cases h; exact kT_drop 2 ho
  · cases h
theorem br_T {i : Instr} {b : Bool} {off : Int} {r : List Value} (h : brI i st = some (b, off, r)) (ho : kT bs st) : kT (brB i bs) r := by
  unfold brI at h
  split at h
  all_goals first
    | exact un0_T h ho
    | exact un2_T h ho
    | (cases h; done)
    | (cases h; exact ho)
    | skip
  · split at h
    · split at h
      · split at h
        · cases h; exact kT_drop 2 ho
        · cases h
      · cases h
    · cases h
  · split at h
    · split at h
      · cases h; exact kT_drop 1 ho
      · obtain ⟨o, h1, he⟩ := Option.map_eq_some_iff.mp h
        cases he; exact kT_drop 1 ho
    · cases h
  · split at h
    · split at h
      · cases h; exact kT_drop 1 ho
      · cases h
    · cases h
theorem br_0 {i : Instr} {b : Bool} {off : Int} {r : List Value} (h : brI i st = some (b, off, r)) (ho : kT bs st) (h0 : only0 i bs = true) : ∃ o, i = .ifCond .eq o ∧ b = true ∧ off = o ∧ kT (bs.drop 1) r := by
  unfold only0 at h0
  split at h0
  · rename_i o bs0
    refine ⟨o, rfl, ?_⟩
    cases st with
    | nil => exact absurd ho (fun h => h)
    | cons v st =>
      have e := ho.1 rfl
      subst e
      have h' : un0 (fun x => decide (x = 0)) o (Value.int 0 :: st) = some (b, off, r) := h
      unfold un0 at h'
      simp only at h'
      cases h'
      exact ⟨rfl, rfl, ho.2⟩
  · cases h0
theorem ca_T {e : EN} {mj n mj' : Nat} {av rest : List Value} (h : caI e.1 e.2.2 st = some (mj', av, rest)) (hn : caN e = some (mj, n)) (ho : kT bs st) : mj' = mj ∧ kT (bs.drop n) rest := by
  obtain ⟨i, ln, ex⟩ := e
  simp only at h
  unfold caI at h
  split at h
  · split at h
    · rename_i mj1 n1 ci r0
      cases (show some (mj1, n1 + 1) = some (mj, n) from hn)
      split at h
      · rename_i b rest' hd
        split at h
        · split at h
          · cases h
            have hdr : st.drop (n1 + 1) = rest := by
              rw [← List.drop_drop, hd]; rfl
            exact ⟨rfl, by rw [← hdr]; exact kT_drop _ ho⟩
          · cases h
        · cases h
      · cases h
    · cases h
  · split at h
    · rename_i mj1 n1 r0
      cases (show some (mj1, n1) = some (mj, n) from hn)
      split at h
      · cases h
        exact ⟨rfl, kT_drop _ ho⟩
      · cases h
    · cases h
  · cases h
theorem ca_caT {e : EN} {mj' : Nat} {av rest : List Value} (h : caI e.1 e.2.2 st = some (mj', av, rest)) : ∃ n, caN e = some (mj', n) ∧ tT e bs = none := by
  obtain ⟨i, ln, ex⟩ := e
  simp only at h
  unfold caI at h
  split at h
  · split at h
    · split at h
      · split at h
        · split at h
          · cases h; exact ⟨_, rfl, rfl⟩
          · cases h
        · cases h
      · cases h
    · cases h
  · split at h
    · split at h
      · cases h; exact ⟨_, rfl, rfl⟩
      · cases h
    · cases h
  · cases h
theorem br_tT {e : EN} {y : Bool × Int × List Value} (h : brI e.1 st = some y) : tT e bs = none ∧ caN e = none ∧ ckB.isRt e.1 = false := by
  obtain ⟨i, ln, ex⟩ := e
  simp only at h
  unfold brI at h
  split at h <;> first | exact ⟨rfl, rfl, rfl⟩ | cases h
end Wt
theorem run_T {P : List MI} {S : List Nat} {T : TBL} (hP : P.length ≤ 1000) (hS : bitT P S T = true) : ∀ (n d mi pc : Nat) (ls : Lcl) (st : List Value) (σ : Sg) (v : Option Value) (σ' : Sg) (bs : List Bool), mi ∈ S → tbA T mi pc = some bs → kT bs st → σ.1 15 3 = 0 → run P n d mi pc ls st σ = some (v, σ') → lawK σ σ' := by
  intro n
  induction n with
  | zero => intro d mi pc ls st σ v σ' bs _ _ _ _ h; cases h
  | succ n ih =>
    intro d mi pc ls st σ v σ' bs hmi hT ho h0 h
    unfold run at h
    have hm := List.all_eq_true.mp hS mi hmi
    simp only [Bool.and_eq_true] at hm
    obtain ⟨-, -, hm⟩ := hm
    cases hM : P[mi]? with
    | none => rw [hM] at h; cases h
    | some M =>
      rw [hM] at hm
      simp only [hM] at h
      cases hen : M.2.2.2.2.lookup pc with
      | none => rw [hen] at h; cases h
      | some en =>
        simp only [hen] at h
        have hk := List.all_eq_true.mp hm _ (lookup_mem hen)
        unfold ckT at hk
        simp only [hT, Bool.and_eq_true] at hk
        obtain ⟨hls, hk⟩ := hk
        cases hs : stp M.2.2.1 M.2.2.2.1 pc en ls st σ with
        | none => rw [hs] at h; cases h
        | some r =>
          rw [hs] at h
          rcases r with r | x | r
          · simp only at h
            have e2 : ∃ b2, tbA T mi r.1 = some b2 ∧ kT b2 r.2.2.1 ∧ lawK σ r.2.2.2 := by
              unfold stp at hs
              split at hs
              · rename_i hp
                cases hs
                obtain ⟨q1, q2, q3⟩ := pu_tB2 hp
                cases ht : tT en bs with
                | none => simp only [ht, q1, q2, q3, Bool.false_or, Bool.false_and, Bool.false_eq_true] at hk
                | some b2 =>
                  simp only [ht] at hk
                  exact ⟨b2, eqB_of hk, pureI_T (i := en.1) (ln := en.2.1) (ex := en.2.2) hp ho ht, lawK.refl _⟩
              · split at hs
                · rename_i hp
                  cases hs
                  obtain ⟨q1, q2, q3⟩ := hp_tB hp
                  cases ht : tT en bs with
                  | none => simp only [ht, q1, q2, q3, Bool.false_or, Bool.false_and, Bool.false_eq_true] at hk
                  | some b2 =>
                    simp only [ht] at hk
                    obtain ⟨a, b⟩ := hp_T hp ho h0 ht
                    exact ⟨b2, eqB_of hk, a, b⟩
                · split at hs
                  · rename_i b off s1 hp
                    split at hs
                    · cases hs
                      obtain ⟨q1, q2, q3⟩ := br_tT (bs := bs) hp
                      simp only [q1, q2, q3, Bool.false_or, Bool.and_eq_true] at hk
                      cases ho0 : only0 en.1 bs with
                      | true =>
                        obtain ⟨o, ei, rfl, rfl, k1⟩ := br_0 hp ho ho0
                        have hk2 := hk.2
                        rw [ho0, ei] at hk2
                        exact ⟨_, eqB_of hk2, k1, lawK.refl _⟩
                      | false =>
                        have hk2 := hk.2
                        rw [ho0] at hk2
                        have h3 := List.all_eq_true.mp hk2 _ (br_suc hls hp)
                        exact ⟨_, eqB_of h3, br_T hp ho, lawK.refl _⟩
                    · cases hs
                  · split at hs
                    · cases hs
                    · split at hs <;> cases hs
            obtain ⟨b2, t1, t2, t3⟩ := e2
            exact t3.trans (ih _ _ _ _ _ _ _ _ _ hmi t1 t2 (t3.2.trans h0) h)
          · simp only at h
            cases h; exact lawK.refl _
          · simp only at h
            have hmj : ∃ nn, (S.contains r.1 = true ∨ 1000 ≤ r.1) ∧ tbA T mi (pc + 3) = some (psB (rtB P r.1) (bs.drop nn)) ∧ kT (bs.drop nn) r.2.2 := by
              unfold stp at hs
              split at hs
              · cases hs
              · split at hs
                · cases hs
                · split at hs
                  · split at hs <;> cases hs
                  · split at hs
                    · rename_i hp
                      cases hs
                      obtain ⟨nn, hc, ht⟩ := ca_caT (bs := bs) hp
                      simp only [ht, hc, Bool.and_eq_true, Bool.or_eq_true] at hk
                      obtain ⟨k1, k3⟩ := hk
                      obtain ⟨-, c3⟩ := ca_T hp hc ho
                      refine ⟨nn, ?_, eqB_of k3, c3⟩
                      rcases k1 with k1 | k1
                      · exact Or.inl k1
                      · exact Or.inr (Nat.le_of_ble_eq_true k1)
                    · split at hs <;> cases hs
            obtain ⟨nn, m1, m2, m4⟩ := hmj
            cases d with
            | zero => cases h
            | succ d1 =>
              simp only at h
              cases hv : mm r.1 r.2.1 with
              | some w =>
                simp only [hv] at h
                have hw : 1000 ≤ r.1 := by
                  unfold mm at hv
                  split at hv
                  · split at hv
                    · omega
                    · split at hv
                      · omega
                      · cases hv
                  · cases hv
                have hMj : P[r.1]? = none := List.getElem?_eq_none (by omega)
                have hr : rtB P r.1 = true := by unfold rtB; rw [hMj]
                rw [hr] at m2
                exact ih _ _ _ _ _ _ _ _ _ hmi m2 (show kT (false :: bs.drop nn) (w :: r.2.2) from ⟨fun e => (by cases e), m4⟩) h0 h
              | none =>
                simp only [hv] at h
                cases hMj : P[r.1]? with
                | none => rw [hMj] at h; cases h
                | some Mj =>
                  simp only [hMj] at h
                  split at h
                  · cases hc : run P n d1 r.1 0 (lv_args 0 r.2.1) [] σ with
                    | none => rw [hc] at h; cases h
                    | some y =>
                      rw [hc] at h
                      obtain ⟨w, σ1⟩ := y
                      have hret := run_ret _ _ _ _ _ _ _ _ _ _ hMj hc
                      have hr : rtB P r.1 = Mj.2.2.2.1.isSome := by unfold rtB; rw [hMj]
                      have hgS : S.contains r.1 = true := by
                        rcases m1 with g | g
                        · exact g
                        · rw [List.getElem?_eq_none (by omega)] at hMj; cases hMj
                      have hmS : r.1 ∈ S := by simpa using hgS
                      have hS0 := List.all_eq_true.mp hS r.1 hmS
                      simp only [Bool.and_eq_true] at hS0
                      have k1 : lawK σ σ1 := ih _ _ _ _ _ _ _ _ [] hmS (eqB_of hS0.2.1) (show kT [] [] from (by unfold kT; trivial)) h0 hc
                      refine k1.trans (ih _ _ _ _ _ _ _ _ _ hmi m2 ?_ (k1.2.trans h0) h)
                      rw [hr]
                      cases w with
                      | none =>
                        have : Mj.2.2.2.1.isSome = false := ret_no hret
                        rw [this]; exact m4
                      | some x =>
                        have : Mj.2.2.2.1.isSome = true := by
                          unfold retOK at hret
                          split at hret
                          · rename_i a b; rw [a]; rfl
                          · rename_i a b; rw [a]; rfl
                          · rename_i a b; rw [a]; rfl
                          · rename_i a b; cases b
                          · cases hret
                        rw [this]; exact ⟨fun e => (by cases e), m4⟩
                  · cases h
def SWz : List Nat := [104, 105, 113, 101, 102, 103, 106, 107, 108, 109, 110, 111, 112]
def TWz : TBL := [(104, [(0, []), (1, [false]), (3, [false, false]), (6, [false]), (9, []), (10, [false]), (11, [false, false]), (12, [false, false, false]), (15, [false]), (18, []), (19, [false]), (20, []), (21, [false]), (24, []), (25, [false]), (26, [false, false]), (28, [false, false, false]), (31, [false]), (34, []), (35, [false]), (36, []), (37, [false]), (40, []), (41, []), (42, [false]), (43, [false, false]), (44, [false]), (46, [false, false]), (49, []), (50, [false]), (51, [false, false]), (52, [false]), (53, [false, false]), (54, [false]), (57, []), (58, [false]), (59, [false, false]), (60, [false, false, false]), (63, [false, false, false]), (64, [false, false, false, false]), (65, [false, false, false]), (68, []), (69, [false]), (70, [false, false]), (73, [false]), (76, []), (77, [false]), (80, [true]), (99, [])]),
  (105, [(0, []), (1, [false]), (3, [false, false]), (6, [false]), (9, []), (10, [false]), (11, [false, false]), (12, [false, false, false]), (15, [false]), (18, []), (19, [false]), (20, []), (21, [false]), (24, []), (25, [false]), (26, [false, false]), (29, [false]), (32, []), (33, [false]), (36, [true]), (47, [])]),
  (113, [(0, []), (1, [false]), (4, [false]), (7, []), (8, [false]), (9, [false, false]), (10, [false, false, false]), (13, [false]), (16, []), (17, [false]), (18, []), (19, [false]), (22, []), (23, []), (24, [false]), (25, [false, false]), (26, [false, false, false]), (29, [false, false, false]), (31, [false, false, false, false]), (32, [false, false, false]), (35, [false, false]), (38, [false]), (39, []), (40, [false]), (42, [false, false]), (43, [false, false, false]), (44, [false, false]), (47, [false]), (50, []), (51, []), (52, [false]), (55, [false]), (58, [false]), (59, []), (60, [false]), (63, [false]), (65, [false, false]), (68, []), (69, [false]), (71, [false, false]), (74, [false]), (77, []), (78, [false]), (81, [false]), (84, []), (85, []), (86, [false]), (89, [false]), (92, [false]), (94, []), (95, [false]), (97, [false, false]), (100, [false]), (103, []), (104, [false]), (107, [false]), (110, []), (111, [false]), (112, [false, false]), (115, [false]), (118, []), (119, []), (120, [false]), (123, [true]), (138, []), (139, [false]), (140, [false, false]), (143, [false, false]), (144, [false, false, false]), (145, [false, false]), (148, [])]),
  (101, [(0, []), (1, [false]), (4, [false]), (5, [false, false]), (8, []), (9, [false]), (12, [false]), (15, [false, false]), (18, []), (19, [false]), (20, [false, false]), (23, [false, false]), (24, [false, false, false]), (25, [false, false]), (28, []), (29, [false]), (30, [false, false]), (33, [false, false]), (36, [false, false]), (37, [false, false, false]), (40, [false, false, false]), (41, [false, false]), (44, []), (45, [false]), (46, []), (47, [false]), (48, [false, false]), (51, [false, false]), (52, [false, false, false]), (55, [false]), (56, [false, false]), (59, [false]), (60, [false, false]), (63, []), (64, [false]), (65, [false, false]), (68, [false, false]), (71, [false, false]), (72, [false, false, false]), (75, [false, false, false]), (76, [false, false]), (79, []), (80, [false])]),
  (102, [(0, []), (1, [false]), (4, [false]), (7, []), (8, [false]), (11, []), (12, [false]), (13, [false, false]), (16, [false, false]), (19, [false, false]), (20, [false, false]), (23, []), (24, [false]), (25, [false, false]), (28, []), (29, [false]), (30, [false, false]), (33, [false, false]), (36, [false, false]), (37, [false, false, false]), (38, [false, false]), (41, [])]),
  (103, [(0, []), (1, [false]), (4, [false]), (7, [false]), (8, [false, false]), (11, [false, false]), (12, [false]), (13, [false]), (14, []), (15, [false]), (16, [false, false]), (19, [false]), (22, []), (23, [false]), (24, []), (25, [false]), (26, [false, false]), (29, []), (30, [false]), (31, [false, false]), (34, []), (35, [false]), (36, [false, false]), (37, [false, false, false]), (40, [false, false, false]), (41, [false, false, false, false]), (42, [false, false, false]), (45, []), (46, [false])]),
  (106, [(0, []), (1, [false]), (2, [false, false]), (5, []), (6, [false]), (7, [false, false]), (10, [false, false]), (13, [false, false]), (14, [false, false, false]), (17, [false, false, false]), (18, [false, false]), (21, []), (22, [false])]),
  (107, [(0, []), (1, [false]), (4, [false]), (7, [false]), (8, [false, false]), (11, [false, false]), (12, [false]), (13, []), (14, [false]), (15, [false, false]), (18, [false]), (21, []), (22, [false]), (25, [false]), (27, [false, false]), (30, []), (31, [false]), (32, []), (33, [false]), (34, []), (35, [false]), (36, [false, false]), (39, [false, false]), (42, []), (43, [false]), (46, [false]), (47, [false, false]), (48, [false]), (49, [false, false]), (50, [false]), (53, []), (54, [false]), (55, [false, false]), (56, [false, false, false]), (59, [false, false, false]), (60, [false, false, false, false]), (61, [false, false, false]), (64, []), (67, []), (70, []), (71, [false]), (74, [false]), (75, [false, false]), (78, [false, false]), (79, [false, false, false]), (80, []), (81, [false])]),
  (108, [(0, []), (1, [false]), (4, [true]), (16, [])]),
  (109, [(0, []), (1, [false]), (4, [false]), (6, [false, false]), (9, []), (10, [false]), (12, [false, false]), (15, []), (16, [false]), (19, [false]), (20, []), (21, [false]), (23, [false, false]), (26, [false]), (29, []), (30, [false]), (31, [false, false]), (32, [false, false, false]), (33, [false, false]), (36, [false]), (39, []), (40, [false]), (42, [false, false]), (45, [false]), (48, []), (49, [false]), (52, []), (53, [false]), (54, []), (55, [false]), (58, [false]), (60, [false, false]), (63, []), (64, [false]), (67, [false]), (69, [false, false]), (72, []), (73, [false]), (75, [false, false]), (76, [false, false, false]), (79, [false, false, false]), (81, [false, false, false, false]), (82, [false, false, false]), (85, []), (86, [false]), (87, [false, false]), (90, [false, false]), (93, [false]), (94, []), (95, [false]), (98, [false]), (100, [false, false]), (103, []), (104, [false]), (106, [false, false]), (109, [false]), (112, []), (113, [false]), (114, [false, false]), (115, [false, false, false]), (118, [false]), (121, []), (122, [false]), (123, []), (124, [false]), (126, [false, false]), (128, [false, false, false]), (129, [false, false, false, false]), (130, [false, false, false]), (133, []), (134, [false]), (137, []), (138, [false]), (141, []), (142, [false]), (143, []), (144, [false]), (145, [false, false]), (148, [false, false, false]), (151, [false]), (152, []), (153, [false]), (154, [false, false]), (155, [false, false, false]), (158, []), (159, [false]), (162, []), (163, [false]), (166, []), (167, [false])]),
  (110, [(0, []), (1, [false]), (2, []), (3, [false]), (4, [false, false]), (7, [false]), (8, []), (9, [false]), (11, []), (13, [false]), (16, [false, false]), (19, []), (20, [false]), (23, []), (24, [false]), (27, [false]), (28, [false, false]), (31, []), (32, [false]), (35, [false]), (37, [false, false]), (40, []), (41, [false]), (44, [false]), (46, []), (48, [false]), (49, [false, false]), (52, []), (54, [false]), (56, [false, false]), (59, []), (60, [false]), (63, []), (64, [false]), (66, []), (68, [false]), (71, []), (72, [false]), (75, []), (76, [false]), (77, [false, false]), (78, [false, false, false]), (81, []), (82, [false]), (84, [false, false]), (87, [false]), (90, []), (91, [false]), (92, [false, false]), (95, [false]), (98, []), (99, [false]), (102, []), (103, [false]), (104, []), (106, [false]), (109, []), (111, [false]), (112, []), (115, []), (116, [false]), (118, [false, false]), (119, [false, false, false]), (122, []), (125, []), (128, []), (129, [false]), (132, []), (133, [false]), (134, [false, false]), (135, [false, false, false]), (138, []), (139, [false])]),
  (111, [(0, []), (1, [false]), (2, []), (3, [false]), (4, []), (5, [false]), (8, [false, false]), (11, []), (12, [false]), (15, [false]), (17, [false, false]), (20, []), (21, [false]), (24, []), (25, [false]), (28, []), (29, [false]), (30, []), (31, [false]), (33, [false, false]), (36, [false]), (39, []), (40, [false]), (41, []), (44, []), (47, []), (48, [false]), (49, [false, false]), (52, [false]), (55, []), (56, [false]), (57, []), (59, [false]), (61, [false, false]), (62, [false, false, false]), (65, [false, false, false]), (68, [false, false]), (71, [false]), (72, []), (73, [false]), (74, [false, false]), (77, [false]), (80, []), (81, [false]), (82, [false, false]), (85, [false]), (88, []), (89, [false]), (90, []), (91, [false]), (92, [false, false]), (93, [false, false, false]), (96, []), (97, [false]), (100, []), (101, [false]), (103, [false, false]), (104, [false, false, false]), (107, []), (108, [false])]),
  (112, [(0, []), (1, [false]), (2, []), (3, [false]), (6, [false]), (7, []), (8, [false]), (9, []), (10, [false]), (13, [false, false]), (16, []), (17, [false]), (20, []), (21, [false]), (24, [false]), (26, [false, false]), (29, []), (30, [false]), (33, [false]), (35, [false, false]), (38, []), (39, [false]), (42, [false]), (44, [false, false]), (47, []), (48, [false]), (51, []), (52, [false]), (54, []), (56, [false]), (59, []), (60, [false]), (63, []), (64, [false]), (66, [false, false]), (67, [false, false, false]), (70, []), (71, [false]), (72, [false, false]), (75, [false, false]), (78, [false]), (81, []), (82, [false]), (85, [false]), (88, []), (89, [false]), (92, []), (93, [false]), (94, []), (96, [false]), (99, []), (100, [false]), (102, [false, false]), (103, [false, false, false]), (106, []), (109, []), (110, [false]), (111, []), (114, []), (117, []), (118, [false]), (121, []), (122, [false]), (124, [false, false]), (125, [false, false, false]), (128, []), (129, [false])])]
set_option maxRecDepth 100000 in
theorem bST : bitT PRG SWz TWz = true := by decide +kernel
theorem RCx.noW {n mi : Nat} {av : List Value} {σ σ' : Sg} {v : Option Value} (hmi : SWz.contains mi = true) (h0 : σ.1 15 3 = 0) (h : RCx PRG n mi av σ v σ') : lawK σ σ' := by
  obtain ⟨m, d, -, hr⟩ := h
  have hm : mi ∈ SWz := by simpa using hmi
  have hb := List.all_eq_true.mp bST mi hm
  simp only [Bool.and_eq_true] at hb
  exact run_T PRG_len bST _ _ _ _ _ _ _ _ _ [] hm (eqB_of hb.2.1) (show kT [] [] from (by unfold kT; trivial)) h0 hr
