/-! cells whose references are only ever read through are not written: one bit for each place of the stack -/
def nZ (Z : List Nat) (v : Value) : Prop := ∀ q, v = .ref q → Z.contains q = false
def zB (Z : List Nat) : List Bool → List Value → Prop
  | [], [] => True
  | b :: bs, v :: st => (b = false → nZ Z v) ∧ zB Z bs st
  | _, _ => False
def zL (Z : List Nat) (ls : Lcl) : Prop := ∀ p ∈ ls, nZ Z p.2
def hdF (bs : List Bool) (r : List Bool) : Option (List Bool) := match bs with
  | false :: _ => some r
  | _ => none
def tB (G : List (Nat × Nat)) (e : EN) (bs : List Bool) : Option (List Bool) := match e.1 with
  | .iconst _ => some (false :: bs)
  | .bipush _ => some (false :: bs)
  | .sipush _ => some (false :: bs)
  | .lconst _ => some (false :: bs)
  | .ldc _ => some (false :: bs)
  | .ldc_w _ => some (false :: bs)
  | .ldc2_w _ => some (false :: bs)
  | .aconst_null => some (false :: bs)
  | .iload_n _ => some (false :: bs)
  | .iload _ => some (false :: bs)
  | .lload_n _ => some (false :: bs)
  | .lload _ => some (false :: bs)
  | .aload_n _ => some (false :: bs)
  | .aload _ => some (false :: bs)
  | .istore_n _ => some (bs.drop 1)
  | .istore _ => some (bs.drop 1)
  | .lstore_n _ => some (bs.drop 1)
  | .lstore _ => some (bs.drop 1)
  | .astore_n _ => hdF bs (bs.drop 1)
  | .astore _ => hdF bs (bs.drop 1)
  | .iinc _ _ => some bs
  | .iadd => some (false :: bs.drop 2)
  | .isub => some (false :: bs.drop 2)
  | .imul => some (false :: bs.drop 2)
  | .iand => some (false :: bs.drop 2)
  | .ior => some (false :: bs.drop 2)
  | .ixor => some (false :: bs.drop 2)
  | .idiv => some (false :: bs.drop 2)
  | .irem => some (false :: bs.drop 2)
  | .ishl => some (false :: bs.drop 2)
  | .ishr => some (false :: bs.drop 2)
  | .iushr => some (false :: bs.drop 2)
  | .ladd => some (false :: bs.drop 2)
  | .lsub => some (false :: bs.drop 2)
  | .lmul => some (false :: bs.drop 2)
  | .land => some (false :: bs.drop 2)
  | .lor => some (false :: bs.drop 2)
  | .lshl => some (false :: bs.drop 2)
  | .lushr => some (false :: bs.drop 2)
  | .lcmp => some (false :: bs.drop 2)
  | .ineg => some (false :: bs.drop 1)
  | .i2b => some (false :: bs.drop 1)
  | .i2l => some (false :: bs.drop 1)
  | .l2i => some (false :: bs.drop 1)
  | .dup => match bs with
    | b :: r => some (b :: b :: r)
    | _ => none
  | .pop => some (bs.drop 1)
  | .pop2 => some (bs.drop 1)
  | .dup2 => match bs with
    | b :: c :: r => some (b :: c :: b :: c :: r)
    | _ => none
  | .getfield _ => match e.2.2 with
    | ci :: k :: _ => some ((bs.headD true || !(G.any (fun p => Nat.beq p.1 ci && Nat.beq p.2 k))) :: bs.drop 1)
    | _ => none
  | .putfield _ => hdF (bs.drop 1) (bs.drop 2)
  | .iaload => some (false :: bs.drop 2)
  | .baload => some (false :: bs.drop 2)
  | .laload => some (false :: bs.drop 2)
  | .aaload => some ((bs.drop 1).headD true :: bs.drop 2)
  | .iastore => hdF (bs.drop 2) (bs.drop 3)
  | .bastore => hdF (bs.drop 2) (bs.drop 3)
  | .lastore => hdF (bs.drop 2) (bs.drop 3)
  | .arraylength => some (false :: bs.drop 1)
  | _ => none
section Bits
variable {Z : List Nat} {G : List (Nat × Nat)} {bs bs' : List Bool} {st st' : List Value} {ls l1 : Lcl}
theorem zB_drop : ∀ (k : Nat) {bs : List Bool} {st : List Value}, zB Z bs st → zB Z (bs.drop k) (st.drop k) := by
  intro k
  induction k with
  | zero => intro bs st h; exact h
  | succ k ih =>
    intro bs st h
    cases bs with
    | nil => cases st with
      | nil => exact h
      | cons v st => exact absurd h (fun h => h)
    | cons b bs => cases st with
      | nil => exact absurd h (fun h => h)
      | cons v st => exact ih h.2
theorem zB_hd {v : Value} {r : List Bool} (h : hdF bs r = some bs') (ho : zB Z bs (v :: st)) : nZ Z v ∧ r = bs' := by
  unfold hdF at h
  split at h
  · cases h; exact ⟨ho.1 rfl, rfl⟩
  · cases h
theorem nzI {x : Int32} : nZ Z (.int x) := fun q e => by cases e
theorem nzL {x : Int64} : nZ Z (.long x) := fun q e => by cases e
theorem nzN : nZ Z .null := fun q e => by cases e
theorem zL.set {i : Nat} {v : Value} {p : Nat × Value → Bool} (h : zL Z ls) (hv : nZ Z v) : zL Z ((i, v) :: ls.filter p) := by
  intro q hq
  rcases List.mem_cons.mp hq with rfl | hq
  · exact hv
  · exact h q (List.mem_filter.mp hq).1
def zS (Z : List Nat) (bs : List Bool) (ls : Lcl) (st : List Value) : Prop := zL Z ls ∧ zB Z bs st
theorem zS.pu {v : Value} {k : Nat} (h : zS Z bs ls st) (hv : nZ Z v) (e : some (false :: bs.drop k) = some bs') (hs : st.drop k = st') : zS Z bs' ls (v :: st') := by
  cases e
  subst hs
  exact ⟨h.1, fun _ => hv, zB_drop k h.2⟩
theorem zS.dr {k : Nat} (h : zS Z bs ls st) (e : some (bs.drop k) = some bs') (hs : st.drop k = st') : zS Z bs' ls st' := by
  cases e
  subst hs
  exact ⟨h.1, zB_drop k h.2⟩
theorem bin1_B {f : Int32 → Int32 → Int32} (h : bin1 f ls st = some (l1, st')) (ho : zS Z bs ls st) (e : some (false :: bs.drop 2) = some bs') : zS Z bs' l1 st' := by
  unfold bin1 at h
  split at h
  · cases h; exact ho.pu nzI e rfl
  · cases h
theorem bin0_B {f : Int32 → Int32 → Int32} (h : bin0 f ls st = some (l1, st')) (ho : zS Z bs ls st) (e : some (false :: bs.drop 2) = some bs') : zS Z bs' l1 st' := by
  unfold bin0 at h
  split at h
  · split at h
    · cases h
    · cases h; exact ho.pu nzI e rfl
  · cases h
theorem bin2_B {f : Int64 → Int64 → Int64} (h : bin2 f ls st = some (l1, st')) (ho : zS Z bs ls st) (e : some (false :: bs.drop 2) = some bs') : zS Z bs' l1 st' := by
  unfold bin2 at h
  split at h
  · cases h; exact ho.pu nzL e rfl
  · cases h
theorem sh2_B {f : Int64 → Int32 → Int64} (h : sh2 f ls st = some (l1, st')) (ho : zS Z bs ls st) (e : some (false :: bs.drop 2) = some bs') : zS Z bs' l1 st' := by
  unfold sh2 at h
  split at h
  · cases h; exact ho.pu nzL e rfl
  · cases h
theorem ldi_B {k : Nat} (h : ldi k ls st = some (l1, st')) (ho : zS Z bs ls st) (e : some (false :: bs) = some bs') : zS Z bs' l1 st' := by
  unfold ldi at h
  split at h
  · cases h; exact ho.pu (k := 0) nzI e rfl
  · cases h
theorem ldl_B {k : Nat} (h : ldl k ls st = some (l1, st')) (ho : zS Z bs ls st) (e : some (false :: bs) = some bs') : zS Z bs' l1 st' := by
  unfold ldl at h
  split at h
  · cases h; exact ho.pu (k := 0) nzL e rfl
  · cases h
theorem lda_B {k : Nat} (h : lda k ls st = some (l1, st')) (ho : zS Z bs ls st) (e : some (false :: bs) = some bs') : zS Z bs' l1 st' := by
  unfold lda at h
  split at h
  · rename_i x hx
    cases h
    exact ho.pu (k := 0) (ho.1 _ (lk_mem hx)) e rfl
  · cases h
theorem sti_B {n k : Nat} (h : sti n k ls st = some (l1, st')) (ho : zS Z bs ls st) (e : some (bs.drop 1) = some bs') : zS Z bs' l1 st' := by
  unfold sti at h
  split at h
  · split at h
    · cases h; exact ⟨ho.1.set nzI, (ho.dr e rfl).2⟩
    · cases h
  · cases h
theorem stl_B {n k : Nat} (h : stl n k ls st = some (l1, st')) (ho : zS Z bs ls st) (e : some (bs.drop 1) = some bs') : zS Z bs' l1 st' := by
  unfold stl at h
  split at h
  · split at h
    · cases h; exact ⟨ho.1.set nzL, (ho.dr e rfl).2⟩
    · cases h
  · cases h
theorem sta_B {n k : Nat} (h : sta n k ls st = some (l1, st')) (ho : zS Z bs ls st) (e : hdF bs (bs.drop 1) = some bs') : zS Z bs' l1 st' := by
  unfold sta at h
  split at h
  · split at h
    · cases h
      obtain ⟨a, b⟩ := zB_hd e ho.2
      exact ⟨ho.1.set a, (ho.dr (congrArg some b) rfl).2⟩
    · cases h
  · cases h
set_option maxHeartbeats 4000000 in
theorem pureI_B {nL ln : Nat} {i : Instr} {ex : List Nat} (h : pureI nL i ex ls st = some (l1, st')) (ho : zS Z bs ls st) (e : tB G (i, ln, ex) bs = some bs') : zS Z bs' l1 st' := by
  unfold pureI at h
  split at h
  all_goals first
    | exact ldi_B h ho e
    | exact ldl_B h ho e
    | exact lda_B h ho e
    | exact sti_B h ho e
    | exact sta_B h ho e
    | exact stl_B h ho e
    | exact bin1_B h ho e
    | exact bin0_B h ho e
    | exact bin2_B h ho e
    | exact sh2_B h ho e
    | (cases h; exact ho.pu (k := 0) nzI e rfl)
    | (cases h; exact ho.pu (k := 0) nzL e rfl)
    | (cases h; exact ho.pu (k := 0) nzN e rfl)
    | (cases h; done)
    | (split at h
       · cases h; exact ho.pu (k := 0) nzI e rfl
       · cases h)
    | (split at h
       · cases h; exact ho.pu (k := 0) nzL e rfl
       · cases h)
    | (split at h
       · cases h; exact ho.pu (k := 1) nzI e rfl
       · cases h)
    | (split at h
       · cases h; exact ho.pu (k := 1) nzL e rfl
       · cases h)
    | (split at h
       · cases h; exact ho.pu (k := 2) nzI e rfl
       · cases h)
    | (split at h
       · split at h
         · cases h; exact ho.dr (k := 1) e rfl
         · cases h
       · cases h)
    | (split at h
       · split at h
         · cases h
           cases bs with
           | nil => exact absurd ho.2 (fun h => h)
           | cons b r =>
             cases (show some (b :: b :: r) = some bs' from e)
             exact ⟨ho.1, ho.2.1, ho.2⟩
         · cases h
       · cases h)
    | (split at h
       · split at h
         · cases h
           cases bs with
           | nil => exact absurd ho.2 (fun h => h)
           | cons b r => cases r with
             | nil => exact absurd ho.2.2 (fun h => h)
             | cons c r =>
               cases (show some (b :: c :: b :: c :: r) = some bs' from e)
               exact ⟨ho.1, ho.2.1, ho.2.2.1, ho.2⟩
         · cases h
       · cases h)
    | (split at h
       · split at h
         · cases h
           exact ⟨ho.1.set nzI, by cases (show some bs = some bs' from e); exact ho.2⟩
         · cases h
       · cases h)
def keepZ (Z : List Nat) (σ σ' : Sg) : Prop := ∀ q, Z.contains q = true → ∀ j, σ'.1 q j = σ.1 q j
theorem keepZ.refl (σ : Sg) : keepZ Z σ σ := fun _ _ _ => rfl
theorem keepZ.trans {σ σ1 σ2 : Sg} (h : keepZ Z σ σ1) (h' : keepZ Z σ1 σ2) : keepZ Z σ σ2 := fun q hq j => (h' q hq j).trans (h q hq j)
theorem keepZ.w1 {σ : Sg} {q k : Nat} {y : Int32} (h : Z.contains q = false) : keepZ Z σ (s1 σ q k y) := fun q' hq' j => by
  show (if q' = q ∧ j = k then y else σ.1 q' j) = σ.1 q' j
  refine if_neg (fun e => ?_)
  rw [e.1, h] at hq'
  cases hq'
theorem keepZ.w2 {σ : Sg} {q k : Nat} {y : Int64} : keepZ Z σ (s2 σ q k y) := fun _ _ _ => rfl
def goodGZ (Z : List Nat) (G : List (Nat × Nat)) : Bool := (List.range 158).all (fun q => Z.contains q || match knd q with
  | some (0, c, fs) => G.all (fun p => !(Nat.beq c p.1) || (match fs[p.2]? with
    | some f => Nat.blt f.1 2 || (Nat.beq f.1 2 && !(Z.contains (tg q p.2)))
    | none => true))
  | _ => true)
def goodAZ (Z : List Nat) : Bool := (List.range 158).all (fun q => Z.contains q || match knd q with
  | some (t, n, _) => Nat.blt t 5 || (List.range n).all (fun j => !(Z.contains (tg q j)))
  | none => true)
theorem ldA_B {tag : Nat} {f : Nat → Nat → Value} {σ : Sg} {x : List Value × Sg} (h : ldA tag f st σ = some x) (hf : ∀ (q j n : Nat) (fs : List (Nat × Nat)), knd q = some (tag, n, fs) → j < n → nZ Z (f q j)) (ho : zS Z bs ls st) (e : some (false :: bs.drop 2) = some bs') : zS Z bs' ls x.1 ∧ keepZ Z σ x.2 := by
  unfold ldA at h
  split at h
  · rename_i i q r
    split at h
    · rename_i t n fs hk
      split at h
      · rename_i hc
        cases h
        obtain ⟨rfl, hi⟩ := hc
        have hl := inR_lo hi
        exact ⟨ho.pu (hf q _ n fs hk (by show i.toInt.toNat < n; omega)) e rfl, keepZ.refl σ⟩
      · cases h
    · cases h
  · cases h
theorem ldA_R {tag : Nat} {f : Nat → Nat → Value} {σ : Sg} {x : List Value × Sg} (h : ldA tag f st σ = some x) (hf : ∀ (q j n : Nat) (fs : List (Nat × Nat)), Z.contains q = false → knd q = some (tag, n, fs) → j < n → nZ Z (f q j)) (ho : zS Z bs ls st) (e : some ((bs.drop 1).headD true :: bs.drop 2) = some bs') : zS Z bs' ls x.1 ∧ keepZ Z σ x.2 := by
  unfold ldA at h
  split at h
  · rename_i i q r
    split at h
    · rename_i t n fs hk
      split at h
      · rename_i hc
        cases h
        obtain ⟨rfl, hi⟩ := hc
        have hl := inR_lo hi
        cases e
        have h1 : zB Z (bs.drop 1) (.ref q :: r) := zB_drop 1 ho.2
        refine ⟨⟨ho.1, fun hb => ?_, zB_drop 2 ho.2⟩, keepZ.refl σ⟩
        have hq : Z.contains q = false := by
          cases hd : bs.drop 1 with
          | nil => rw [hd] at h1; exact absurd h1 (fun h => h)
          | cons b0 bs0 => rw [hd] at h1 hb; exact h1.1 hb q rfl
        exact hf q _ n fs hq hk (by show i.toInt.toNat < n; omega)
      · cases h
    · cases h
  · cases h
theorem nZ_ref {q : Nat} (h : nZ Z (.ref q)) : Z.contains q = false := h q rfl
theorem stA_B {tag : Nat} {g : Int32 → Int32} {σ : Sg} {x : List Value × Sg} (h : stA tag g st σ = some x) (ho : zS Z bs ls st) (e : hdF (bs.drop 2) (bs.drop 3) = some bs') : zS Z bs' ls x.1 ∧ keepZ Z σ x.2 := by
  unfold stA at h
  split at h
  · rename_i y i q r
    split at h
    · split at h
      · cases h
        obtain ⟨a, b⟩ := zB_hd e (zB_drop 2 ho.2)
        exact ⟨ho.dr (k := 3) (congrArg some b) rfl, keepZ.w1 (nZ_ref a)⟩
      · cases h
    · cases h
  · cases h
theorem gG_of {q k c : Nat} {fs : List (Nat × Nat)} {f : Nat × Nat} (hG : goodGZ Z G = true) (hq : Z.contains q = false) (hk : knd q = some (0, c, fs)) (hf : fs[k]? = some f) (hc : G.any (fun p => Nat.beq p.1 c && Nat.beq p.2 k) = true) (σ : Sg) : nZ Z (fV σ q k f.1) := by
  have hl := knd_lt2 hk
  obtain ⟨p, hp, hpe⟩ := List.any_eq_true.mp hc
  rw [Bool.and_eq_true] at hpe
  have e1 := Nat.eq_of_beq_eq_true hpe.1
  have e2 := Nat.eq_of_beq_eq_true hpe.2
  have hg := List.all_eq_true.mp hG q (List.mem_range.mpr hl)
  rw [hk, hq, Bool.false_or] at hg
  have hg := List.all_eq_true.mp hg p hp
  rw [e1, e2, hf] at hg
  have hb : Nat.beq c c = true := Nat.beq_refl c
  rw [hb] at hg
  simp only [Bool.not_true, Bool.false_or, Bool.or_eq_true, Bool.and_eq_true] at hg
  unfold fV
  rcases hg with g | ⟨g1, g2⟩
  · have := Nat.le_of_ble_eq_true g
    have h01 : f.1 = 0 ∨ f.1 = 1 := by omega
    rcases h01 with z | z
    · rw [z]; exact nzI
    · rw [z]; exact nzI
  · have z := Nat.eq_of_beq_eq_true g1
    rw [z]
    intro q0 he
    cases he
    simpa using g2
theorem hp_B {e : EN} {σ : Sg} {x : List Value × Sg} (hG : goodGZ Z G = true) (hA : goodAZ Z = true) (h : hpI e.1 e.2.2 st σ = some x) (ho : zS Z bs ls st) (et : tB G e bs = some bs') : zS Z bs' ls x.1 ∧ keepZ Z σ x.2 := by
  have refs : ∀ (t : Nat), 5 ≤ t → ∀ (q j n : Nat) (fs : List (Nat × Nat)), Z.contains q = false → knd q = some (t, n, fs) → j < n → nZ Z (Value.ref (tg q j)) := by
    intro t ht q j n fs hq hk hj q0 he
    have hl := knd_lt2 hk
    have := List.all_eq_true.mp hA q (List.mem_range.mpr hl)
    rw [hk, hq, Bool.false_or] at this
    simp only [Bool.or_eq_true] at this
    rcases this with g | g
    · have := Nat.le_of_ble_eq_true g; omega
    · have g2 := List.all_eq_true.mp g j (List.mem_range.mpr hj)
      cases he
      simpa using g2
  obtain ⟨i, ln, ex⟩ := e
  simp only at h
  unfold hpI at h
  split at h
  · unfold getF at h
    split at h
    · rename_i q r ci k r2
      split at h
      · rename_i c fs hk
        split at h
        · rename_i hcc
          subst hcc
          obtain ⟨f, hf, he⟩ := Option.map_eq_some_iff.mp h
          cases he
          cases (show some ((bs.headD true || !(G.any (fun p => Nat.beq p.1 c && Nat.beq p.2 k))) :: bs.drop 1) = some bs' from et)
          refine ⟨⟨ho.1, fun hb => ?_, zB_drop 1 ho.2⟩, keepZ.refl σ⟩
          rw [Bool.or_eq_false_iff] at hb
          have hc2 : G.any (fun p => Nat.beq p.1 c && Nat.beq p.2 k) = true := by simpa using hb.2
          have hq : Z.contains q = false := by
            cases bs with
            | nil => exact absurd ho.2 (fun h => h)
            | cons b0 bs0 => exact ho.2.1 hb.1 q rfl
          exact gG_of hG hq hk hf hc2 σ
        · cases h
      · cases h
    · cases h
  · unfold putF at h
    split at h
    · rename_i v q r ci k r2
      split at h
      · split at h
        · obtain ⟨f, hf, he⟩ := Option.bind_eq_some_iff.mp h
          obtain ⟨σ1, hp, he2⟩ := Option.map_eq_some_iff.mp he
          cases he2
          obtain ⟨a, b⟩ := zB_hd (show hdF (bs.drop 1) (bs.drop 2) = some bs' from et) (zB_drop 1 ho.2)
          have hq := nZ_ref a
          refine ⟨ho.dr (k := 2) (congrArg some b) rfl, ?_⟩
          unfold putV at hp
          split at hp
          · cases hp; exact keepZ.w1 hq
          · split at hp
            · cases hp; exact keepZ.w1 hq
            · cases hp
          · cases hp; exact keepZ.w1 hq
          · split at hp
            · cases hp; exact keepZ.w1 hq
            · cases hp
          · cases hp
        · cases h
      · cases h
    · cases h
  · exact ldA_B h (fun _ _ _ _ _ _ => nzI) ho et
  · rcases Option.or_eq_some_iff.mp h with h | ⟨-, h⟩
    · exact ldA_B h (fun _ _ _ _ _ _ => nzI) ho et
    · exact ldA_B h (fun _ _ _ _ _ _ => nzI) ho et
  · exact ldA_B h (fun _ _ _ _ _ _ => nzL) ho et
  · rcases Option.or_eq_some_iff.mp h with h | ⟨-, h⟩
    · rcases Option.or_eq_some_iff.mp h with h | ⟨-, h⟩
      · exact ldA_R h (refs 5 (by omega)) ho et
      · exact ldA_R h (refs 6 (by omega)) ho et
    · exact ldA_R h (refs 7 (by omega)) ho et
  · exact stA_B h ho et
  · rcases Option.or_eq_some_iff.mp h with h | ⟨-, h⟩
    · exact stA_B h ho et
    · exact stA_B h ho et
  · split at h
    · rename_i y i q r
      split at h
      · split at h
        · cases h
          obtain ⟨a, b⟩ := zB_hd (show hdF (bs.drop 2) (bs.drop 3) = some bs' from et) (zB_drop 2 ho.2)
          exact ⟨ho.dr (k := 3) (congrArg some b) rfl, keepZ.w2⟩
        · cases h
      · cases h
    · cases h
  · split at h
    · split at h
      · split at h
        · cases h; exact ⟨ho.pu (k := 1) nzI et rfl, keepZ.refl σ⟩
        · cases h
      · cases h
    · cases h
  · cases h
end Bits
def brB (i : Instr) (bs : List Bool) : List Bool := match i with
  | .ifCond _ _ => bs.drop 1
  | .if_icmp _ _ => bs.drop 2
  | .if_acmp _ _ => bs.drop 2
  | .goto _ => bs
  | .tableswitch _ _ _ _ => bs.drop 1
  | .lookupswitch _ _ => bs.drop 1
  | _ => bs
def caN (e : EN) : Option (Nat × Nat) := match e.1, e.2.2 with
  | .invokevirtual _, mj :: n :: _ => some (mj, n + 1)
  | .invokestatic _, mj :: n :: _ => some (mj, n)
  | _, _ => none
def rtB (P : List MI) (mj : Nat) : Bool := match P[mj]? with
  | some M => M.2.2.2.1.isSome
  | none => true
def psB (b : Bool) (bs : List Bool) : List Bool := if b then false :: bs else bs
abbrev TBL : Type := List (Nat × List (Nat × List Bool))
def tbA (T : TBL) (mi pc : Nat) : Option (List Bool) := (T.lookup mi).bind (fun t => t.lookup pc)
def eqB (a : Option (List Bool)) (b : List Bool) : Bool := match a with
  | some x => decide (x = b)
  | none => false
def ckB (P : List MI) (S : List Nat) (G : List (Nat × Nat)) (T : TBL) (mi : Nat) (p : Nat × EN) : Bool := match tbA T mi p.1 with
  | none => false
  | some bs => notLs p.2.1 && match tB G p.2 bs with
    | some bs' => eqB (tbA T mi (p.1 + p.2.2.1)) bs'
    | none => match caN p.2 with
      | some (mj, n) => (S.contains mj || Nat.ble 1000 mj) && ((bs.take n).all (fun b => !b) && (eqB (tbA T mi (p.1 + 3)) (psB (rtB P mj) (bs.drop n))))
      | none => (isRt p.2.1 || isBr p.2.1) && (sucI p.1 p.2).all (fun s => isRt p.2.1 || eqB (tbA T mi s) (brB p.2.1 bs))
where
  isRt : Instr → Bool
    | .ireturn => true
    | .lreturn => true
    | .return_ => true
    | _ => false
  isBr : Instr → Bool
    | .ifCond _ _ => true
    | .if_icmp _ _ => true
    | .if_acmp _ _ => true
    | .goto _ => true
    | .tableswitch _ _ _ _ => true
    | _ => false
def bitS (P : List MI) (S : List Nat) (G : List (Nat × Nat)) (T : TBL) : Bool := S.all (fun mi => Nat.blt mi 1000 && (eqB (tbA T mi 0) [] && (match P[mi]? with
  | some M => M.2.2.2.2.all (ckB P S G T mi)
  | none => false)))
theorem eqB_of {a : Option (List Bool)} {b : List Bool} (h : eqB a b = true) : a = some b := by
  unfold eqB at h
  split at h
  · rw [of_decide_eq_true h]
  · cases h
section Bits2
variable {Z : List Nat} {G : List (Nat × Nat)} {bs bs' : List Bool} {st st' : List Value} {ls l1 : Lcl}
theorem un0_B {f : Int32 → Bool} {off o : Int} {b : Bool} {r : List Value} (h : un0 f o st = some (b, off, r)) (ho : zB Z bs st) : zB Z (bs.drop 1) r := by
  unfold un0 at h
  split at h
  · cases h; exact zB_drop 1 ho
  · cases h
theorem un2_B {f : Int32 → Int32 → Bool} {off o : Int} {b : Bool} {r : List Value} (h : un2 f o st = some (b, off, r)) (ho : zB Z bs st) : zB Z (bs.drop 2) r := by
  unfold un2 at h
  split at h
  · cases h; exact zB_drop 2 ho
  · cases h
theorem br_B {i : Instr} {b : Bool} {off : Int} {r : List Value} (h : brI i st = some (b, off, r)) (ho : zB Z bs st) : zB Z (brB i bs) r := by
  unfold brI at h
  split at h
  all_goals first
    | exact un0_B h ho
    | exact un2_B h ho
    | (cases h; done)
    | (cases h; exact ho)
    | skip
  · split at h
    · split at h
      · split at h
        · cases h; exact zB_drop 2 ho
        · cases h
      · cases h
    · cases h
  · split at h
    · split at h
      · cases h; exact zB_drop 1 ho
      · obtain ⟨o, h1, he⟩ := Option.map_eq_some_iff.mp h
        cases he; exact zB_drop 1 ho
    · cases h
  · split at h
    · split at h
      · cases h; exact zB_drop 1 ho
      · cases h
    · cases h
theorem zB_take : ∀ (n : Nat) {bs : List Bool} {st : List Value}, zB Z bs st → (bs.take n).all (fun b => !b) = true → ∀ v ∈ st.take n, nZ Z v := by
  intro n
  induction n with
  | zero => intro bs st _ _ v hv; cases hv
  | succ n ih =>
    intro bs st h ha v hv
    cases st with
    | nil => cases hv
    | cons x st => cases bs with
      | nil => exact absurd h (fun h => h)
      | cons b bs =>
        rw [List.take_succ_cons, List.all_cons, Bool.and_eq_true] at ha
        rw [List.take_succ_cons] at hv
        rcases List.mem_cons.mp hv with rfl | hv
        · exact h.1 (by simpa using ha.1)
        · exact ih h.2 ha.2 v hv
theorem ca_B {e : EN} {mj n mj' : Nat} {av rest : List Value} (h : caI e.1 e.2.2 st = some (mj', av, rest)) (hn : caN e = some (mj, n)) (ho : zB Z bs st) (ha : (bs.take n).all (fun b => !b) = true) : mj' = mj ∧ (∀ x ∈ av, nZ Z x) ∧ zB Z (bs.drop n) rest := by
  obtain ⟨i, ln, ex⟩ := e
  simp only at h
  have ht := zB_take n ho ha
  unfold caI at h
  split at h
  · split at h
    · rename_i mj1 n1 ci r0
      cases (show some (mj1, n1 + 1) = some (mj, n) from hn)
      split at h
      · rename_i b rest' hd
        split at h
        · split at h
          · cases h
            have hlen : n1 < st.length := by
              rcases Nat.lt_or_ge n1 st.length with g | g
              · exact g
              · rw [List.drop_eq_nil_of_le g] at hd; cases hd
            have htk : st.take (n1 + 1) = st.take n1 ++ [.ref b] := by
              rw [List.take_succ]
              congr 1
              have := congrArg List.head? hd
              rw [List.head?_drop] at this
              rw [this]; rfl
            have hdr : st.drop (n1 + 1) = rest := by
              rw [← List.drop_drop, hd]; rfl
            refine ⟨rfl, fun x hx => ht x ?_, by rw [← hdr]; exact zB_drop _ ho⟩
            rw [htk]
            rcases List.mem_cons.mp hx with rfl | hx
            · exact List.mem_append_right _ List.mem_cons_self
            · exact List.mem_append_left _ (List.mem_reverse.mp hx)
          · cases h
        · cases h
      · cases h
    · cases h
  · split at h
    · rename_i mj1 n1 r0
      cases (show some (mj1, n1) = some (mj, n) from hn)
      split at h
      · cases h
        exact ⟨rfl, fun x hx => ht x (List.mem_reverse.mp hx), zB_drop _ ho⟩
      · cases h
    · cases h
  · cases h
theorem ca_caN {e : EN} {mj' : Nat} {av rest : List Value} (h : caI e.1 e.2.2 st = some (mj', av, rest)) : ∃ n, caN e = some (mj', n) ∧ tB G e bs = none := by
  obtain ⟨i, ln, ex⟩ := e
  simp only at h
  unfold caI at h
  split at h
  · split at h
    · split at h
      · split at h
        · split at h
          · cases h; exact ⟨_, rfl, rfl⟩
          · cases h
        · cases h
      · cases h
    · cases h
  · split at h
    · split at h
      · cases h; exact ⟨_, rfl, rfl⟩
      · cases h
    · cases h
  · cases h
theorem br_tB {e : EN} {y : Bool × Int × List Value} (h : brI e.1 st = some y) : tB G e bs = none ∧ caN e = none ∧ ckB.isRt e.1 = false := by
  obtain ⟨i, ln, ex⟩ := e
  simp only at h
  unfold brI at h
  split at h <;> first | exact ⟨rfl, rfl, rfl⟩ | cases h
theorem pu_tB {e : EN} {nL : Nat} {y : Lcl × List Value} (h : pureI nL e.1 e.2.2 ls st = some y) (ho : zB Z bs st) : tB G e bs = none → e.1 = .astore_n 0 ∨ ∃ z, caN e = z ∧ ckB.isBr e.1 = false ∧ ckB.isRt e.1 = false ∧ z = none := by
  obtain ⟨i, ln, ex⟩ := e
  simp only at h
  intro _
  unfold pureI at h
  split at h <;> first | exact Or.inr ⟨_, rfl, rfl, rfl, rfl⟩ | cases h
theorem hp_tB {e : EN} {σ : Sg} {y : List Value × Sg} (h : hpI e.1 e.2.2 st σ = some y) : caN e = none ∧ ckB.isBr e.1 = false ∧ ckB.isRt e.1 = false := by
  obtain ⟨i, ln, ex⟩ := e
  simp only at h
  unfold hpI at h
  split at h <;> first | exact ⟨rfl, rfl, rfl⟩ | cases h
theorem pu_tB2 {e : EN} {nL : Nat} {y : Lcl × List Value} (h : pureI nL e.1 e.2.2 ls st = some y) : caN e = none ∧ ckB.isBr e.1 = false ∧ ckB.isRt e.1 = false := by
  obtain ⟨i, ln, ex⟩ := e
  simp only at h
  unfold pureI at h
  split at h <;> first | exact ⟨rfl, rfl, rfl⟩ | cases h
end Bits2
theorem ret_no {r : Option FieldType} (h : retOK r none = true) : r.isSome = false := by
  cases r with
  | none => rfl
  | some x => exact absurd h (by unfold retOK; split <;> simp_all)
theorem args_nZ {Z : List Nat} {av : List Value} (h : ∀ x ∈ av, nZ Z x) : zL Z (lv_args 0 av) := fun p hp => h _ (args_mem _ _ p hp)
theorem run_bits {P : List MI} {S Z : List Nat} {G : List (Nat × Nat)} {T : TBL} (hP : P.length ≤ 1000) (hG : goodGZ Z G = true) (hA : goodAZ Z = true) (hS : bitS P S G T = true) : ∀ (n d mi pc : Nat) (ls : Lcl) (st : List Value) (σ : Sg) (v : Option Value) (σ' : Sg) (bs : List Bool), mi ∈ S → tbA T mi pc = some bs → zS Z bs ls st → run P n d mi pc ls st σ = some (v, σ') → keepZ Z σ σ' := by
  intro n
  induction n with
  | zero => intro d mi pc ls st σ v σ' bs _ _ _ h; cases h
  | succ n ih =>
    intro d mi pc ls st σ v σ' bs hmi hT ho h
    unfold run at h
    have hm := List.all_eq_true.mp hS mi hmi
    simp only [Bool.and_eq_true] at hm
    obtain ⟨-, -, hm⟩ := hm
    cases hM : P[mi]? with
    | none => rw [hM] at h; cases h
    | some M =>
      rw [hM] at hm
      simp only [hM] at h
      cases hen : M.2.2.2.2.lookup pc with
      | none => rw [hen] at h; cases h
      | some en =>
        simp only [hen] at h
        have hk := List.all_eq_true.mp hm _ (lookup_mem hen)
        unfold ckB at hk
        simp only [hT, Bool.and_eq_true] at hk
        obtain ⟨hls, hk⟩ := hk
        cases hs : stp M.2.2.1 M.2.2.2.1 pc en ls st σ with
        | none => rw [hs] at h; cases h
        | some r =>
          rw [hs] at h
          rcases r with r | x | r
          · simp only at h
            have e2 : ∃ b2, tbA T mi r.1 = some b2 ∧ zS Z b2 r.2.1 r.2.2.1 ∧ keepZ Z σ r.2.2.2 := by
              unfold stp at hs
              split at hs
              · rename_i hp
                cases hs
                obtain ⟨q1, q2, q3⟩ := pu_tB2 hp
                cases ht : tB G en bs with
                | none => simp only [ht, q1, q2, q3, Bool.false_or, Bool.false_and, Bool.false_eq_true] at hk
                | some b2 =>
                  simp only [ht] at hk
                  exact ⟨b2, eqB_of hk, pureI_B (i := en.1) (ln := en.2.1) (ex := en.2.2) hp ho ht, keepZ.refl _⟩
              · split at hs
                · rename_i hp
                  cases hs
                  obtain ⟨q1, q2, q3⟩ := hp_tB hp
                  cases ht : tB G en bs with
                  | none => simp only [ht, q1, q2, q3, Bool.false_or, Bool.false_and, Bool.false_eq_true] at hk
                  | some b2 =>
                    simp only [ht] at hk
                    obtain ⟨a, b⟩ := hp_B hG hA hp ho ht
                    exact ⟨b2, eqB_of hk, a, b⟩
                · split at hs
                  · rename_i b off s1 hp
                    split at hs
                    · cases hs
                      obtain ⟨q1, q2, q3⟩ := br_tB (G := G) (bs := bs) hp
                      simp only [q1, q2, q3, Bool.false_or, Bool.and_eq_true] at hk
                      have h3 := List.all_eq_true.mp hk.2 _ (br_suc hls hp)
                      exact ⟨_, eqB_of h3, ⟨ho.1, br_B hp ho.2⟩, keepZ.refl _⟩
                    · cases hs
                  · split at hs
                    · cases hs
                    · split at hs <;> cases hs
            obtain ⟨b2, t1, t2, t3⟩ := e2
            exact t3.trans (ih _ _ _ _ _ _ _ _ _ hmi t1 t2 h)
          · simp only at h
            cases h; exact keepZ.refl _
          · simp only at h
            have hmj : ∃ nn, (S.contains r.1 = true ∨ 1000 ≤ r.1) ∧ tbA T mi (pc + 3) = some (psB (rtB P r.1) (bs.drop nn)) ∧ (∀ x ∈ r.2.1, nZ Z x) ∧ zB Z (bs.drop nn) r.2.2 := by
              unfold stp at hs
              split at hs
              · cases hs
              · split at hs
                · cases hs
                · split at hs
                  · split at hs <;> cases hs
                  · split at hs
                    · rename_i hp
                      cases hs
                      obtain ⟨nn, hc, ht⟩ := ca_caN (G := G) (bs := bs) hp
                      simp only [ht, hc, Bool.and_eq_true, Bool.or_eq_true] at hk
                      obtain ⟨k1, k2, k3⟩ := hk
                      obtain ⟨-, c2, c3⟩ := ca_B hp hc ho.2 k2
                      refine ⟨nn, ?_, eqB_of k3, c2, c3⟩
                      rcases k1 with k1 | k1
                      · exact Or.inl k1
                      · exact Or.inr (Nat.le_of_ble_eq_true k1)
                    · split at hs <;> cases hs
            obtain ⟨nn, m1, m2, m3, m4⟩ := hmj
            cases d with
            | zero => cases h
            | succ d1 =>
              simp only at h
              cases hv : mm r.1 r.2.1 with
              | some w =>
                simp only [hv] at h
                have hw : nZ Z w ∧ 1000 ≤ r.1 := by
                  unfold mm at hv
                  split at hv
                  · split at hv
                    · cases hv; exact ⟨nzI, by omega⟩
                    · split at hv
                      · cases hv; exact ⟨nzI, by omega⟩
                      · cases hv
                  · cases hv
                have hMj : P[r.1]? = none := List.getElem?_eq_none (by omega)
                have hr : rtB P r.1 = true := by unfold rtB; rw [hMj]
                rw [hr] at m2
                exact ih _ _ _ _ _ _ _ _ _ hmi m2 (show zS Z (false :: bs.drop nn) ls (w :: r.2.2) from ⟨ho.1, fun _ => hw.1, m4⟩) h
              | none =>
                simp only [hv] at h
                cases hMj : P[r.1]? with
                | none => rw [hMj] at h; cases h
                | some Mj =>
                  simp only [hMj] at h
                  split at h
                  · cases hc : run P n d1 r.1 0 (lv_args 0 r.2.1) [] σ with
                    | none => rw [hc] at h; cases h
                    | some y =>
                      rw [hc] at h
                      obtain ⟨w, σ1⟩ := y
                      have hret := run_ret _ _ _ _ _ _ _ _ _ _ hMj hc
                      have hr : rtB P r.1 = Mj.2.2.2.1.isSome := by unfold rtB; rw [hMj]
                      have hgS : S.contains r.1 = true := by
                        rcases m1 with g | g
                        · exact g
                        · rw [List.getElem?_eq_none (by omega)] at hMj; cases hMj
                      have hmS : r.1 ∈ S := by simpa using hgS
                      have h0 := List.all_eq_true.mp hS r.1 hmS
                      simp only [Bool.and_eq_true] at h0
                      have k1 : keepZ Z σ σ1 := ih _ _ _ _ _ _ _ _ [] hmS (eqB_of h0.2.1) (show zS Z [] (lv_args 0 r.2.1) [] from ⟨args_nZ m3, show zB Z [] [] from (by unfold zB; trivial)⟩) hc
                      refine k1.trans (ih _ _ _ _ _ _ _ _ _ hmi m2 ⟨ho.1, ?_⟩ h)
                      rw [hr]
                      cases w with
                      | none =>
                        have : Mj.2.2.2.1.isSome = false := ret_no hret
                        rw [this]; exact m4
                      | some x =>
                        have : Mj.2.2.2.1.isSome = true ∧ nZ Z x := by
                          unfold retOK at hret
                          split at hret
                          · rename_i a b; cases b; rw [a]; exact ⟨rfl, nzI⟩
                          · rename_i a b; cases b; rw [a]; exact ⟨rfl, nzI⟩
                          · rename_i a b; cases b; rw [a]; exact ⟨rfl, nzL⟩
                          · rename_i a b; cases b
                          · cases hret
                        rw [this.1]; exact ⟨fun _ => this.2, m4⟩
                  · cases h
