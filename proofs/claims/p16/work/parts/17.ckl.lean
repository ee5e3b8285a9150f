/-! the methods' tables are the class's: a test that the kernel runs -/
def hasW (w : Nat) (c : Jvm.Cond) : Bool := decide (lw_tbl[w]? = some c) && goodWord c
theorem hasW_in {w : Nat} {c : Jvm.Cond} (h : hasW w c = true) : c ∈ lwg := by
  unfold hasW at h
  rw [Bool.and_eq_true] at h
  exact wu_mem (of_decide_eq_true h.1) h.2
def ckL (P : List MI) (own : String) (i : Instr) (ex : List Nat) : Bool := match i with
  | .ldc idx => match ex with
    | [v, w] => hasW w (Jvm.Cond.constant own idx (Int32.ofNat v))
    | _ => false
  | .ldc_w idx => match ex with
    | [v, w] => hasW w (Jvm.Cond.constant own idx (Int32.ofNat v))
    | _ => false
  | .ldc2_w idx => match ex with
    | [v, w] => hasW w (Jvm.Cond.constantLong own idx (Int64.ofNat v))
    | _ => false
  | .getfield idx => match ex with
    | [ci, k, w] => match vwCl[ci]? with
      | some q => decide (k < q.2.2) && hasW w (Jvm.Cond.fieldLink own idx (q.2.1 k).1 (q.2.1 k).2.1 (q.2.1 k).2.2.1)
      | none => false
    | _ => false
  | .putfield idx => match ex with
    | [ci, k, w] => match vwCl[ci]? with
      | some q => decide (k < q.2.2) && (hasW w (Jvm.Cond.fieldLink own idx (q.2.1 k).1 (q.2.1 k).2.1 (q.2.1 k).2.2.1) && !(q.2.1 k).2.2.2)
      | none => false
    | _ => false
  | .invokevirtual idx => match ex with
    | [mj, n, ci, w1, w2, w3, w4] => match P[mj]?, vwCl[ci]? with
      | some Mj, some q => hasW w1 (Jvm.Cond.methodLink own idx Mj.1) && (hasW w2 (Jvm.Cond.instanceMethod Mj.1) && (hasW w3 (Jvm.Cond.selects q.1 Mj.1 Mj.1) && (hasW w4 (Jvm.Cond.initialized q.1) && (decide (Mj.1.cls = q.1) && (decide (Mj.1.cls ≠ "java/lang/invoke/MethodHandle") && (decide (Mj.1.cls ≠ "java/lang/invoke/VarHandle") && decide ((parseMethodDescriptor Mj.1.desc).map (fun d => d.parameters.length) = some n)))))))
      | _, _ => false
    | _ => false
  | .invokestatic idx => match ex with
    | [mj, _, w] => match P[mj]? with
      | some _ => false
      | none => (Nat.beq mj 1000 && hasW w (Jvm.Cond.methodLink own idx Lib.Math.max.name)) || (Nat.beq mj 1001 && hasW w (Jvm.Cond.methodLink own idx Lib.Math.min.name))
    | [mj, n, w1, w2, w3] => Nat.blt mj 1000 && match P[mj]? with
      | some Mj => hasW w1 (Jvm.Cond.methodLink own idx Mj.1) && (hasW w2 (Jvm.Cond.static Mj.1) && (hasW w3 (Jvm.Cond.initialized Mj.1.cls) && (decide (Mj.1.cls ≠ "java/lang/invoke/MethodHandle") && (decide (Mj.1.cls ≠ "java/lang/invoke/VarHandle") && decide ((parseMethodDescriptor Mj.1.desc).map (fun d => d.parameters.length) = some n)))))
      | _ => false
    | _ => false
  | _ => true
theorem ckL_ok {P : List MI} {own : String} {i : Instr} {ex : List Nat} (h : ckL P own i ex = true) : okL P own i ex := by
  cases i with
  | ldc idx =>
    simp only [ckL] at h
    split at h
    · intro v hv; cases hv; exact hasW_in h
    · cases h
  | ldc_w idx =>
    simp only [ckL] at h
    split at h
    · intro v hv; cases hv; exact hasW_in h
    · cases h
  | ldc2_w idx =>
    simp only [ckL] at h
    split at h
    · intro v hv; cases hv; exact hasW_in h
    · cases h
  | getfield idx =>
    simp only [ckL] at h
    split at h
    · split at h
      · rename_i q hq
        intro ci k r he C T N hc
        cases he
        rw [hq] at hc
        cases hc
        rw [Bool.and_eq_true] at h
        exact ⟨of_decide_eq_true h.1, hasW_in h.2⟩
      · cases h
    · cases h
  | putfield idx =>
    simp only [ckL] at h
    split at h
    · split at h
      · rename_i q hq
        intro ci k r he C T N hc
        cases he
        rw [hq] at hc
        cases hc
        rw [Bool.and_eq_true, Bool.and_eq_true] at h
        exact ⟨of_decide_eq_true h.1, hasW_in h.2.1, by simpa using h.2.2⟩
      · cases h
    · cases h
  | invokevirtual idx =>
    simp only [ckL] at h
    split at h
    · split at h
      · rename_i Mj0 q hM hq
        intro mj n ci r he Mj hMj C T N hc
        cases he
        rw [hq] at hc
        cases hc
        rw [hM] at hMj
        cases hMj
        simp only [Bool.and_eq_true, decide_eq_true_eq] at h
        exact ⟨hasW_in h.1, hasW_in h.2.1, hasW_in h.2.2.1, hasW_in h.2.2.2.1, h.2.2.2.2.1, h.2.2.2.2.2.1, h.2.2.2.2.2.2.1, h.2.2.2.2.2.2.2⟩
      · cases h
    · cases h
  | invokestatic idx =>
    simp only [ckL] at h
    split at h
    · split at h
      · cases h
      · rename_i hM
        intro mj n r he
        cases he
        simp only [Bool.or_eq_true, Bool.and_eq_true] at h
        refine ⟨fun e1 => ?_, fun e1 => ?_, fun Mj hMj => by rw [hM] at hMj; cases hMj⟩
        · rcases h with h | h
          · exact hasW_in h.2
          · have := Nat.eq_of_beq_eq_true h.1
            rw [e1] at this
            cases this
        · rcases h with h | h
          · have := Nat.eq_of_beq_eq_true h.1
            rw [e1] at this
            cases this
          · exact hasW_in h.2
    · rw [Bool.and_eq_true] at h
      obtain ⟨hblt, h⟩ := h
      have hlt := Nat.lt_of_lt_of_eq (Nat.le_of_ble_eq_true hblt) rfl
      split at h
      · rename_i Mj0 hM
        intro mj n r he
        cases he
        refine ⟨fun e1 => ?_, fun e1 => ?_, fun Mj hMj => ?_⟩
        · rw [e1] at hlt; exact absurd hlt (by decide)
        · rw [e1] at hlt; exact absurd hlt (by decide)
        rw [hM] at hMj
        cases hMj
        simp only [Bool.and_eq_true, decide_eq_true_eq] at h
        exact ⟨hasW_in h.1, hasW_in h.2.1, hasW_in h.2.2.1, h.2.2.2.1, h.2.2.2.2.1, h.2.2.2.2.2⟩
      · cases h
    · cases h
  | _ => trivial
def ckE (P : List MI) (own : String) (cc : ByteArray) (q : Nat × EN) : Bool := decide (decode cc q.1 = .ok (q.2.1, q.2.2.1)) && ((Nat.beq (lenI q.2.1) 0 || Nat.beq q.2.2.1 (lenI q.2.1)) && ckL P own q.2.1 q.2.2.2)
theorem okM_of {P : List MI} {M : MI} (h1 : plainName M.1.cls = true) (h2 : Jvm.Cond.code M.1 M.2.1 M.2.2.1 M.2.2.2.1 ∈ lwg) (h3 : Nat.ble M.2.2.1 45 = true) (h4 : M.2.2.2.2.all (ckE P M.1.cls M.2.1) = true) : okM P M := by
  refine ⟨h1, h2, Nat.le_of_ble_eq_true h3, fun pc en hl => ?_⟩
  have h := List.all_eq_true.mp h4 _ (lookup_mem hl)
  unfold ckE at h
  simp only [Bool.and_eq_true, Bool.or_eq_true, decide_eq_true_eq] at h
  exact ⟨h.1, h.2.1.imp Nat.eq_of_beq_eq_true Nat.eq_of_beq_eq_true, ckL_ok h.2.2⟩
