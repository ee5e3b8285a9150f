/-! ranges: the instructions that touch no cell -/
def tag (S : List SI) (s t : Nat) : Bool := Nat.beq (gS S s).1 t
def pcI (S : List SI) (L : List (Nat × Nat)) (K : List Nat) (M : List ME) (n : Int) : Option AS := if FL ≤ n ∧ n ≤ FH then some (S ++ [(0, n, n, S.length, 0, [])], L, S.length :: K, M) else none
def pcJ (S : List SI) (L : List (Nat × Nat)) (K : List Nat) (M : List ME) : AS := (S ++ [(3, 0, 0, 0, 0, [])], L, S.length :: K, M)
def ldP (t k : Nat) (a : AS) : Option AS := match a.2.1.lookup k with
  | some s => if tag a.1 s t then some (a.1, a.2.1, s :: a.2.2.1, a.2.2.2) else none
  | none => none
def stP (nL t k : Nat) (a : AS) : Option AS := match a.2.2.1 with
  | s :: K => if tag a.1 s t && Nat.blt k nL then some (a.1, stL a.1 k s a.2.1, K, a.2.2.2) else none
  | [] => none
def stP2 (nL k : Nat) (a : AS) : Option AS := match a.2.2.1 with
  | s :: K => if tag a.1 s 3 && Nat.blt (k + 1) nL then some (a.1, stL2 a.1 k s a.2.1, K, a.2.2.2) else none
  | [] => none
/-- the two lowest bits of a name, if they are known -/
def phi (S : List SI) (M : List ME) (s : Nat) : Option Nat := match M.find? (fun e => Nat.beq e.1 6 && Nat.beq e.2.1 s) with
  | some e => some e.2.2.1
  | none => if (ivl S s).1 = (ivl S s).2 ∧ 0 ≤ (ivl S s).1 then some ((ivl S s).1.toNat % 4) else none
def phR (i : Instr) (S : List SI) (M : List ME) (sx sy : Nat) : Option Nat := match i with
  | .ishl => if 2 ≤ (ivl S sy).1 ∧ (ivl S sy).1 = (ivl S sy).2 ∧ (ivl S sy).2 ≤ 31 then some 0 else none
  | .iand => if (ivl S sy).1 = -4 ∧ (ivl S sy).2 = -4 then some 0 else none
  | .ior => match phi S M sx, phi S M sy with
    | some a, some b => some (a ||| b)
    | _, _ => none
  | .iadd => match phi S M sx, phi S M sy with
    | some a, some b => some ((a + b) % 4)
    | _, _ => none
  | _ => none
def phM (i : Instr) (S : List SI) (M0 M : List ME) (sx sy : Nat) : List ME := match phR i S M0 sx sy with
  | some c => (6, S.length, c, 0) :: M
  | none => M
/-- the range of an answer, with what is known of the two -/
def rngP (i : Instr) (S : List SI) (M : List ME) (sx sy : Nat) : Option (Int × Int) := match bnA i (ivl S sx).1 (ivl S sx).2 (ivl S sy).1 (ivl S sy).2 with
  | some r => some (match i with
    | .isub => if M.any (fun e => Nat.beq e.1 3 && (Nat.beq e.2.1 sx && Nat.beq e.2.2.1 sy)) && decide (FL ≤ (ivl S sx).1 - (ivl S sy).2 ∧ (ivl S sx).2 - (ivl S sy).1 ≤ FH) then (imax r.1 0, r.2) else r
    | .iand => if (ivl S sy).1 = 3 ∧ (ivl S sy).2 = 3 then (match phi S M sx with
      | some c => ((c : Int), (c : Int))
      | none => r) else r
    | _ => r)
  | none => match i with
    | .idiv => if M.any (fun e => Nat.beq e.1 4 && Nat.beq e.2.1 sy) then some (FL, FH) else none
    | .irem => if M.any (fun e => Nat.beq e.1 4 && Nat.beq e.2.1 sy) then some (FL, FH) else none
    | _ => none
def bnM (i : Instr) (S : List SI) (M : List ME) (sx sy : Nat) : List ME := match i with
  | .irem => if 0 ≤ (ivl S sx).1 ∧ 1 ≤ (ivl S sy).1 then (3, sx, S.length, 0) :: M else M
  | .iand => if (ivl S sy).2 ≤ -1 ∧ -65536 ≤ (ivl S sy).1 then (5, S.length, sx, 16) :: M else M
  | _ => M
def bnP (i : Instr) (a : AS) : Option AS := match a.2.2.1 with
  | sy :: sx :: K => if tag a.1 sx 0 && tag a.1 sy 0 then
      match rngP i a.1 a.2.2.2 sx sy with
      | some r => some (a.1 ++ [nwA a.1 r (offA i (gS a.1 sx) (gS a.1 sy) (ivl a.1 sx).1 (ivl a.1 sx).2 (ivl a.1 sy).1 (ivl a.1 sy).2)], a.2.1, a.1.length :: K, phM i a.1 a.2.2.2 (bnM i a.1 a.2.2.2 sx sy) sx sy)
      | none => none
    else none
  | _ => none
/-- two names off, one long on -/
def lgP (t1 t2 : Nat) (a : AS) : Option AS := match a.2.2.1 with
  | sy :: sx :: K => if tag a.1 sx t2 && tag a.1 sy t1 then some (pcJ a.1 a.2.1 K a.2.2.2) else none
  | _ => none
def pureA (nL : Nat) (i : Instr) (ex : List Nat) (a : AS) : Option AS := match i with
  | .iconst n => pcI a.1 a.2.1 a.2.2.1 a.2.2.2 n
  | .bipush n => if -128 ≤ n ∧ n ≤ 127 then pcI a.1 a.2.1 a.2.2.1 a.2.2.2 n else none
  | .sipush n => if -32768 ≤ n ∧ n ≤ 32767 then pcI a.1 a.2.1 a.2.2.1 a.2.2.2 n else none
  | .ldc _ => match ex with
    | v :: _ => if Nat.blt v 4294967296 then pcI a.1 a.2.1 a.2.2.1 a.2.2.2 (if Nat.blt v 2147483648 then (v : Int) else (v : Int) - 4294967296) else none
    | _ => none
  | .ldc_w _ => match ex with
    | v :: _ => if Nat.blt v 4294967296 then pcI a.1 a.2.1 a.2.2.1 a.2.2.2 (if Nat.blt v 2147483648 then (v : Int) else (v : Int) - 4294967296) else none
    | _ => none
  | .ldc2_w _ => match ex with
    | _ :: _ => some (pcJ a.1 a.2.1 a.2.2.1 a.2.2.2)
    | _ => none
  | .lconst _ => some (pcJ a.1 a.2.1 a.2.2.1 a.2.2.2)
  | .aconst_null => some (a.1 ++ [(2, 3, 0, 0, 0, [])], a.2.1, a.1.length :: a.2.2.1, a.2.2.2)
  | .iload_n k => ldP 0 (k : Nat) a
  | .iload k => ldP 0 k a
  | .lload_n k => ldP 3 (k : Nat) a
  | .lload k => ldP 3 k a
  | .aload_n k => ldP 1 (k : Nat) a
  | .aload k => ldP 1 k a
  | .istore_n k => stP nL 0 (k : Nat) a
  | .istore k => stP nL 0 k a
  | .lstore_n k => stP2 nL (k : Nat) a
  | .lstore k => stP2 nL k a
  | .astore_n k => stP nL 1 (k : Nat) a
  | .astore k => stP nL 1 k a
  | .iinc k n => match a.2.1.lookup k with
    | some s => if tag a.1 s 0 && Nat.blt k nL && decide (FL ≤ n ∧ n ≤ FH) then
        match bnA .iadd (ivl a.1 s).1 (ivl a.1 s).2 n n with
        | some r => some (a.1 ++ [nwA a.1 r (offA .iadd (gS a.1 s) (0, 0, 0, 0, 0, []) (ivl a.1 s).1 (ivl a.1 s).2 n n)], stL (a.1 ++ [nwA a.1 r (offA .iadd (gS a.1 s) (0, 0, 0, 0, 0, []) (ivl a.1 s).1 (ivl a.1 s).2 n n)]) k a.1.length a.2.1, a.2.2.1, a.2.2.2)
        | none => none
      else none
    | none => none
  | .iadd => bnP .iadd a
  | .isub => bnP .isub a
  | .imul => bnP .imul a
  | .iand => bnP .iand a
  | .ior => bnP .ior a
  | .ixor => bnP .ixor a
  | .idiv => bnP .idiv a
  | .irem => bnP .irem a
  | .ishl => bnP .ishl a
  | .ishr => bnP .ishr a
  | .iushr => bnP .iushr a
  | .ladd => lgP 3 3 a
  | .lsub => lgP 3 3 a
  | .lmul => lgP 3 3 a
  | .land => lgP 3 3 a
  | .lor => lgP 3 3 a
  | .lshl => lgP 0 3 a
  | .lushr => lgP 0 3 a
  | .ineg => match a.2.2.1 with
    | s :: K => if tag a.1 s 0 then some (a.1 ++ [(0, (rgO (-(ivl a.1 s).2) (-(ivl a.1 s).1)).1, (rgO (-(ivl a.1 s).2) (-(ivl a.1 s).1)).2, a.1.length, 0, [])], a.2.1, a.1.length :: K, a.2.2.2) else none
    | _ => none
  | .i2b => match a.2.2.1 with
    | s :: K => if tag a.1 s 0 then some (a.1 ++ [(0, -128, 127, a.1.length, 0, [])], a.2.1, a.1.length :: K, a.2.2.2) else none
    | _ => none
  | .i2l => match a.2.2.1 with
    | s :: K => if tag a.1 s 0 then some (pcJ a.1 a.2.1 K a.2.2.2) else none
    | _ => none
  | .l2i => match a.2.2.1 with
    | s :: K => if tag a.1 s 3 then some (a.1 ++ [(0, FL, FH, a.1.length, 0, [])], a.2.1, a.1.length :: K, a.2.2.2) else none
    | _ => none
  | .lcmp => match a.2.2.1 with
    | sy :: sx :: K => if tag a.1 sx 3 && tag a.1 sy 3 then some (a.1 ++ [(0, FL, FH, a.1.length, 0, [])], a.2.1, a.1.length :: K, a.2.2.2) else none
    | _ => none
  | .dup => match a.2.2.1 with
    | s :: K => if Nat.blt (gS a.1 s).1 3 then some (a.1, a.2.1, s :: s :: K, a.2.2.2) else none
    | _ => none
  | .pop => match a.2.2.1 with
    | s :: K => if Nat.blt (gS a.1 s).1 3 then some (a.1, a.2.1, K, a.2.2.2) else none
    | _ => none
  | .pop2 => match a.2.2.1 with
    | s :: K => if tag a.1 s 3 then some (a.1, a.2.1, K, a.2.2.2) else none
    | _ => none
  | .dup2 => match a.2.2.1 with
    | s :: t :: K => if Nat.blt (gS a.1 s).1 3 && Nat.blt (gS a.1 t).1 3 then some (a.1, a.2.1, s :: t :: s :: t :: K, a.2.2.2) else none
    | _ => none
  | _ => none
section AbsQ
variable {ρ0 ρ : List Value} {S : List SI} {L : List (Nat × Nat)} {K : List Nat} {M : List ME} {a a' : AS} {ls : Lcl} {st : List Value} {σ : Sg} {nL : Nat}
theorem tag_eq {s t : Nat} (h : tag S s t = true) : (gS S s).1 = t := Nat.eq_of_beq_eq_true h
theorem pcI_ok {n : Int} {w : Int32} (hr : Rel ρ0 ρ (S, L, K, M) ls st σ) (h : pcI S L K M n = some a') (hw : w.toInt = n) : Rel ρ0 (ρ ++ [.int w]) a' ls (.int w :: st) σ := by
  unfold pcI at h
  split at h
  · cases h
    exact hr.pushN (okS_new hr.1 (by omega) (by omega))
  · cases h
theorem ldP_ok {t k : Nat} (hr : Rel ρ0 ρ a ls st σ) (h : ldP t k a = some a') : ∃ v s, ls.lookup k = some v ∧ ρ[s]? = some v ∧ (gS a.1 s).1 = t ∧ Rel ρ0 ρ a' ls (v :: st) σ := by
  obtain ⟨S, L, K, M⟩ := a
  unfold ldP at h
  split at h
  · rename_i s hs
    split at h
    · rename_i ht
      cases h
      obtain ⟨v, g1, g2⟩ := hr.2.2.1 _ (lookup_mem hs)
      exact ⟨v, s, g1, g2, tag_eq ht, hr.push g2⟩
    · cases h
  · cases h
theorem stP_ok {t k : Nat} (hr : Rel ρ0 ρ a ls st σ) (h : stP nL t k a = some a') : ∃ v s r, st = v :: r ∧ ρ[s]? = some v ∧ (gS a.1 s).1 = t ∧ k < nL ∧ Rel ρ0 ρ a' (set1 k v ls) r σ := by
  obtain ⟨S, L, K, M⟩ := a
  unfold stP at h
  split at h
  · rename_i s K' hK
    split at h
    · rename_i ht
      rw [Bool.and_eq_true] at ht
      cases h
      simp only at hK
      subst hK
      obtain ⟨v, r, rfl, g1, g2⟩ := hr.pop
      exact ⟨v, s, r, rfl, g1, tag_eq ht.1, Nat.le_of_ble_eq_true ht.2, g2.store g1⟩
    · cases h
  · cases h
theorem stP2_ok {k : Nat} (hr : Rel ρ0 ρ a ls st σ) (h : stP2 nL k a = some a') : ∃ v s r, st = v :: r ∧ ρ[s]? = some v ∧ (gS a.1 s).1 = 3 ∧ k + 1 < nL ∧ Rel ρ0 ρ a' (set2 k v ls) r σ := by
  obtain ⟨S, L, K, M⟩ := a
  unfold stP2 at h
  split at h
  · rename_i s K' hK
    split at h
    · rename_i ht
      rw [Bool.and_eq_true] at ht
      cases h
      simp only at hK
      subst hK
      obtain ⟨v, r, rfl, g1, g2⟩ := hr.pop
      exact ⟨v, s, r, rfl, g1, tag_eq ht.1, Nat.le_of_ble_eq_true ht.2, g2.store2 g1⟩
    · cases h
  · cases h
theorem Rel.mem (h : Rel ρ0 ρ (S, L, K, M) ls st σ) {M' : List ME} (hm : ∀ e ∈ M', memOK ρ σ e) : Rel ρ0 ρ (S, L, K, M') ls st σ := ⟨h.1, h.2.1, h.2.2.1, h.2.2.2.1, hm, h.2.2.2.2.2⟩
theorem memAdd (h : Rel ρ0 ρ (S, L, K, M) ls st σ) {e : ME} (he : memOK ρ σ e) : Rel ρ0 ρ (S, L, K, e :: M) ls st σ := h.mem (fun x hx => by
  rcases List.mem_cons.mp hx with rfl | hx
  · exact he
  · exact h.2.2.2.2.1 x hx)
theorem m4_ok (h : Rel ρ0 ρ (S, L, K, M) ls st σ) {sy : Nat} {y : Int32} (hy : ρ[sy]? = some (.int y)) (hm : M.any (fun e => Nat.beq e.1 4 && Nat.beq e.2.1 sy) = true) : ¬ y = 0 := by
  obtain ⟨e, he, hp⟩ := List.any_eq_true.mp hm
  rw [Bool.and_eq_true] at hp
  have hok := h.2.2.2.2.1 e he
  unfold memOK at hok
  rw [Nat.eq_of_beq_eq_true hp.1] at hok
  obtain ⟨x, h1, h2⟩ := hok
  rw [Nat.eq_of_beq_eq_true hp.2, hy] at h1
  cases h1
  exact h2
theorem phi_ok (h : Rel ρ0 ρ (S, L, K, M) ls st σ) {s c : Nat} {x : Int32} (hx : ρ[s]? = some (.int x)) (f2 : (ivl S s).1 ≤ x.toInt) (f3 : x.toInt ≤ (ivl S s).2) (hp : phi S M s = some c) : x.toBitVec.toNat % 4 = c := by
  unfold phi at hp
  split at hp
  · rename_i e he
    cases hp
    have hm := List.mem_of_find?_eq_some he
    have hc := List.find?_some he
    rw [Bool.and_eq_true] at hc
    have hok := h.2.2.2.2.1 e hm
    unfold memOK at hok
    rw [Nat.eq_of_beq_eq_true hc.1] at hok
    obtain ⟨y, h1, h2⟩ := hok
    rw [Nat.eq_of_beq_eq_true hc.2, hx] at h1
    cases h1
    exact h2
  · split at hp
    · cases hp
      obtain ⟨t1, t2⟩ := tn_nn (x := x) (by omega)
      have : x.toBitVec.toNat = (ivl S s).1.toNat := by omega
      rw [this]
    · cases hp
theorem phR_ok {i : Instr} (h : Rel ρ0 ρ (S, L, K, M) ls st σ) {sx sy c : Nat} {x y : Int32} (ex : ρ[sx]? = some (.int x)) (ey : ρ[sy]? = some (.int y)) (f2 : (ivl S sx).1 ≤ x.toInt) (f3 : x.toInt ≤ (ivl S sx).2) (k2 : (ivl S sy).1 ≤ y.toInt) (k3 : y.toInt ≤ (ivl S sy).2) (hp : phR i S M sx sy = some c) : (fI i x y).toBitVec.toNat % 4 = c := by
  cases i with
  | ishl =>
    simp only [phR] at hp
    split at hp
    · rename_i hc
      cases hp
      have k1 : y.toInt = ((y.toInt.toNat : Nat) : Int) := (Int.toNat_of_nonneg (by omega)).symm
      have hy2 : y = nI y.toInt.toNat := i_nI k1 (by omega)
      have h3 := pk_shl x (y &&& 31) y.toInt.toNat (by rw [hy2]; have := msk_lt y.toInt.toNat (by omega); rw [← hy2]; rw [← hy2] at this; exact this)
      show (x <<< (y &&& 31)).toBitVec.toNat % 4 = 0
      rw [h3]
      have e2 : (2 : Nat) ^ y.toInt.toNat = 4 * 2 ^ (y.toInt.toNat - 2) := by
        have : y.toInt.toNat = 2 + (y.toInt.toNat - 2) := by omega
        conv => lhs; rw [this]
        rw [Nat.pow_add]
      have e3 : x.toBitVec.toNat * 2 ^ y.toInt.toNat = 4 * (x.toBitVec.toNat * 2 ^ (y.toInt.toNat - 2)) := by rw [e2]; rw [Nat.mul_left_comm]
      rw [e3]
      omega
    · cases hp
  | iand =>
    simp only [phR] at hp
    split at hp
    · cases hp
      have hy1 : y = -4 := Int32.toInt_inj.mp (by have : (-4 : Int32).toInt = -4 := rfl; omega)
      show (x.toBitVec &&& y.toBitVec).toNat % 4 = 0
      rw [BitVec.toNat_and, hy1]
      have := Nat.and_mod_two_pow (a := x.toBitVec.toNat) (b := (-4 : Int32).toBitVec.toNat) (n := 2)
      have e : ((-4 : Int32).toBitVec.toNat) % 2 ^ 2 = 0 := by decide
      rw [e, Nat.and_zero] at this
      exact this
    · cases hp
  | ior =>
    simp only [phR] at hp
    split at hp
    · rename_i a b ha hb
      cases hp
      have h1 := phi_ok h ex f2 f3 ha
      have h2 := phi_ok h ey k2 k3 hb
      show (x.toBitVec ||| y.toBitVec).toNat % 4 = _
      rw [BitVec.toNat_or]
      have := Nat.or_mod_two_pow (a := x.toBitVec.toNat) (b := y.toBitVec.toNat) (n := 2)
      rw [← h1, ← h2]
      exact this
    · cases hp
  | iadd =>
    simp only [phR] at hp
    split at hp
    · rename_i a b ha hb
      cases hp
      have h1 := phi_ok h ex f2 f3 ha
      have h2 := phi_ok h ey k2 k3 hb
      show (x.toBitVec + y.toBitVec).toNat % 4 = _
      rw [BitVec.toNat_add]
      omega
    · cases hp
  | _ => cases hp
theorem rngP_ok {i : Instr} (hr : Rel ρ0 ρ (S, L, K, M) ls st σ) {sx sy : Nat} {x y : Int32} {r : Int × Int} (ex : ρ[sx]? = some (.int x)) (ey : ρ[sy]? = some (.int y)) (f2 : (ivl S sx).1 ≤ x.toInt) (f3 : x.toInt ≤ (ivl S sx).2) (k2 : (ivl S sy).1 ≤ y.toInt) (k3 : y.toInt ≤ (ivl S sy).2) (h : rngP i S M sx sy = some r) : (r.1 ≤ (fI i x y).toInt ∧ (fI i x y).toInt ≤ r.2) ∧ ((i = .idiv ∨ i = .irem) → ¬ y = 0) := by
  unfold rngP at h
  split at h
  · rename_i rg hb
    have hbn := bnA_ok (lo := rg.1) (hi := rg.2) hb f2 f3 k2 k3
    have hz : (i = .idiv ∨ i = .irem) → ¬ y = 0 := by
      rintro (rfl | rfl)
      · simp only [bnA] at hb
        split at hb
        · exact ine (by omega)
        · cases hb
      · simp only [bnA] at hb
        split at hb
        · exact ine (by omega)
        · cases hb
    refine ⟨?_, hz⟩
    cases h
    split
    · split
      · rename_i hc
        rw [Bool.and_eq_true, decide_eq_true_iff] at hc
        obtain ⟨e, he, hp⟩ := List.any_eq_true.mp hc.1
        rw [Bool.and_eq_true, Bool.and_eq_true] at hp
        have hok := hr.2.2.2.2.1 e he
        unfold memOK at hok
        rw [Nat.eq_of_beq_eq_true hp.1] at hok
        obtain ⟨x', y', h1, h2, h3⟩ := hok
        rw [Nat.eq_of_beq_eq_true hp.2.1, ex] at h1
        rw [Nat.eq_of_beq_eq_true hp.2.2, ey] at h2
        cases h1
        cases h2
        refine ⟨?_, hbn.2⟩
        have hs : (x - y).toInt = x.toInt - y.toInt := sub_ex (by omega) (by omega)
        have h1 := hbn.1
        show imax rg.1 0 ≤ (x - y).toInt
        have h1 : rg.1 ≤ (x - y).toInt := h1
        unfold imax
        split <;> omega
      · exact hbn
    · split
      · rename_i hc
        split
        · rename_i c hph
          have h1 := phi_ok hr ex f2 f3 hph
          have hy3 : y = 3 := Int32.toInt_inj.mp (by have : (3 : Int32).toInt = 3 := rfl; omega)
          have h4 : (x &&& y) = nI c := by
            rw [hy3, pk_and x (m := 3) 2 rfl, ← h1]
          have hc4 : c < 4 := by omega
          have h5 : (nI c).toInt = (c : Int) := nI_toInt (by omega)
          show (c : Int) ≤ (x &&& y).toInt ∧ (x &&& y).toInt ≤ (c : Int)
          rw [h4, h5]
          omega
        · exact hbn
      · exact hbn
    · exact hbn
  · split at h
    · split at h
      · rename_i hm
        cases h
        exact ⟨⟨w_lo _, w_hi _⟩, fun _ => m4_ok hr ey hm⟩
      · cases h
    · split at h
      · rename_i hm
        cases h
        exact ⟨⟨w_lo _, w_hi _⟩, fun _ => m4_ok hr ey hm⟩
      · cases h
    · cases h
theorem bnP_ok {i : Instr} (hr : Rel ρ0 ρ a ls st σ) (h : bnP i a = some a') : ∃ x y r, st = .int y :: .int x :: r ∧ Rel ρ0 (ρ ++ [.int (fI i x y)]) a' ls (.int (fI i x y) :: r) σ ∧ ((i = .idiv ∨ i = .irem) → ¬ y = 0) := by
  obtain ⟨S, L, K, M⟩ := a
  unfold bnP at h
  split at h
  · rename_i sy sx K' hK
    simp only at hK
    subst hK
    split at h
    · rename_i ht
      rw [Bool.and_eq_true] at ht
      have hx0 := tag_eq ht.1
      have hy0 := tag_eq ht.2
      split at h
      · rename_i rg hb
        cases h
        obtain ⟨vy, r1, rfl, e1, hr1⟩ := hr.pop
        obtain ⟨vx, r2, rfl, e2, hr2⟩ := hr1.pop
        obtain ⟨x, f1, f2, f3, f4⟩ := hr.int hx0
        obtain ⟨y, k1, k2, k3, k4⟩ := hr.int hy0
        rw [e1] at k1; cases k1
        rw [e2] at f1; cases f1
        obtain ⟨hbn, hz⟩ := rngP_ok hr e2 e1 f2 f3 k2 k3 hb
        have hok : okS (ρ ++ [.int (fI i x y)]) (nwA S rg (offA i (gS S sx) (gS S sy) (ivl S sx).1 (ivl S sx).2 (ivl S sy).1 (ivl S sy).2)) (.int (fI i x y)) := nwA_ok hr2.1 hbn.1 hbn.2 (fun b c ho => offA_ok ho f2 f3 k2 k3 f4 k4)
        have hp := hr2.pushN hok
        refine ⟨x, y, r2, rfl, ?_, hz⟩
        simp only at hb ⊢
        have hmain : Rel ρ0 (ρ ++ [.int (fI i x y)]) (S ++ [nwA S rg (offA i (gS S sx) (gS S sy) (ivl S sx).1 (ivl S sx).2 (ivl S sy).1 (ivl S sy).2)], L, S.length :: K', bnM i S M sx sy) ls (.int (fI i x y) :: r2) σ → Rel ρ0 (ρ ++ [.int (fI i x y)]) (S ++ [nwA S rg (offA i (gS S sx) (gS S sy) (ivl S sx).1 (ivl S sx).2 (ivl S sy).1 (ivl S sy).2)], L, S.length :: K', phM i S M (bnM i S M sx sy) sx sy) ls (.int (fI i x y) :: r2) σ := by
          intro h0
          unfold phM
          split
          · rename_i c hph
            exact memAdd h0 (e := (6, S.length, c, 0)) ⟨_, (hr2.grow hok).2, phR_ok hr e2 e1 f2 f3 k2 k3 hph⟩
          · exact h0
        refine hmain ?_
        unfold bnM
        split
        · split
          · rename_i hc
            refine memAdd hp ⟨x, fI .irem x y, at_app _ e2, (hr2.grow hok).2, ?_⟩
            have hy1 : 0 < y.toInt := by omega
            have hd := rem_ex (x := x) hy1
            show (x - x / y * y).toInt + ((0 : Nat) : Int) ≤ x.toInt
            rw [hd]
            have hs := Int.tmod_nonneg (a := x.toInt) y.toInt (by omega)
            have hn := Int.natAbs_tmod x.toInt y.toInt
            have h9 := Nat.mod_le x.toInt.natAbs y.toInt.natAbs
            omega
          · exact hp
        · split
          · rename_i hc
            exact memAdd hp ⟨fI .iand x y, x, (hr2.grow hok).2, at_app _ e2, fun e => and_up (k := 16) (y := y) (by decide) (by have : (2 : Int) ^ 16 = 65536 := rfl; omega) (by omega) e⟩
          · exact hp
        · exact hp
      · cases h
    · cases h
  · cases h
theorem okS_long {w : Int64} {r : List Value} : okS r (3, 0, 0, 0, 0, []) (.long w) := ⟨w, rfl⟩
theorem lgP_ok {t1 t2 : Nat} (hr : Rel ρ0 ρ a ls st σ) (h : lgP t1 t2 a = some a') : ∃ vx vy sx sy r, st = vy :: vx :: r ∧ ρ[sx]? = some vx ∧ ρ[sy]? = some vy ∧ (gS a.1 sx).1 = t2 ∧ (gS a.1 sy).1 = t1 ∧ ∀ w, Rel ρ0 (ρ ++ [.long w]) a' ls (.long w :: r) σ := by
  obtain ⟨S, L, K, M⟩ := a
  unfold lgP at h
  split at h
  · rename_i sy sx K' hK
    simp only at hK
    subst hK
    split at h
    · rename_i ht
      rw [Bool.and_eq_true] at ht
      cases h
      obtain ⟨vy, r1, rfl, e1, hr1⟩ := hr.pop
      obtain ⟨vx, r2, rfl, e2, hr2⟩ := hr1.pop
      exact ⟨vx, vy, sx, sy, r2, rfl, e2, e1, tag_eq ht.1, tag_eq ht.2, fun w => hr2.pushN okS_long⟩
    · cases h
  · cases h
theorem Rel.isI (h : Rel ρ0 ρ a ls st σ) {s : Nat} {v : Value} (hv : ρ[s]? = some v) (ht : (gS a.1 s).1 = 0) : ∃ w, v = .int w := by
  obtain ⟨S, L, K, M⟩ := a
  obtain ⟨w, g1, -⟩ := h.int ht
  rw [hv] at g1; cases g1; exact ⟨w, rfl⟩
theorem Rel.isJ (h : Rel ρ0 ρ a ls st σ) {s : Nat} {v : Value} (hv : ρ[s]? = some v) (ht : (gS a.1 s).1 = 3) : ∃ w, v = .long w := by
  obtain ⟨S, L, K, M⟩ := a
  obtain ⟨w, g1⟩ := h.long ht
  rw [hv] at g1; cases g1; exact ⟨w, rfl⟩
theorem Rel.isA (h : Rel ρ0 ρ a ls st σ) {s : Nat} {v : Value} (hv : ρ[s]? = some v) (ht : (gS a.1 s).1 = 1) : ∃ w, v = .ref w := by
  obtain ⟨S, L, K, M⟩ := a
  obtain ⟨w, g1, -⟩ := h.ref ht
  rw [hv] at g1; cases g1; exact ⟨w, rfl⟩
theorem ofI_toInt {n : Int} (h1 : FL ≤ n) (h2 : n ≤ FH) : (Int32.ofInt n).toInt = n := by
  unfold FL at h1; unfold FH at h2
  exact Int32.toInt_ofInt_of_le (by omega) (by omega)
theorem ofN_toInt {v : Nat} (h : v < 4294967296) : (Int32.ofNat v).toInt = if Nat.blt v 2147483648 then (v : Int) else (v : Int) - 4294967296 := by
  have e : (Int32.ofNat v).toBitVec.toNat = v := pk_tn (n := v) (by omega)
  have h1 := tn_iff (Int32.ofNat v)
  rw [e] at h1
  rw [h1]
  by_cases hv : v < 2147483648
  · rw [if_pos (by omega), if_pos (by rw [Nat.blt_eq]; exact hv)]
  · rw [if_neg (by omega), if_neg (by rw [Nat.blt_eq]; exact hv)]
    rfl
set_option maxHeartbeats 4000000 in
theorem pureA_ok {i : Instr} {ex : List Nat} (hr : Rel ρ0 ρ a ls st σ) (h : pureA nL i ex a = some a') : ∃ ρ' ls' st', pureI nL i ex ls st = some (ls', st') ∧ Rel ρ0 ρ' a' ls' st' σ := by
  obtain ⟨S, L, K, M⟩ := a
  have bn : ∀ i, bnP i (S, L, K, M) = some a' → (¬ (i = .idiv ∨ i = .irem)) → ∃ ρ' ls' st', bin1 (fI i) ls st = some (ls', st') ∧ Rel ρ0 ρ' a' ls' st' σ := by
    intro i h hi
    obtain ⟨x, y, r, rfl, g1, -⟩ := bnP_ok hr h
    exact ⟨_, ls, _, rfl, g1⟩
  have bz : ∀ i, bnP i (S, L, K, M) = some a' → (i = .idiv ∨ i = .irem) → ∃ ρ' ls' st', bin0 (fI i) ls st = some (ls', st') ∧ Rel ρ0 ρ' a' ls' st' σ := by
    intro i h hi
    obtain ⟨x, y, r, rfl, g1, g2⟩ := bnP_ok hr h
    refine ⟨_, ls, _, ?_, g1⟩
    unfold bin0
    simp only
    rw [if_neg (g2 hi)]
  have lg : ∀ (f : Int64 → Int64 → Int64), lgP 3 3 (S, L, K, M) = some a' → ∃ ρ' ls' st', bin2 f ls st = some (ls', st') ∧ Rel ρ0 ρ' a' ls' st' σ := by
    intro f h
    obtain ⟨vx, vy, sx, sy, r, rfl, e1, e2, t1, t2, g⟩ := lgP_ok hr h
    obtain ⟨x, rfl⟩ := hr.isJ e1 t1
    obtain ⟨y, rfl⟩ := hr.isJ e2 t2
    exact ⟨_, ls, _, rfl, g _⟩
  have lh : ∀ (f : Int64 → Int32 → Int64), lgP 0 3 (S, L, K, M) = some a' → ∃ ρ' ls' st', sh2 f ls st = some (ls', st') ∧ Rel ρ0 ρ' a' ls' st' σ := by
    intro f h
    obtain ⟨vx, vy, sx, sy, r, rfl, e1, e2, t1, t2, g⟩ := lgP_ok hr h
    obtain ⟨x, rfl⟩ := hr.isJ e1 t1
    obtain ⟨y, rfl⟩ := hr.isI e2 t2
    exact ⟨_, ls, _, rfl, g _⟩
  have li : ∀ k, ldP 0 k (S, L, K, M) = some a' → ∃ ρ' ls' st', ldi k ls st = some (ls', st') ∧ Rel ρ0 ρ' a' ls' st' σ := by
    intro k h
    obtain ⟨v, s, e1, e2, t1, g⟩ := ldP_ok hr h
    obtain ⟨x, rfl⟩ := hr.isI e2 t1
    exact ⟨ρ, ls, _, by unfold ldi; rw [e1], g⟩
  have lj : ∀ k, ldP 3 k (S, L, K, M) = some a' → ∃ ρ' ls' st', ldl k ls st = some (ls', st') ∧ Rel ρ0 ρ' a' ls' st' σ := by
    intro k h
    obtain ⟨v, s, e1, e2, t1, g⟩ := ldP_ok hr h
    obtain ⟨x, rfl⟩ := hr.isJ e2 t1
    exact ⟨ρ, ls, _, by unfold ldl; rw [e1], g⟩
  have la : ∀ k, ldP 1 k (S, L, K, M) = some a' → ∃ ρ' ls' st', lda k ls st = some (ls', st') ∧ Rel ρ0 ρ' a' ls' st' σ := by
    intro k h
    obtain ⟨v, s, e1, e2, t1, g⟩ := ldP_ok hr h
    obtain ⟨x, rfl⟩ := hr.isA e2 t1
    exact ⟨ρ, ls, _, by unfold lda; rw [e1], g⟩
  have si : ∀ k, stP nL 0 k (S, L, K, M) = some a' → ∃ ρ' ls' st', sti nL k ls st = some (ls', st') ∧ Rel ρ0 ρ' a' ls' st' σ := by
    intro k h
    obtain ⟨v, s, r, rfl, e2, t1, hk, g⟩ := stP_ok hr h
    obtain ⟨x, rfl⟩ := hr.isI e2 t1
    exact ⟨ρ, _, _, by unfold sti; simp only; rw [if_pos hk], g⟩
  have sa : ∀ k, stP nL 1 k (S, L, K, M) = some a' → ∃ ρ' ls' st', sta nL k ls st = some (ls', st') ∧ Rel ρ0 ρ' a' ls' st' σ := by
    intro k h
    obtain ⟨v, s, r, rfl, e2, t1, hk, g⟩ := stP_ok hr h
    obtain ⟨x, rfl⟩ := hr.isA e2 t1
    exact ⟨ρ, _, _, by unfold sta; simp only; rw [if_pos hk], g⟩
  have sj : ∀ k, stP2 nL k (S, L, K, M) = some a' → ∃ ρ' ls' st', stl nL k ls st = some (ls', st') ∧ Rel ρ0 ρ' a' ls' st' σ := by
    intro k h
    obtain ⟨v, s, r, rfl, e2, t1, hk, g⟩ := stP2_ok hr h
    obtain ⟨x, rfl⟩ := hr.isJ e2 t1
    exact ⟨ρ, _, _, by unfold stl; simp only; rw [if_pos hk], g⟩
  have un : ∀ {s : Nat} {K' : List Nat}, K = s :: K' → ∃ v r, st = v :: r ∧ ρ[s]? = some v ∧ Rel ρ0 ρ (S, L, K', M) ls r σ := by
    intro s K' e
    subst e
    exact hr.pop
  have wk : ∀ {s : Nat} {v : Value}, ρ[s]? = some v → Nat.blt (gS S s).1 3 = true → v.category = 1 := by
    intro s v hv hb
    have := hr.catL hv
    have h3 : ¬ 3 ≤ (gS S s).1 := by have := Nat.le_of_ble_eq_true hb; omega
    rcases lv_cat v with e | e
    · exact e
    · exact absurd (this.mpr e) h3
  cases i with
  | iconst n =>
    simp only [pureA] at h
    have hb : FL ≤ n ∧ n ≤ FH := by unfold pcI at h; split at h; assumption; cases h
    exact ⟨_, ls, _, rfl, pcI_ok hr h (ofI_toInt hb.1 hb.2)⟩
  | bipush n =>
    simp only [pureA] at h
    split at h
    · rename_i hb
      exact ⟨_, ls, _, rfl, pcI_ok hr h (by rw [Int8.toInt_toInt32]; exact Int8.toInt_ofInt_of_le (by omega) (by omega))⟩
    · cases h
  | sipush n =>
    simp only [pureA] at h
    split at h
    · rename_i hb
      exact ⟨_, ls, _, rfl, pcI_ok hr h (by rw [Int16.toInt_toInt32]; exact Int16.toInt_ofInt_of_le (by omega) (by omega))⟩
    · cases h
  | ldc n =>
    simp only [pureA] at h
    split at h
    · split at h
      · rename_i hb
        exact ⟨_, ls, _, rfl, pcI_ok hr h (ofN_toInt (Nat.le_of_ble_eq_true hb))⟩
      · cases h
    · cases h
  | ldc_w n =>
    simp only [pureA] at h
    split at h
    · split at h
      · rename_i hb
        exact ⟨_, ls, _, rfl, pcI_ok hr h (ofN_toInt (Nat.le_of_ble_eq_true hb))⟩
      · cases h
    · cases h
  | ldc2_w n =>
    simp only [pureA] at h
    split at h
    · cases h
      exact ⟨_, ls, _, rfl, hr.pushN okS_long⟩
    · cases h
  | lconst n =>
    cases h
    exact ⟨_, ls, _, rfl, hr.pushN okS_long⟩
  | aconst_null =>
    cases h
    exact ⟨_, ls, _, rfl, hr.pushN (Or.inl rfl)⟩
  | iload_n k => exact li _ h
  | iload k => exact li _ h
  | lload_n k => exact lj _ h
  | lload k => exact lj _ h
  | aload_n k => exact la _ h
  | aload k => exact la _ h
  | istore_n k => exact si _ h
  | istore k => exact si _ h
  | lstore_n k => exact sj _ h
  | lstore k => exact sj _ h
  | astore_n k => exact sa _ h
  | astore k => exact sa _ h
  | iinc k n =>
    simp only [pureA] at h
    split at h
    · rename_i s hs
      split at h
      · rename_i hc
        simp only [Bool.and_eq_true, decide_eq_true_eq] at hc
        obtain ⟨⟨c1, c2⟩, c3⟩ := hc
        have t0 := tag_eq c1
        split at h
        · rename_i rg hb
          cases h
          obtain ⟨v, g1, g2⟩ := hr.2.2.1 _ (lookup_mem hs)
          obtain ⟨x, f1, f2, f3, f4⟩ := hr.int t0
          simp only at g2
          rw [g2] at f1
          cases f1
          have hn := ofI_toInt c3.1 c3.2
          have hbn := bnA_ok (lo := rg.1) (hi := rg.2) (x := x) (y := Int32.ofInt n) hb f2 f3 (by omega) (by omega)
          have hgr := hr.grow (v := .int (x + Int32.ofInt n)) (si := nwA S rg (offA .iadd (gS S s) (0, 0, 0, 0, 0, []) (ivl S s).1 (ivl S s).2 n n)) (nwA_ok hr.1 hbn.1 hbn.2 (fun b c ho => by
            have hne : n = n := rfl
            simp only [offA, if_true] at ho
            split at ho
            · rename_i hin
              cases ho
              obtain ⟨z, q1, q2⟩ := f4
              refine ⟨z, q1, ?_⟩
              have : (x + Int32.ofInt n).toInt = x.toInt + n := by rw [add_ex] <;> omega
              omega
            · cases ho))
          refine ⟨_, _, st, ?_, hgr.1.store hgr.2⟩
          simp only [pureI]
          rw [g1]
          simp only
          rw [if_pos (show k < nL from Nat.le_of_ble_eq_true c2)]
        · cases h
      · cases h
    · cases h
  | iadd => exact bn .iadd h (by simp)
  | isub => exact bn .isub h (by simp)
  | imul => exact bn .imul h (by simp)
  | iand => exact bn .iand h (by simp)
  | ior => exact bn .ior h (by simp)
  | ixor => exact bn .ixor h (by simp)
  | idiv => exact bz .idiv h (by simp)
  | irem => exact bz .irem h (by simp)
  | ishl => exact bn .ishl h (by simp)
  | ishr => exact bn .ishr h (by simp)
  | iushr => exact bn .iushr h (by simp)
  | ladd => exact lg _ h
  | lsub => exact lg _ h
  | lmul => exact lg _ h
  | land => exact lg _ h
  | lor => exact lg _ h
  | lshl => exact lh _ h
  | lushr => exact lh _ h
  | ineg =>
    simp only [pureA] at h
    split at h
    · rename_i s K'
      split at h
      · rename_i ht
        cases h
        obtain ⟨v, r, rfl, e1, hr1⟩ := hr.pop
        obtain ⟨x, f1, f2, f3, f4⟩ := hr.int (tag_eq ht)
        rw [e1] at f1
        cases f1
        have := rgO_in (lo := -(ivl S s).2) (hi := -(ivl S s).1) (fun p q => neg_ex (x := x) p q) (by omega) (by omega)
        exact ⟨_, ls, _, rfl, hr1.pushN (okS_new hr1.1 this.1 this.2)⟩
      · cases h
    · cases h
  | i2b =>
    simp only [pureA] at h
    split at h
    · rename_i s K'
      split at h
      · rename_i ht
        cases h
        obtain ⟨v, r, rfl, e1, hr1⟩ := hr.pop
        obtain ⟨x, rfl⟩ := hr.isI e1 (tag_eq ht)
        have := i2b_rg x
        exact ⟨_, ls, _, rfl, hr1.pushN (okS_new hr1.1 this.1 this.2)⟩
      · cases h
    · cases h
  | i2l =>
    simp only [pureA] at h
    split at h
    · rename_i s K'
      split at h
      · rename_i ht
        cases h
        obtain ⟨v, r, rfl, e1, hr1⟩ := hr.pop
        obtain ⟨x, rfl⟩ := hr.isI e1 (tag_eq ht)
        exact ⟨_, ls, _, rfl, hr1.pushN okS_long⟩
      · cases h
    · cases h
  | l2i =>
    simp only [pureA] at h
    split at h
    · rename_i s K'
      split at h
      · rename_i ht
        cases h
        obtain ⟨v, r, rfl, e1, hr1⟩ := hr.pop
        obtain ⟨x, rfl⟩ := hr.isJ e1 (tag_eq ht)
        exact ⟨_, ls, _, rfl, hr1.pushN (okS_new hr1.1 (w_lo _) (w_hi _))⟩
      · cases h
    · cases h
  | lcmp =>
    simp only [pureA] at h
    split at h
    · rename_i sy sx K'
      split at h
      · rename_i ht
        rw [Bool.and_eq_true] at ht
        cases h
        obtain ⟨v, r, rfl, e1, hr1⟩ := hr.pop
        obtain ⟨v2, r2, rfl, e2, hr2⟩ := hr1.pop
        obtain ⟨y, rfl⟩ := hr.isJ e1 (tag_eq ht.2)
        obtain ⟨x, rfl⟩ := hr.isJ e2 (tag_eq ht.1)
        exact ⟨_, ls, _, rfl, hr2.pushN (okS_new hr2.1 (w_lo _) (w_hi _))⟩
      · cases h
    · cases h
  | dup =>
    simp only [pureA] at h
    split at h
    · rename_i s K'
      split at h
      · rename_i ht
        cases h
        obtain ⟨v, r, rfl, e1, hr1⟩ := hr.pop
        refine ⟨ρ, ls, _, ?_, (hr1.push e1).push e1⟩
        simp only [pureI]
        rw [if_pos (wk e1 ht)]
      · cases h
    · cases h
  | pop =>
    simp only [pureA] at h
    split at h
    · rename_i s K'
      split at h
      · rename_i ht
        cases h
        obtain ⟨v, r, rfl, e1, hr1⟩ := hr.pop
        refine ⟨ρ, ls, _, ?_, hr1⟩
        simp only [pureI]
        rw [if_pos (wk e1 ht)]
      · cases h
    · cases h
  | pop2 =>
    simp only [pureA] at h
    split at h
    · rename_i s K'
      split at h
      · rename_i ht
        cases h
        obtain ⟨v, r, rfl, e1, hr1⟩ := hr.pop
        obtain ⟨x, rfl⟩ := hr.isJ e1 (tag_eq ht)
        exact ⟨ρ, ls, _, rfl, hr1⟩
      · cases h
    · cases h
  | dup2 =>
    simp only [pureA] at h
    split at h
    · rename_i s t K'
      split at h
      · rename_i ht
        rw [Bool.and_eq_true] at ht
        cases h
        obtain ⟨v, r, rfl, e1, hr1⟩ := hr.pop
        obtain ⟨v2, r2, rfl, e2, hr2⟩ := hr1.pop
        refine ⟨ρ, ls, _, ?_, (((hr2.push e2).push e1).push e2).push e1⟩
        simp only [pureI]
        rw [if_pos ⟨wk e1 ht.1, wk e2 ht.2⟩]
      · cases h
    · cases h
  | _ => cases h
end AbsQ
