/-! the world of the cells at addresses; the pure machine is the machine -/
abbrev Th : Type := va_G × (Nat → Nat) × (Nat → ClassId)
def tv (θ : Th) : Value → Value
  | .ref q => .ref (θ.2.1 q)
  | v => v
theorem tv_cat (θ : Th) (v : Value) : (tv θ v).category = v.category := by cases v <;> rfl
def tvL (θ : Th) (ls : Lcl) : Lcl := ls.map (fun q => (q.1, tv θ q.2))
def mkE (θ : Th) (σ : Sg) (q : Nat) : va_E := match knd q with
  | some (t, n, fs) => if t = 0 then .inr (n, (List.range fs.length).map (fun k => tv θ (fV σ q k (fs.getD k (0, 0)).1)))
    else if t ≤ 3 then .inl (θ.2.2 t, n, .inl (σ.1 q))
    else if t = 4 then .inl (θ.2.2 t, n, .inr (.inl (σ.2 q)))
    else .inl (θ.2.2 t, n, .inr (.inr (.inr (.inr (fun j => some (θ.2.1 (tg q j)))))))
  | none => .inl (0, 0, .inl (fun _ => 0))
def mkW (θ : Th) (σ : Sg) : va_W := (List.range LAY.length).map (fun q => (θ.2.1 q, mkE θ σ q))
def tyT (t : Nat) : FieldType := match t with
  | 1 => .int
  | 2 => .byte
  | 3 => .boolean
  | 4 => .long
  | 5 => .object "SignalTable$Game"
  | 6 => .array .int
  | _ => .array .long
def tysW (θ : Th) : List (ClassId × FieldType) := [(θ.2.2 1, .int), (θ.2.2 2, .byte), (θ.2.2 3, .boolean), (θ.2.2 4, .long), (θ.2.2 5, .object "SignalTable$Game"), (θ.2.2 6, .array .int), (θ.2.2 7, .array .long)]
theorem tysW_at (θ : Th) {t : Nat} (h1 : 1 ≤ t) (h2 : t ≤ 7) : (tysW θ)[t - 1]? = some (θ.2.2 t, tyT t) := by
  have h : t = 1 ∨ t = 2 ∨ t = 3 ∨ t = 4 ∨ t = 5 ∨ t = 6 ∨ t = 7 := by omega
  rcases h with rfl | rfl | rfl | rfl | rfl | rfl | rfl <;> rfl
def Hw (θ : Th) (A : Nat → Prop) (σ : Sg) (H : Heap) : Prop := va_P θ.1 vwCl (mkW θ σ) H ∧ va_D A (mkW θ σ)
theorem knd_lt {q : Nat} {K : KD} (h : knd q = some K) : q < LAY.length := by
  unfold knd at h
  cases hq : LAY[q]? with
  | none => rw [hq] at h; cases h
  | some c => exact (List.getElem?_eq_some_iff.mp hq).1
theorem mkW_at (θ : Th) (σ : Sg) {q : Nat} (h : q < LAY.length) : (mkW θ σ)[q]? = some (θ.2.1 q, mkE θ σ q) := by
  unfold mkW
  rw [List.getElem?_map, List.getElem?_range h]
  rfl
theorem mkE_congr (θ : Th) {σ σ' : Sg} {q : Nat} (h1 : σ.1 q = σ'.1 q) (h2 : σ.2 q = σ'.2 q) : mkE θ σ q = mkE θ σ' q := by
  unfold mkE fV
  rw [h1, h2]
theorem mkW_set (θ : Th) {σ σ' : Sg} {q : Nat} {x : va_E} (hx : x = mkE θ σ' q) (h : ∀ q', q' ≠ q → σ.1 q' = σ'.1 q' ∧ σ.2 q' = σ'.2 q') : (mkW θ σ).set q (θ.2.1 q, x) = mkW θ σ' := by
  subst hx
  apply List.ext_getElem?
  intro i
  rw [List.getElem?_set]
  by_cases hi : i < LAY.length
  · rw [mkW_at θ σ hi, mkW_at θ σ' hi]
    by_cases hq : q = i
    · subst hq
      simp [mkW, hi]
    · rw [if_neg hq, mkE_congr θ (h i (fun e => hq e.symm)).1 (h i (fun e => hq e.symm)).2]
  · have e1 : (mkW θ σ)[i]? = none := List.getElem?_eq_none (by simp [mkW]; omega)
    have e2 : (mkW θ σ')[i]? = none := List.getElem?_eq_none (by simp [mkW]; omega)
    rw [e1, e2]
    by_cases hq : q = i
    · subst hq
      simp [mkW, hi]
    · rw [if_neg hq]
theorem s1_ne (σ : Sg) {q k q' : Nat} (x : Int32) (h : q' ≠ q) : σ.1 q' = (s1 σ q k x).1 q' ∧ σ.2 q' = (s1 σ q k x).2 q' := by
  refine ⟨?_, rfl⟩
  funext j
  simp [s1, h]
theorem s2_ne (σ : Sg) {q k q' : Nat} (x : Int64) (h : q' ≠ q) : σ.1 q' = (s2 σ q k x).1 q' ∧ σ.2 q' = (s2 σ q k x).2 q' := by
  refine ⟨rfl, ?_⟩
  funext j
  simp [s2, h]
theorem s1_row (σ : Sg) (q k : Nat) (x : Int32) : (s1 σ q k x).1 q = upd (σ.1 q) k x := by
  funext j
  simp [s1, upd]
/-- an object's entry -/
theorem mkE_obj (θ : Th) (σ : Sg) {q n : Nat} {fs : List (Nat × Nat)} (h : knd q = some (0, n, fs)) : mkE θ σ q = .inr (n, (List.range fs.length).map (fun k => tv θ (fV σ q k (fs.getD k (0, 0)).1))) := by
  unfold mkE
  rw [h]
  rfl
theorem mkE_int (θ : Th) (σ : Sg) {q t n : Nat} {fs : List (Nat × Nat)} (h : knd q = some (t, n, fs)) (h1 : 1 ≤ t) (h2 : t ≤ 3) : mkE θ σ q = .inl (θ.2.2 t, n, .inl (σ.1 q)) := by
  unfold mkE
  rw [h]
  simp only
  rw [if_neg (by omega), if_pos h2]
theorem mkE_long (θ : Th) (σ : Sg) {q n : Nat} {fs : List (Nat × Nat)} (h : knd q = some (4, n, fs)) : mkE θ σ q = .inl (θ.2.2 4, n, .inr (.inl (σ.2 q))) := by
  unfold mkE
  rw [h]
  rfl
theorem mkE_ref (θ : Th) (σ : Sg) {q t n : Nat} {fs : List (Nat × Nat)} (h : knd q = some (t, n, fs)) (h1 : 5 ≤ t) : mkE θ σ q = .inl (θ.2.2 t, n, .inr (.inr (.inr (.inr (fun j => some (θ.2.1 (tg q j))))))) := by
  unfold mkE
  rw [h]
  simp only
  rw [if_neg (by omega), if_neg (by omega), if_neg (by omega)]
theorem inR_in {i : Int32} {n : Nat} (h : inR i n = true) : vp_in i n := by
  unfold inR at h
  unfold vp_in
  simpa using h
theorem lookup_mem {α : Type} : ∀ {l : List (Nat × α)} {k : Nat} {v : α}, l.lookup k = some v → (k, v) ∈ l
  | [], _, _, h => by cases h
  | (j, w) :: l, k, v, h => by
    rw [List.lookup_cons] at h
    by_cases hk : k = j
    · subst hk
      simp at h
      subst h
      exact List.mem_cons_self
    · have : (k == j) = false := by simp [hk]
      rw [this] at h
      exact List.mem_cons_of_mem _ (lookup_mem h)
theorem tvL_lookup {θ : Th} {ls : Lcl} {lsA : Array Slot} {nL k : Nat} {v : Value} (hl : lv_has lsA nL (tvL θ ls)) (h : ls.lookup k = some v) : lsA[k]? = some (.val (tv θ v)) :=
  hl.2.2 (k, tv θ v) (List.mem_map.mpr ⟨(k, v), lookup_mem h, rfl⟩)
theorem tvL_set1 (θ : Th) (i : Nat) (v : Value) (ls : Lcl) : (i, tv θ v) :: (tvL θ ls).filter (fun q => !(q.1 == i) && !(q.1 + 1 == i && q.2.category == 2)) = tvL θ (set1 i v ls) := by
  unfold set1 tvL
  rw [List.map_cons, List.filter_map]
  congr 2
  apply List.filter_congr
  intro q _
  simp [tv_cat]
theorem tvL_set2 (θ : Th) (i : Nat) (v : Value) (ls : Lcl) : (i, tv θ v) :: (tvL θ ls).filter (fun q => !(q.1 == i) && (!(q.1 == i + 1) && !(q.1 + 1 == i && q.2.category == 2))) = tvL θ (set2 i v ls) := by
  unfold set2 tvL
  rw [List.map_cons, List.filter_map]
  congr 2
  apply List.filter_congr
  intro q _
  simp [tv_cat]
def lenI (i : Instr) : Nat := match i with
  | .bipush _ => 2
  | .sipush _ => 3
  | .ldc _ => 2
  | .ldc_w _ => 3
  | .ldc2_w _ => 3
  | .iload _ => 2
  | .lload _ => 2
  | .aload _ => 2
  | .istore _ => 2
  | .lstore _ => 2
  | .astore _ => 2
  | .iinc _ _ => 3
  | .getfield _ => 3
  | .putfield _ => 3
  | .ifCond _ _ => 3
  | .if_icmp _ _ => 3
  | .if_acmp _ _ => 3
  | .goto _ => 3
  | .invokevirtual _ => 3
  | .invokestatic _ => 3
  | .tableswitch _ _ _ _ => 0
  | .lookupswitch _ _ => 0
  | _ => 1
/-- the words that an instruction needs -/
def okL (P : List MI) (own : String) (i : Instr) (ex : List Nat) : Prop := match i with
  | .ldc idx => ∀ v ∈ ex.head?, Jvm.Cond.constant own idx (Int32.ofNat v) ∈ lwg
  | .ldc_w idx => ∀ v ∈ ex.head?, Jvm.Cond.constant own idx (Int32.ofNat v) ∈ lwg
  | .ldc2_w idx => ∀ v ∈ ex.head?, Jvm.Cond.constantLong own idx (Int64.ofNat v) ∈ lwg
  | .getfield idx => ∀ ci k r, ex = ci :: k :: r → ∀ C T N, vwCl[ci]? = some (C, T, N) → k < N ∧ Jvm.Cond.fieldLink own idx (T k).1 (T k).2.1 (T k).2.2.1 ∈ lwg
  | .putfield idx => ∀ ci k r, ex = ci :: k :: r → ∀ C T N, vwCl[ci]? = some (C, T, N) → k < N ∧ Jvm.Cond.fieldLink own idx (T k).1 (T k).2.1 (T k).2.2.1 ∈ lwg ∧ (T k).2.2.2 = false
  | .invokevirtual idx => ∀ mj n ci r, ex = mj :: n :: ci :: r → ∀ Mj, P[mj]? = some Mj → ∀ C T N, vwCl[ci]? = some (C, T, N) → Jvm.Cond.methodLink own idx Mj.1 ∈ lwg ∧ Jvm.Cond.instanceMethod Mj.1 ∈ lwg ∧ Jvm.Cond.selects C Mj.1 Mj.1 ∈ lwg ∧ Jvm.Cond.initialized C ∈ lwg ∧ Mj.1.cls = C ∧ Mj.1.cls ≠ "java/lang/invoke/MethodHandle" ∧ Mj.1.cls ≠ "java/lang/invoke/VarHandle" ∧ (parseMethodDescriptor Mj.1.desc).map (fun d => d.parameters.length) = some n
  | .invokestatic idx => ∀ mj n r, ex = mj :: n :: r → (mj = 1000 → Jvm.Cond.methodLink own idx Lib.Math.max.name ∈ lwg) ∧ (mj = 1001 → Jvm.Cond.methodLink own idx Lib.Math.min.name ∈ lwg) ∧ ∀ Mj, P[mj]? = some Mj → Jvm.Cond.methodLink own idx Mj.1 ∈ lwg ∧ Jvm.Cond.static Mj.1 ∈ lwg ∧ Jvm.Cond.initialized Mj.1.cls ∈ lwg ∧ Mj.1.cls ≠ "java/lang/invoke/MethodHandle" ∧ Mj.1.cls ≠ "java/lang/invoke/VarHandle" ∧ (parseMethodDescriptor Mj.1.desc).map (fun d => d.parameters.length) = some n
  | _ => True
def okE (P : List MI) (M : MI) (pc : Nat) (en : EN) : Prop := decode M.2.1 pc = .ok (en.1, en.2.1) ∧ (lenI en.1 = 0 ∨ en.2.1 = lenI en.1) ∧ okL P M.1.cls en.1 en.2.2
def okM (P : List MI) (M : MI) : Prop := plainName M.1.cls = true ∧ Jvm.Cond.code M.1 M.2.1 M.2.2.1 M.2.2.2.1 ∈ lwg ∧ M.2.2.1 ≤ 45 ∧ ∀ pc en, M.2.2.2.2.lookup pc = some en → okE P M pc en
section Sound
variable {p : Program} {l : Launch} {e : Env} {R : Room} {s : State} {m : MethodId} {args : Array Value} {below : List Frame} {meth : Method} {c : Code} {H : Heap} {locs : List Loc} {cells slots : Nat} {Q : State → Prop} {cc : ByteArray} {pc : Nat} {lsA : Array Slot} {θ : Th} {A : Nat → Prop} {H0 : Heap} {own : String} {nL : Nat}
theorem bin1_some {f : Int32 → Int32 → Int32} {ls ls' : Lcl} {st st' : List Value} (h : bin1 f ls st = some (ls', st')) : ∃ x y r, st = .int y :: .int x :: r ∧ ls' = ls ∧ st' = .int (f x y) :: r := by
  unfold bin1 at h
  split at h
  · cases h; exact ⟨_, _, _, rfl, rfl, rfl⟩
  · cases h
theorem bin0_some {f : Int32 → Int32 → Int32} {ls ls' : Lcl} {st st' : List Value} (h : bin0 f ls st = some (ls', st')) : ∃ x y r, st = .int y :: .int x :: r ∧ ls' = ls ∧ st' = .int (f x y) :: r ∧ ¬ y = 0 := by
  unfold bin0 at h
  split at h
  · split at h
    · cases h
    · rename_i hne
      cases h; exact ⟨_, _, _, rfl, rfl, rfl, hne⟩
  · cases h
theorem bin2_some {f : Int64 → Int64 → Int64} {ls ls' : Lcl} {st st' : List Value} (h : bin2 f ls st = some (ls', st')) : ∃ x y r, st = .long y :: .long x :: r ∧ ls' = ls ∧ st' = .long (f x y) :: r := by
  unfold bin2 at h
  split at h
  · cases h; exact ⟨_, _, _, rfl, rfl, rfl⟩
  · cases h
theorem sh2_some {f : Int64 → Int32 → Int64} {ls ls' : Lcl} {st st' : List Value} (h : sh2 f ls st = some (ls', st')) : ∃ x y r, st = .int y :: .long x :: r ∧ ls' = ls ∧ st' = .long (f x y) :: r := by
  unfold sh2 at h
  split at h
  · cases h; exact ⟨_, _, _, rfl, rfl, rfl⟩
  · cases h
theorem ldi_some {k : Nat} {ls ls' : Lcl} {st st' : List Value} (h : ldi k ls st = some (ls', st')) : ∃ x, ls.lookup k = some (.int x) ∧ ls' = ls ∧ st' = .int x :: st := by
  unfold ldi at h
  split at h
  · rename_i hq
    cases h; exact ⟨_, hq, rfl, rfl⟩
  · cases h
theorem ldl_some {k : Nat} {ls ls' : Lcl} {st st' : List Value} (h : ldl k ls st = some (ls', st')) : ∃ x, ls.lookup k = some (.long x) ∧ ls' = ls ∧ st' = .long x :: st := by
  unfold ldl at h
  split at h
  · rename_i hq
    cases h; exact ⟨_, hq, rfl, rfl⟩
  · cases h
theorem lda_some {k : Nat} {ls ls' : Lcl} {st st' : List Value} (h : lda k ls st = some (ls', st')) : ∃ x, ls.lookup k = some (.ref x) ∧ ls' = ls ∧ st' = .ref x :: st := by
  unfold lda at h
  split at h
  · rename_i hq
    cases h; exact ⟨_, hq, rfl, rfl⟩
  · cases h
theorem sti_some {nL k : Nat} {ls ls' : Lcl} {st st' : List Value} (h : sti nL k ls st = some (ls', st')) : ∃ x, st = .int x :: st' ∧ k < nL ∧ ls' = set1 k (.int x) ls := by
  unfold sti at h
  split at h
  · split at h
    · rename_i hk
      cases h; exact ⟨_, rfl, hk, rfl⟩
    · cases h
  · cases h
theorem stl_some {nL k : Nat} {ls ls' : Lcl} {st st' : List Value} (h : stl nL k ls st = some (ls', st')) : ∃ x, st = .long x :: st' ∧ k + 1 < nL ∧ ls' = set2 k (.long x) ls := by
  unfold stl at h
  split at h
  · split at h
    · rename_i hk
      cases h; exact ⟨_, rfl, hk, rfl⟩
    · cases h
  · cases h
theorem sta_some {nL k : Nat} {ls ls' : Lcl} {st st' : List Value} (h : sta nL k ls st = some (ls', st')) : ∃ x, st = .ref x :: st' ∧ k < nL ∧ ls' = set1 k (.ref x) ls := by
  unfold sta at h
  split at h
  · split at h
    · rename_i hk
      cases h; exact ⟨_, rfl, hk, rfl⟩
    · cases h
  · cases h
set_option maxHeartbeats 4000000 in
theorem pureI_sound {P : List MI} {i : Instr} {len : Nat} {ex : List Nat} {ls ls' : Lcl} {st st' : List Value} (hx : p.tables.exec = Jvm.exec) (hb : c.code = cc) (hown : s.vm.findClass own = some m.cls) (hts : ∀ w ∈ lwg, w.before args s = true) (hdg0 : decode cc pc = .ok (i, len)) (hlen : lenI i = 0 ∨ len = lenI i) (hok : okL P own i ex) (h : pureI nL i ex ls st = some (ls', st')) (hl : lv_has lsA nL (tvL θ ls))
    (kk : ∀ lsB, lv_has lsB nL (tvL θ ls') → W p l e R s m args below meth c H locs cells slots Q (F0 m (pc + len) lsB (st'.map (tv θ)))) : W p l e R s m args below meth c H locs cells slots Q (F0 m pc lsA (st.map (tv θ))) := by
  have hdg : lenI i ≠ 0 → decode cc pc = .ok (i, lenI i) ∧ len = lenI i := fun h0 => by
    rcases hlen with h1 | h1
    · exact absurd h1 h0
    · rw [← h1]; exact ⟨hdg0, rfl⟩
  cases i with
  | iconst n => obtain ⟨hd, rfl⟩ := hdg (by simp [lenI]); cases h; exact lv_iconst hx hb hd rfl (kk lsA hl)
  | bipush n => obtain ⟨hd, rfl⟩ := hdg (by simp [lenI]); cases h; exact lv_bipush hx hb hd rfl (kk lsA hl)
  | sipush n => obtain ⟨hd, rfl⟩ := hdg (by simp [lenI]); cases h; exact lv_sipush hx hb hd rfl (kk lsA hl)
  | lconst n => obtain ⟨hd, rfl⟩ := hdg (by simp [lenI]); cases h; exact lv_lconst hx hb hd rfl (kk lsA hl)
  | ldc n =>
    obtain ⟨hd, rfl⟩ := hdg (by simp [lenI])
    cases ex with
    | nil => cases h
    | cons v r => cases h; exact lv_ldc hx hb hown (hts _ (hok v rfl)) hd (kk lsA hl)
  | ldc_w n =>
    obtain ⟨hd, rfl⟩ := hdg (by simp [lenI])
    cases ex with
    | nil => cases h
    | cons v r => cases h; exact lv_ldcw hx hb hown (hts _ (hok v rfl)) hd (kk lsA hl)
  | ldc2_w n =>
    obtain ⟨hd, rfl⟩ := hdg (by simp [lenI])
    cases ex with
    | nil => cases h
    | cons v r => cases h; exact lv_ldc2 hx hb hown (hts _ (hok v rfl)) hd (kk lsA hl)
  | aconst_null => obtain ⟨hd, rfl⟩ := hdg (by simp [lenI]); cases h; exact lv_null hx hb hd (kk lsA hl)
  | iload_n k => obtain ⟨hd, rfl⟩ := hdg (by simp [lenI]); obtain ⟨x, e1, rfl, rfl⟩ := ldi_some h; exact lv_iload_n hx hb hd rfl (tvL_lookup hl e1) (kk lsA hl)
  | iload k => obtain ⟨hd, rfl⟩ := hdg (by simp [lenI]); obtain ⟨x, e1, rfl, rfl⟩ := ldi_some h; exact lv_iload hx hb hd (tvL_lookup hl e1) (kk lsA hl)
  | lload_n k => obtain ⟨hd, rfl⟩ := hdg (by simp [lenI]); obtain ⟨x, e1, rfl, rfl⟩ := ldl_some h; exact lv_lload_n hx hb hd rfl (tvL_lookup hl e1) (kk lsA hl)
  | lload k => obtain ⟨hd, rfl⟩ := hdg (by simp [lenI]); obtain ⟨x, e1, rfl, rfl⟩ := ldl_some h; exact lv_lload hx hb hd (tvL_lookup hl e1) (kk lsA hl)
  | aload_n k => obtain ⟨hd, rfl⟩ := hdg (by simp [lenI]); obtain ⟨x, e1, rfl, rfl⟩ := lda_some h; exact lv_aload_n hx hb hd rfl (tvL_lookup hl e1) (kk lsA hl)
  | aload k => obtain ⟨hd, rfl⟩ := hdg (by simp [lenI]); obtain ⟨x, e1, rfl, rfl⟩ := lda_some h; exact lv_aload hx hb hd (tvL_lookup hl e1) (kk lsA hl)
  | istore_n k => obtain ⟨hd, rfl⟩ := hdg (by simp [lenI]); obtain ⟨x, rfl, e1, rfl⟩ := sti_some h; exact lv_istore_n hx hb hd rfl hl e1 (tvL_set1 θ _ (.int x) ls) kk
  | istore k => obtain ⟨hd, rfl⟩ := hdg (by simp [lenI]); obtain ⟨x, rfl, e1, rfl⟩ := sti_some h; exact lv_istore hx hb hd hl e1 (tvL_set1 θ _ (.int x) ls) kk
  | lstore_n k => obtain ⟨hd, rfl⟩ := hdg (by simp [lenI]); obtain ⟨x, rfl, e1, rfl⟩ := stl_some h; exact lv_lstore_n hx hb hd rfl hl e1 (tvL_set2 θ _ (.long x) ls) kk
  | lstore k => obtain ⟨hd, rfl⟩ := hdg (by simp [lenI]); obtain ⟨x, rfl, e1, rfl⟩ := stl_some h; exact lv_lstore hx hb hd hl e1 (tvL_set2 θ _ (.long x) ls) kk
  | astore_n k => obtain ⟨hd, rfl⟩ := hdg (by simp [lenI]); obtain ⟨x, rfl, e1, rfl⟩ := sta_some h; exact lv_astore_n hx hb hd rfl hl e1 (tvL_set1 θ _ (.ref x) ls) kk
  | astore k => obtain ⟨hd, rfl⟩ := hdg (by simp [lenI]); obtain ⟨x, rfl, e1, rfl⟩ := sta_some h; exact lv_astore hx hb hd hl e1 (tvL_set1 θ _ (.ref x) ls) kk
  | iinc k n =>
    obtain ⟨hd, rfl⟩ := hdg (by simp [lenI])
    simp only [pureI] at h
    split at h
    · rename_i x hq
      split at h
      · rename_i hk
        cases h
        obtain ⟨j, hj⟩ := List.getElem?_of_mem (List.mem_map.mpr ⟨(k, Value.int x), lookup_mem hq, rfl⟩ : (k, Value.int x) ∈ tvL θ ls)
        exact lv_iinc hx hb hd hl hj rfl hk (tvL_set1 θ _ (.int (x + Int32.ofInt n)) ls) kk
      · cases h
    · cases h
  | iadd => obtain ⟨hd, rfl⟩ := hdg (by simp [lenI]); obtain ⟨x, y, r, rfl, rfl, rfl⟩ := bin1_some h; exact lv_iadd hx hb hd (kk lsA hl)
  | isub => obtain ⟨hd, rfl⟩ := hdg (by simp [lenI]); obtain ⟨x, y, r, rfl, rfl, rfl⟩ := bin1_some h; exact lv_isub hx hb hd (kk lsA hl)
  | imul => obtain ⟨hd, rfl⟩ := hdg (by simp [lenI]); obtain ⟨x, y, r, rfl, rfl, rfl⟩ := bin1_some h; exact lv_imul hx hb hd (kk lsA hl)
  | iand => obtain ⟨hd, rfl⟩ := hdg (by simp [lenI]); obtain ⟨x, y, r, rfl, rfl, rfl⟩ := bin1_some h; exact lv_iand hx hb hd (kk lsA hl)
  | ior => obtain ⟨hd, rfl⟩ := hdg (by simp [lenI]); obtain ⟨x, y, r, rfl, rfl, rfl⟩ := bin1_some h; exact lv_ior hx hb hd (kk lsA hl)
  | ixor => obtain ⟨hd, rfl⟩ := hdg (by simp [lenI]); obtain ⟨x, y, r, rfl, rfl, rfl⟩ := bin1_some h; exact lv_ixor hx hb hd (kk lsA hl)
  | idiv => obtain ⟨hd, rfl⟩ := hdg (by simp [lenI]); obtain ⟨x, y, r, rfl, rfl, rfl, hne⟩ := bin0_some h; exact lv_idiv hx hb hd hne (kk lsA hl)
  | irem => obtain ⟨hd, rfl⟩ := hdg (by simp [lenI]); obtain ⟨x, y, r, rfl, rfl, rfl, hne⟩ := bin0_some h; exact lv_irem hx hb hd hne (kk lsA hl)
  | ishl => obtain ⟨hd, rfl⟩ := hdg (by simp [lenI]); obtain ⟨x, y, r, rfl, rfl, rfl⟩ := bin1_some h; exact lv_ishl hx hb hd (kk lsA hl)
  | ishr => obtain ⟨hd, rfl⟩ := hdg (by simp [lenI]); obtain ⟨x, y, r, rfl, rfl, rfl⟩ := bin1_some h; exact lv_ishr hx hb hd (kk lsA hl)
  | iushr => obtain ⟨hd, rfl⟩ := hdg (by simp [lenI]); obtain ⟨x, y, r, rfl, rfl, rfl⟩ := bin1_some h; exact lv_iushr hx hb hd rfl (kk lsA hl)
  | ladd => obtain ⟨hd, rfl⟩ := hdg (by simp [lenI]); obtain ⟨x, y, r, rfl, rfl, rfl⟩ := bin2_some h; exact lv_ladd hx hb hd (kk lsA hl)
  | lsub => obtain ⟨hd, rfl⟩ := hdg (by simp [lenI]); obtain ⟨x, y, r, rfl, rfl, rfl⟩ := bin2_some h; exact lv_lsub hx hb hd (kk lsA hl)
  | lmul => obtain ⟨hd, rfl⟩ := hdg (by simp [lenI]); obtain ⟨x, y, r, rfl, rfl, rfl⟩ := bin2_some h; exact lv_lmul hx hb hd (kk lsA hl)
  | land => obtain ⟨hd, rfl⟩ := hdg (by simp [lenI]); obtain ⟨x, y, r, rfl, rfl, rfl⟩ := bin2_some h; exact lv_land hx hb hd (kk lsA hl)
  | lor => obtain ⟨hd, rfl⟩ := hdg (by simp [lenI]); obtain ⟨x, y, r, rfl, rfl, rfl⟩ := bin2_some h; exact lv_lor hx hb hd (kk lsA hl)
  | lshl => obtain ⟨hd, rfl⟩ := hdg (by simp [lenI]); obtain ⟨x, y, r, rfl, rfl, rfl⟩ := sh2_some h; exact lv_lshl hx hb hd rfl (kk lsA hl)
  | lushr => obtain ⟨hd, rfl⟩ := hdg (by simp [lenI]); obtain ⟨x, y, r, rfl, rfl, rfl⟩ := sh2_some h; exact lv_lushr hx hb hd rfl (kk lsA hl)
  | ineg =>
    obtain ⟨hd, rfl⟩ := hdg (by simp [lenI])
    simp only [pureI] at h
    split at h
    · cases h; exact lv_ineg hx hb hd (kk lsA hl)
    · cases h
  | i2b =>
    obtain ⟨hd, rfl⟩ := hdg (by simp [lenI])
    simp only [pureI] at h
    split at h
    · cases h; exact lv_i2b hx hb hd rfl (kk lsA hl)
    · cases h
  | i2l =>
    obtain ⟨hd, rfl⟩ := hdg (by simp [lenI])
    simp only [pureI] at h
    split at h
    · cases h; exact lv_i2l hx hb hd rfl (kk lsA hl)
    · cases h
  | l2i =>
    obtain ⟨hd, rfl⟩ := hdg (by simp [lenI])
    simp only [pureI] at h
    split at h
    · cases h; exact lv_l2i hx hb hd rfl (kk lsA hl)
    · cases h
  | lcmp =>
    obtain ⟨hd, rfl⟩ := hdg (by simp [lenI])
    simp only [pureI] at h
    split at h
    · cases h; exact W.lcmp hx hb hd (kk lsA hl)
    · cases h
  | dup =>
    obtain ⟨hd, rfl⟩ := hdg (by simp [lenI])
    simp only [pureI] at h
    split at h
    · split at h
      · rename_i hc
        cases h; exact lv_dup hx hb hd (by rw [tv_cat]; exact hc) (kk lsA hl)
      · cases h
    · cases h
  | pop =>
    obtain ⟨hd, rfl⟩ := hdg (by simp [lenI])
    simp only [pureI] at h
    split at h
    · split at h
      · rename_i hc
        cases h; exact lv_pop hx hb hd (by rw [tv_cat]; exact hc) (kk lsA hl)
      · cases h
    · cases h
  | pop2 =>
    obtain ⟨hd, rfl⟩ := hdg (by simp [lenI])
    simp only [pureI] at h
    split at h
    · split at h
      · rename_i hc
        cases h; exact lv_pop2_2 hx hb hd (by rw [tv_cat]; exact hc) (kk lsA hl)
      · cases h
    · cases h
  | dup2 =>
    obtain ⟨hd, rfl⟩ := hdg (by simp [lenI])
    simp only [pureI] at h
    split at h
    · split at h
      · rename_i hc
        cases h; exact lv_dup2_11 hx hb hd (by rw [tv_cat]; exact hc.1) (by rw [tv_cat]; exact hc.2) (kk lsA hl)
      · cases h
    · cases h
  | _ => cases h
end Sound
