/-! a run of the pure machine is a contract -/
def ftCk : Bool := KND.all (fun K => K.1 != 0 || (List.range K.2.2.length).all (fun k => match vwCl[K.2.1]?, K.2.2[k]? with
  | some q, some f => f.1 == 2 || decide (parseFieldDescriptor (q.2.1 k).2.2.1 = some (match f.1 with | 0 => .int | 1 => .boolean | _ => .object "SignalTable$Game"))
  | _, _ => true))
set_option maxRecDepth 100000 in
theorem ftCk_ok : ftCk = true := by decide +kernel
theorem knd_mem {q : Nat} {K : KD} (h : knd q = some K) : K ∈ KND := by
  unfold knd at h
  cases hq : LAY[q]? with
  | none => rw [hq] at h; cases h
  | some c => rw [hq] at h; exact List.mem_of_getElem? h
theorem ft_ok (ci : Nat) (C : String) (T : u_T) (N k q : Nat) (fs : List (Nat × Nat)) (f : Nat × Nat) (hc : vwCl[ci]? = some (C, T, N)) (hk : knd q = some (0, ci, fs)) (hf : fs[k]? = some f) : parseFieldDescriptor (T k).2.2.1 = some (match f.1 with | 0 => .int | 1 => .boolean | _ => .object "SignalTable$Game") ∨ f.1 = 2 := by
  have h := List.all_eq_true.mp ftCk_ok _ (knd_mem hk)
  have hlt : k < fs.length := (List.getElem?_eq_some_iff.mp hf).1
  simp only [bne_self_eq_false, Bool.false_or] at h
  have h2 := List.all_eq_true.mp h k (List.mem_range.mpr hlt)
  simp only [hc, hf, Bool.or_eq_true, beq_iff_eq, decide_eq_true_eq] at h2
  exact h2.symm
theorem lg_sl_len (θ : Th) : ∀ av : List Value, (lg_sl (av.map (tv θ))).length = (lg_sl av).length := by
  intro av
  induction av with
  | nil => rfl
  | cons v r ih =>
    cases v <;> simp [lg_sl, tv, Value.category] at ih ⊢ <;> omega
theorem tvL_args (θ : Th) : ∀ (av : List Value) (k : Nat), tvL θ (lv_args k av) = lv_args k (av.map (tv θ)) := by
  intro av
  induction av with
  | nil => intro k; rfl
  | cons v r ih =>
    intro k
    have := ih (if v.category = 2 then k + 2 else k + 1)
    unfold tvL at this ⊢
    simp only [lv_args, List.map_cons, tv_cat]
    rw [this]
/-- an entry of a method's own run -/
theorem Ct.of {l : Launch} {θ : Th} {A : Nat → Prop} {P : List MI} {M : MI} (hO : okM P M) {d : Nat} {σ σ' : Sg} {av : List Value} {v : Option Value} (hlen : (lg_sl av).length ≤ M.2.2.1)
    (body : ∀ (p : Program) (e : Env) (s : State) (m : MethodId) (args : Array Value) (below : List Frame) (meth : Method) (c : Code) (lsA : Array Slot), p.tables.exec = Jvm.exec → c.code = M.2.1 → meth.sig.returnType = M.2.2.2.1 → c.maxLocals = M.2.2.1 → s.vm.findClass M.1.cls = some m.cls → (∀ w ∈ lwg, w.before args s = true) → meth.locks = false → Hw θ A σ s.heap → va_K θ.1 vwCl (tysW θ) s → va_S A s.heap s.heap [] → lv_has lsA M.2.2.1 (tvL θ (lv_args 0 av)) →
      W p l e (rmU d 0 0) s m args below meth c s.heap [] 0 0 (MQ below (QP θ A v σ') args s 0 0 A) (F0 m 0 lsA [])) : Ct l θ A M d σ av v σ' := by
  refine Met.ofW (cc := M.2.1) (maxL := M.2.2.1) (ret := M.2.2.2.1) hO.1 rfl ?_
  intro p e s m args below meth c s₁ B hml hv
  obtain ⟨rfl, hW, hK⟩ := hv
  rw [lg_entry_eq]
  refine body p e s m _ below meth c _ B.exec B.bytes B.returns hml (findClass_of_methodNamed B.named) (fun w h => atoms_spec (ws := wU M.1 M.2.1 M.2.2.1 M.2.2.2.1) B.pre w (List.mem_cons_of_mem _ h)) B.notSynchronized hW hK va_S.rf ?_
  rw [tvL_args]
  exact lv_entry (av.map (tv θ)) (by rw [lg_sl_len]; exact hlen)
section RunS
variable {l : Launch} {θ : Th} {A : Nat → Prop} {P : List MI}
theorem rt_sound {p : Program} {e : Env} {R : Room} {s : State} {m : MethodId} {args : Array Value} {below : List Frame} {meth : Method} {c : Code} {H : Heap} {locs : List Loc} {cc : ByteArray} {pc : Nat} {lsA : Array Slot} {i : Instr} {len : Nat} {ret : Option FieldType} {st : List Value} {v : Option Value} {σ : Sg} (hx : p.tables.exec = Jvm.exec) (hb : c.code = cc) (hr : meth.sig.returnType = ret) (hlocks : meth.locks = false) (hdg0 : decode cc pc = .ok (i, len)) (hlen : lenI i = 0 ∨ len = lenI i) (h : rtI i ret st = some v) (hK : va_K θ.1 vwCl (tysW θ) s) (hW : Hw θ A σ H) (hS : va_S A s.heap H locs) :
    W p l e R s m args below meth c H locs 0 0 (MQ below (QP θ A v σ) args s 0 0 A) (F0 m pc lsA (st.map (tv θ))) := by
  have hdg : lenI i ≠ 0 → decode cc pc = .ok (i, lenI i) ∧ len = lenI i := fun h0 => by
    rcases hlen with h1 | h1
    · exact absurd h1 h0
    · rw [← h1]; exact ⟨hdg0, rfl⟩
  cases i with
  | ireturn =>
    obtain ⟨hd, -⟩ := hdg (by simp [lenI])
    simp only [rtI] at h
    split at h
    · rename_i x
      split at h
      · rename_i ho
        cases h
        unfold retOK at ho
        split at ho
        · exact W.zret (ty := .int) hx hb hr rfl (fun t ht hU => ⟨rfl, ⟨by rw [ht]; exact hW, va_K.moved hU.alike hK⟩, hS.F ht⟩) hS.2.2 hd hlocks
        · rename_i heq
          cases heq
          refine W.zret (ty := .boolean) hx hb hr ?_ (fun t ht hU => ⟨rfl, ⟨by rw [ht]; exact hW, va_K.moved hU.alike hK⟩, hS.F ht⟩) hS.2.2 hd hlocks
          rcases of_decide_eq_true ho with rfl | rfl <;> rfl
        · rename_i heq; cases heq
        · rename_i heq; cases heq
        · cases ho
      · cases h
    · cases h
  | lreturn =>
    obtain ⟨hd, -⟩ := hdg (by simp [lenI])
    simp only [rtI] at h
    split at h
    · rename_i x
      split at h
      · rename_i ho
        cases h
        unfold retOK at ho
        split at ho
        · rename_i heq; cases heq
        · rename_i heq; cases heq
        · exact W.lret hx hb hr (fun t ht hU => ⟨rfl, ⟨by rw [ht]; exact hW, va_K.moved hU.alike hK⟩, hS.F ht⟩) hS.2.2 hd hlocks
        · rename_i heq; cases heq
        · cases ho
      · cases h
    · cases h
  | return_ =>
    obtain ⟨hd, -⟩ := hdg (by simp [lenI])
    simp only [rtI] at h
    split at h
    · split at h
      · rename_i ho
        cases h
        unfold retOK at ho
        split at ho
        · rename_i heq; cases heq
        · rename_i heq; cases heq
        · rename_i heq; cases heq
        · exact W.vret hx hb hr (fun t ht hU => ⟨rfl, ⟨by rw [ht]; exact hW, va_K.moved hU.alike hK⟩, hS.F ht⟩) hS.2.2 hd hlocks
        · cases ho
      · cases h
    · cases h
  | _ => cases h
set_option maxHeartbeats 4000000 in
theorem run_sound (hP : ∀ (k : Nat) (M : MI), P[k]? = some M → okM P M) : ∀ (n d mi pc : Nat) (ls : Lcl) (st : List Value) (σ : Sg) (v : Option Value) (σ' : Sg), run P n d mi pc ls st σ = some (v, σ') → ∀ M, P[mi]? = some M → ∀ (p : Program) (e : Env) (s : State) (m : MethodId) (args : Array Value) (below : List Frame) (meth : Method) (c : Code) (H : Heap) (locs : List Loc) (lsA : Array Slot), p.tables.exec = Jvm.exec → c.code = M.2.1 → meth.sig.returnType = M.2.2.2.1 → c.maxLocals = M.2.2.1 → s.vm.findClass M.1.cls = some m.cls → (∀ w ∈ lwg, w.before args s = true) → meth.locks = false → Hw θ A σ H → va_K θ.1 vwCl (tysW θ) s → va_S A s.heap H locs → lv_has lsA M.2.2.1 (tvL θ ls) →
    W p l e (rmU d 0 0) s m args below meth c H locs 0 0 (MQ below (QP θ A v σ') args s 0 0 A) (F0 m pc lsA (st.map (tv θ))) := by
  intro n
  induction n with
  | zero => intro d mi pc ls st σ v σ' h; cases h
  | succ n ih =>
    intro d mi pc ls st σ v σ' h M hM p e s m args below meth c H locs lsA hx hb hr hml hown hts hlocks hW hK hS hl
    unfold run at h
    rw [hM] at h
    simp only at h
    cases hen : M.2.2.2.2.lookup pc with
    | none => rw [hen] at h; cases h
    | some en =>
      rw [hen] at h
      simp only at h
      obtain ⟨hdec, hln, hok⟩ := (hP mi M hM).2.2.2 pc en hen
      cases hst : stp M.2.2.1 M.2.2.2.1 pc en ls st σ with
      | none => rw [hst] at h; cases h
      | some r =>
        rw [hst] at h
        unfold stp at hst
        split at hst
        · rename_i ls1 st1 hpu
          cases hst
          exact pureI_sound hx hb hown hts hdec hln hok hpu hl (fun lsB hlB => ih d mi _ _ _ _ v σ' h M hM p e s m args below meth c H locs lsB hx hb hr hml hown hts hlocks hW hK hS hlB)
        · split at hst
          · rename_i st1 σ1 hhp
            cases hst
            exact hpI_sound hx hb hown hts hdec hln hok hhp hK hW hS ft_ok (fun H1 locs1 hW1 hS1 => ih d mi _ _ _ _ v σ' h M hM p e s m args below meth c H1 locs1 lsA hx hb hr hml hown hts hlocks hW1 hK hS1 hl)
          · split at hst
            · rename_i b off st1 hbr
              split at hst
              · rename_i hneg
                cases hst
                exact brI_sound hx hb hdec hln hbr hW hneg (ih d mi _ _ _ _ v σ' h M hM p e s m args below meth c H locs lsA hx hb hr hml hown hts hlocks hW hK hS hl)
              · cases hst
            · split at hst
              · rename_i mj av rest hca
                cases hst
                simp only at h
                split at h
                · cases h
                · rename_i d1
                  split at h
                  · rename_i v1 hmm
                    exact mm_sound hx hb hml hown hts hdec hln hok hca hmm ⟨Nat.succ_le_succ (Nat.zero_le _), Nat.mul_le_mul_left 64 (Nat.succ_le_succ (Nat.zero_le d1))⟩ hl.1 ⟨Nat.le_refl _, Nat.le_refl _⟩ (ih (d1 + 1) mi _ _ _ _ v σ' h M hM p e s m args below meth c H locs lsA hx hb hr hml hown hts hlocks hW hK hS hl)
                  · split at h
                    · cases h
                    · rename_i Mj hMj
                      split at h
                      · rename_i hlen
                        split at h
                        · cases h
                        · rename_i v1 σ1 hcall
                          have hC : Ct l θ A Mj d1 σ av v1 σ1 := Ct.of (hP mj Mj hMj) hlen (fun p e s m args below meth c lsA hx hb hr hml hown hts hlocks hW hK hS hl => ih d1 mj 0 _ _ _ v1 σ1 hcall Mj hMj p e s m args below meth c s.heap [] lsA hx hb hr hml hown hts hlocks hW hK hS hl)
                          exact caI_sound hP hx hb hml hown hts hdec hln hok hca hMj hC ⟨Nat.le_refl _, Nat.le_refl _⟩ hl.1 ⟨Nat.le_refl _, Nat.le_refl _⟩ hK hW hS (fun _ h => h) (fun t H1 locs1 _ _ hW1 hS1 _ _ => ih (d1 + 1) mi _ _ _ _ v σ' h M hM p e s m args below meth c H1 locs1 lsA hx hb hr hml hown hts hlocks hW1 hK hS1 hl)
                      · cases h
              · split at hst
                · rename_i v1 hrt
                  cases hst
                  cases h
                  exact rt_sound hx hb hr hlocks hdec hln hrt hK hW hS
                · cases hst
/-- a whole run of a method is a contract -/
theorem run_Ct (hP : ∀ (k : Nat) (M : MI), P[k]? = some M → okM P M) {n d mi : Nat} {M : MI} {σ σ' : Sg} {av : List Value} {v : Option Value} (hM : P[mi]? = some M) (hlen : (lg_sl av).length ≤ M.2.2.1) (h : run P n d mi 0 (lv_args 0 av) [] σ = some (v, σ')) : Ct l θ A M d σ av v σ' :=
  Ct.of (hP mi M hM) hlen (fun p e s m args below meth c lsA hx hb hr hml hown hts hlocks hW hK hS hl => run_sound hP n d mi 0 _ _ _ v σ' h M hM p e s m args below meth c s.heap [] lsA hx hb hr hml hown hts hlocks hW hK hS hl)
end RunS
