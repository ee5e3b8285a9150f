/-! the pure machine is the machine: branches, calls, returns, whole runs -/
theorem un0_some {f : Int32 → Bool} {off off' : Int} {b : Bool} {st st' : List Value} (h : un0 f off st = some (b, off', st')) : ∃ x, st = .int x :: st' ∧ b = f x ∧ off' = off := by
  unfold un0 at h
  split at h
  · cases h; exact ⟨_, rfl, rfl, rfl⟩
  · cases h
theorem un2_some {f : Int32 → Int32 → Bool} {off off' : Int} {b : Bool} {st st' : List Value} (h : un2 f off st = some (b, off', st')) : ∃ x y, st = .int y :: .int x :: st' ∧ b = f x y ∧ off' = off := by
  unfold un2 at h
  split at h
  · cases h; exact ⟨_, _, rfl, rfl, rfl⟩
  · cases h
theorem rfO_va {θ : Th} {v : Value} {a : Option Nat} (h : rfO v = some a) : tv θ v = va_rf (a.map θ.2.1) := by
  unfold rfO at h
  split at h
  · cases h; rfl
  · cases h; rfl
  · cases h
section Sound3
variable {p : Program} {l : Launch} {e : Env} {R : Room} {s : State} {m : MethodId} {args : Array Value} {below : List Frame} {meth : Method} {c : Code} {H : Heap} {locs : List Loc} {cells slots : Nat} {Q : State → Prop} {cc : ByteArray} {pc : Nat} {lsA : Array Slot} {θ : Th} {A : Nat → Prop} {H0 : Heap} {own : String} {nL : Nat} {rest : List Value}
set_option maxHeartbeats 4000000 in
theorem brI_sound {i : Instr} {len : Nat} {st st' : List Value} {b : Bool} {off : Int} {σ : Sg} (hx : p.tables.exec = Jvm.exec) (hb : c.code = cc) (hdg0 : decode cc pc = .ok (i, len)) (hlen : lenI i = 0 ∨ len = lenI i) (h : brI i st = some (b, off, st')) (hW : Hw θ A σ H)
    (hneg : 0 ≤ (pc : Int) + off)
    (kk : W p l e R s m args below meth c H locs cells slots Q (F0 m (if b then ((pc : Int) + off).toNat else pc + 3) lsA (st'.map (tv θ)))) : W p l e R s m args below meth c H locs cells slots Q (F0 m pc lsA (st.map (tv θ))) := by
  have hdg : lenI i ≠ 0 → decode cc pc = .ok (i, lenI i) ∧ len = lenI i := fun h0 => by
    rcases hlen with h1 | h1
    · exact absurd h1 h0
    · rw [← h1]; exact ⟨hdg0, rfl⟩
  have kt : b = true → W p l e R s m args below meth c H locs cells slots Q (F0 m ((pc : Int) + off).toNat lsA (st'.map (tv θ))) := fun hb => by rw [if_pos hb] at kk; exact kk
  have kf : b = false → W p l e R s m args below meth c H locs cells slots Q (F0 m (pc + 3) lsA (st'.map (tv θ))) := fun hb => by rw [hb] at kk; exact kk
  · have ht : (pc : Int) + off = (((pc : Int) + off).toNat : Int) := (Int.toNat_of_nonneg hneg).symm
    cases i with
    | ifCond cnd o =>
      obtain ⟨hd, -⟩ := hdg (by simp [lenI])
      cases cnd with
      | eq => obtain ⟨x, rfl, rfl, rfl⟩ := un0_some h; exact lv_if_eq hx hb hd ht (fun z => kt (decide_eq_true z)) (fun z => kf (decide_eq_false z))
      | ne => obtain ⟨x, rfl, rfl, rfl⟩ := un0_some h; exact lv_if_ne hx hb hd ht (fun z => kt (decide_eq_true z)) (fun z => kf (decide_eq_false (fun q => q z)))
      | lt => obtain ⟨x, rfl, rfl, rfl⟩ := un0_some h; exact lv_if_lt hx hb hd ht (fun z => kt (decide_eq_true z)) (fun z => kf (decide_eq_false z))
      | ge => obtain ⟨x, rfl, rfl, rfl⟩ := un0_some h; exact lv_if_ge hx hb hd ht (fun z => kt (decide_eq_true z)) (fun z => kf (decide_eq_false z))
      | gt => obtain ⟨x, rfl, rfl, rfl⟩ := un0_some h; exact lv_if_gt hx hb hd ht (fun z => kt (decide_eq_true z)) (fun z => kf (decide_eq_false z))
      | le => obtain ⟨x, rfl, rfl, rfl⟩ := un0_some h; exact lv_if_le hx hb hd ht (fun z => kt (decide_eq_true z)) (fun z => kf (decide_eq_false z))
    | if_icmp cnd o =>
      obtain ⟨hd, -⟩ := hdg (by simp [lenI])
      cases cnd with
      | eq => obtain ⟨x, y, rfl, rfl, rfl⟩ := un2_some h; exact lv_icmp_eq hx hb hd ht (fun z => kt (decide_eq_true z)) (fun z => kf (decide_eq_false z))
      | ne => obtain ⟨x, y, rfl, rfl, rfl⟩ := un2_some h; exact lv_icmp_ne hx hb hd ht (fun z => kt (decide_eq_true z)) (fun z => kf (decide_eq_false (fun q => q z)))
      | lt => obtain ⟨x, y, rfl, rfl, rfl⟩ := un2_some h; exact lv_icmp_lt hx hb hd ht (fun z => kt (decide_eq_true z)) (fun z => kf (decide_eq_false z))
      | ge => obtain ⟨x, y, rfl, rfl, rfl⟩ := un2_some h; exact lv_icmp_ge hx hb hd ht (fun z => kt (decide_eq_true z)) (fun z => kf (decide_eq_false z))
      | gt => obtain ⟨x, y, rfl, rfl, rfl⟩ := un2_some h; exact lv_icmp_gt hx hb hd ht (fun z => kt (decide_eq_true z)) (fun z => kf (decide_eq_false z))
      | le => obtain ⟨x, y, rfl, rfl, rfl⟩ := un2_some h; exact lv_icmp_le hx hb hd ht (fun z => kt (decide_eq_true z)) (fun z => kf (decide_eq_false z))
    | if_acmp cnd o =>
      obtain ⟨hd, -⟩ := hdg (by simp [lenI])
      cases cnd with
      | eq => cases h
      | ne =>
        simp only [brI] at h
        split at h
        · rename_i y x r
          split at h
          · rename_i yb xa hy hx1
            split at h
            · rename_i hlt
              cases h
              show W p l e R s m args below meth c H locs cells slots Q (F0 m pc lsA (tv θ y :: tv θ x :: st'.map (tv θ)))
              rw [rfO_va hy, rfO_va hx1]
              have inj : xa.map θ.2.1 = yb.map θ.2.1 → xa = yb := by
                intro he
                cases xa with
                | none => cases yb with
                  | none => rfl
                  | some w => cases he
                | some z => cases yb with
                  | none => cases he
                  | some w =>
                    have e1 : θ.2.1 z = θ.2.1 w := Option.some.inj he
                    have := hW.2.1 z w _ _ (mkW_at θ σ (hlt.2 z rfl)) (mkW_at θ σ (hlt.1 w rfl)) e1
                    rw [this]
              exact lv_acmp_ne hx hb hd ht (fun z => kt (decide_eq_true (fun q => z (by rw [q])))) (fun z => kf (decide_eq_false (fun q => q (inj z))))
            · cases h
          · cases h
        · cases h
    | goto o =>
      obtain ⟨hd, -⟩ := hdg (by simp [lenI])
      cases h
      exact lv_goto hx hb hd ht (kt rfl)
    | tableswitch dflt lo hi offs =>
      simp only [brI] at h
      split at h
      · rename_i x r
        split at h
        · rename_i hc
          cases h
          exact lv_tableOut hx hb hdg0 hc ht (kt rfl)
        · rename_i hc
          cases hof : offs[(x.toInt - lo).toNat]? with
          | none => rw [hof] at h; cases h
          | some o =>
            rw [hof] at h
            cases h
            exact lv_tableIn hx hb hdg0 (fun z => hc (Or.inl z)) (fun z => hc (Or.inr z)) hof ht (kt rfl)
      · cases h
    | lookupswitch dflt ps =>
      simp only [brI] at h
      split at h
      · rename_i x r
        split at h
        · rename_i hc
          cases h
          exact lv_lookup hx hb hdg0 hc rfl ht (kt rfl)
        · cases h
      · cases h
    | _ => cases h
end Sound3
/-- what a method begins with, and what it leaves -/
def PP (θ : Th) (A : Nat → Prop) (σ : Sg) (av : List Value) : Array Value → State → Prop := va_Pc (av.map (tv θ)) (fun U => Hw θ A σ U.heap ∧ va_K θ.1 vwCl (tysW θ) U)
def QP (θ : Th) (A : Nat → Prop) (v : Option Value) (σ : Sg) : Array Value → State → Outcome → State → Prop := fun _ st oc t => oc = .returned (v.map (tv θ)) ∧ (Hw θ A σ t.heap ∧ va_K θ.1 vwCl (tysW θ) t) ∧ va_F A st t
def Ct (l : Launch) (θ : Th) (A : Nat → Prop) (M : MI) (d : Nat) (σ : Sg) (av : List Value) (v : Option Value) (σ' : Sg) : Prop := Met l M.1 (wU M.1 M.2.1 M.2.2.1 M.2.2.2.1) (rmU d 0 0) (PP θ A σ av) (QP θ A v σ') 0 0 A
theorem PP_blind {θ : Th} {A : Nat → Prop} {σ : Sg} {av : List Value} : FrameBlind (PP θ A σ av) := fun a U g mk q => ⟨q.1, q.2.1, va_K.moved (u := U) (U := U.calling g mk a) (Vm.Alike.refl U.vm) q.2.2⟩
theorem PP_of {θ : Th} {A : Nat → Prop} {σ : Sg} {av : List Value} {s : State} {H : Heap} (hW : Hw θ A σ H) (hK : va_K θ.1 vwCl (tysW θ) s) : ∀ U : State, U.heap = H → s.WarmedH U.vm → PP θ A σ av (av.map (tv θ)).toArray U := fun U hU hU2 => ⟨rfl, by rw [hU]; exact hW, va_K.moved hU2.alike hK⟩
section Sound4
variable {p : Program} {l : Launch} {e : Env} {R : Room} {s : State} {m : MethodId} {args : Array Value} {below : List Frame} {meth : Method} {c : Code} {H : Heap} {locs : List Loc} {cells slots : Nat} {Q : State → Prop} {cc : ByteArray} {pc : Nat} {lsA : Array Slot} {θ : Th} {A : Nat → Prop} {H0 : Heap} {own : String} {nL : Nat} {rest st0 : List Value} {a : Array Value}
theorem z_call {A0 : Nat → Prop} {v : Option Value} {σ' : Sg} (hr : va_Run p l e R s m args below meth c H locs cells slots 0 0 (F0 m pc lsA st0) rest (QP θ A v σ' a) A) (hS : va_S A0 H0 H locs) (hA : ∀ q, A q → A0 q)
    (kk : ∀ (t : State) (H1 : Heap) (locs1 : List Loc), t.heap = H1 → s.vm.Alike t.vm → Hw θ A σ' H1 → va_S A0 H0 H1 locs1 → H.size ≤ H1.size → (∀ q : Nat, q < H.size → ¬ A q → H1[q]? = H[q]?) → W p l e R s m args below meth c H1 locs1 cells slots Q (F0 m (pc + 3) lsA ((v.map (tv θ)).toList ++ rest))) : W p l e R s m args below meth c H locs cells slots Q (F0 m pc lsA st0) := by
  intro T hT X
  obtain ⟨v1, st₀, t, T', L, h0, X', hL, e1, e2, ⟨hv, ⟨hw, hk0⟩, hz, hk⟩, st⟩ := hr T hT X
  cases hv
  rw [h0] at hz hk
  obtain ⟨t2, a1, b1⟩ := kk t T'.heap (locs ++ L) e1.symm (by rw [← e2]; exact X'.warmed.alike) (by rw [e1]; exact hw)
    ⟨Nat.le_trans hS.1 (by rw [e1]; exact hz), fun q h1 h2 => by rw [e1, hk q (Nat.lt_of_lt_of_le h1 hS.1) (fun z => h2 (hA q z))]; exact hS.2.1 q h1 h2, fun q hq => by
      rcases List.mem_append.mp hq with h | h
      · exact hS.2.2 q h
      · exact hA _ (hL q h)⟩ (by rw [e1]; exact hz) (fun q h1 h2 => by rw [e1]; exact hk q h1 h2) T' rfl X'
  exact ⟨t2, st t2 a1, b1⟩
theorem map_cat (θ : Th) (l : List Value) : ((l.map (tv θ)).map fun v => v.category) = l.map fun v => v.category := by
  rw [List.map_map]
  apply List.map_congr_left
  intro v _
  exact tv_cat θ v
theorem va_at_obj {σ : Sg} {q ci : Nat} {fs : List (Nat × Nat)} (hW : Hw θ A σ H) (hk : knd q = some (0, ci, fs)) : ∃ (r : vw_C) (gs : List Value), vwCl[ci]? = some r ∧ (mkW θ σ)[q]? = some (θ.2.1 q, .inr (ci, gs)) := by
  have hat := mkW_at θ σ (knd_lt hk)
  rw [mkE_obj θ σ hk] at hat
  obtain ⟨r, hcl, -⟩ := hW.1 q _ hat
  exact ⟨r, _, hcl, hat⟩
/-- a call of a method with a contract -/
theorem caI_sound {P : List MI} (hP : ∀ (k : Nat) (M : MI), P[k]? = some M → okM P M) {i : Instr} {len : Nat} {ex : List Nat} {st : List Value} {mj : Nat} {av : List Value} {Mj : MI} {d : Nat} {v : Option Value} {σ σ' : Sg} {A0 : Nat → Prop} (hx : p.tables.exec = Jvm.exec) (hb : c.code = cc) (hml : c.maxLocals = nL) (hown : s.vm.findClass own = some m.cls) (hts : ∀ w ∈ lwg, w.before args s = true) (hdg0 : decode cc pc = .ok (i, len)) (hlen : lenI i = 0 ∨ len = lenI i) (hok : okL P own i ex) (h : caI i ex st = some (mj, av, rest)) (hMj : P[mj]? = some Mj) (hM : Ct l θ A Mj d σ av v σ') (hR : d + 1 ≤ R.frames ∧ 64 * (d + 1) ≤ R.locals) (hl : lsA.size = nL) (hf : cells ≤ R.cells ∧ slots ≤ R.slots) (hK : va_K θ.1 vwCl (tysW θ) s) (hW : Hw θ A σ H) (hS : va_S A0 H0 H locs) (hA : ∀ q, A q → A0 q)
    (kk : ∀ (t : State) (H1 : Heap) (locs1 : List Loc), t.heap = H1 → s.vm.Alike t.vm → Hw θ A σ' H1 → va_S A0 H0 H1 locs1 → H.size ≤ H1.size → (∀ q : Nat, q < H.size → ¬ A q → H1[q]? = H[q]?) → W p l e R s m args below meth c H1 locs1 cells slots Q (F0 m (pc + 3) lsA ((v.toList ++ rest).map (tv θ)))) : W p l e R s m args below meth c H locs cells slots Q (F0 m pc lsA (st.map (tv θ))) := by
  have hdg : lenI i ≠ 0 → decode cc pc = .ok (i, lenI i) ∧ len = lenI i := fun h0 => by
    rcases hlen with h1 | h1
    · exact absurd h1 h0
    · rw [← h1]; exact ⟨hdg0, rfl⟩
  obtain ⟨o1, o2, o3, -⟩ := hP mj Mj hMj
  have hRm : 8 + (Mj.2.2.1 + 11) + 64 * d ≤ R.locals := by omega
  have kk2 : ∀ (t : State) (H1 : Heap) (locs1 : List Loc), t.heap = H1 → s.vm.Alike t.vm → Hw θ A σ' H1 → va_S A0 H0 H1 locs1 → H.size ≤ H1.size → (∀ q : Nat, q < H.size → ¬ A q → H1[q]? = H[q]?) → W p l e R s m args below meth c H1 locs1 cells slots Q (F0 m (pc + 3) lsA ((v.map (tv θ)).toList ++ rest.map (tv θ))) := by
    intro t H1 locs1 h1 h2 h3 h4 h5 h6
    have := kk t H1 locs1 h1 h2 h3 h4 h5 h6
    rw [List.map_append] at this
    cases v with
    | none => exact this
    | some w => exact this
  cases i with
  | invokevirtual idx =>
    obtain ⟨hd, -⟩ := hdg (by simp [lenI])
    simp only [caI] at h
    split at h
    · rename_i mj0 n ci r
      split at h
      · rename_i b rest0 hdrop
        split at h
        · rename_i c0 fs hk
          split at h
          · rename_i hc
            obtain ⟨rfl, hn, hst⟩ := hc
            cases h
            obtain ⟨⟨C, T, N⟩, gs, hcl, hat⟩ := va_at_obj hW hk
            obtain ⟨k1, k2, k3, k4, k6⟩ := hok _ _ _ _ rfl Mj hMj C T N hcl
            have hst0 : st.map (tv θ) = ((st.take n).reverse.map (tv θ)).reverse ++ .ref (θ.2.1 b) :: rest.map (tv θ) := by
              have e1 : st = st.take n ++ (.ref b :: rest) := by rw [← hdrop]; exact (List.take_append_drop n st).symm
              rw [List.map_reverse, List.reverse_reverse]
              conv => lhs; rw [e1]
              rw [List.map_append]
              rfl
            refine z_call (a := (Value.ref (θ.2.1 b) :: (st.take n).reverse.map (tv θ)).toArray) (va_runV (C := C) (As := (st.take n).reverse.map (tv θ)) (b := θ.2.1 b) (n := n) ⟨hx, hb, hml, hown, hts⟩ hM (CaV.cw ⟨k1, k2, k3, k4, o2, k6⟩ hts rfl rfl ⟨hR.1, hRm⟩) ⟨PP_blind, va_recv hK hW.1 hcl hat, PP_of (av := .ref b :: (st.take n).reverse) hW hK⟩ rfl (by simp; omega) hl hst0 (lv_room (by rw [map_cat]; exact hst)) hd hf) hS hA kk2
          · cases h
        · cases h
      · cases h
    · cases h
  | invokestatic idx =>
    obtain ⟨hd, -⟩ := hdg (by simp [lenI])
    simp only [caI] at h
    split at h
    · rename_i mj0 n r
      split at h
      · rename_i hc
        obtain ⟨hn, hst⟩ := hc
        cases h
        obtain ⟨k1, k2, k3, k6⟩ := (hok _ _ _ rfl).2.2 Mj hMj
        have hst0 : st.map (tv θ) = ((st.take n).reverse.map (tv θ)).reverse ++ (st.drop n).map (tv θ) := by
          rw [List.map_reverse, List.reverse_reverse, ← List.map_append, List.take_append_drop]
        refine z_call (a := ((st.take n).reverse.map (tv θ)).toArray) (va_runS (As := (st.take n).reverse.map (tv θ)) (n := n) ⟨hx, hb, hml, hown, hts⟩ hM (CaS.cw ⟨k1, k2, k3, o2, k6⟩ hts rfl rfl ⟨hR.1, hRm⟩) ⟨PP_blind, PP_of (av := (st.take n).reverse) hW hK⟩ rfl (by simp; omega) hl hst0 (lv_room (by rw [map_cat]; exact hst)) hd hf) hS hA kk2
      · cases h
    · cases h
  | _ => cases h
set_option maxRecDepth 100000 in
theorem mx_words : Jvm.Cond.static Lib.Math.max.name ∈ lwg ∧ Jvm.Cond.static Lib.Math.min.name ∈ lwg ∧ Jvm.Cond.initialized "java/lang/Math" ∈ lwg ∧ Jvm.Cond.code Lib.Math.max.name Lib.Math.max.code 2 (some .int) ∈ lwg ∧ Jvm.Cond.code Lib.Math.min.name Lib.Math.min.code 2 (some .int) ∈ lwg := ⟨wu_mem (i := 843) (by decide +kernel) rfl, wu_mem (i := 840) (by decide +kernel) rfl, wu_mem (i := 172) (by decide +kernel) rfl, wu_mem (i := 844) (by decide +kernel) rfl, wu_mem (i := 841) (by decide +kernel) rfl⟩
theorem mm_sound {P : List MI} {i : Instr} {len : Nat} {ex : List Nat} {st : List Value} {mj : Nat} {av : List Value} {v : Value} (hx : p.tables.exec = Jvm.exec) (hb : c.code = cc) (hml : c.maxLocals = nL) (hown : s.vm.findClass own = some m.cls) (hts : ∀ w ∈ lwg, w.before args s = true) (hdg0 : decode cc pc = .ok (i, len)) (hlen : lenI i = 0 ∨ len = lenI i) (hok : okL P own i ex) (h : caI i ex st = some (mj, av, rest)) (hv : mm mj av = some v) (hR : 1 ≤ R.frames ∧ 64 ≤ R.locals) (hl : lsA.size = nL) (hf : cells ≤ R.cells ∧ slots ≤ R.slots)
    (kk : W p l e R s m args below meth c H locs cells slots Q (F0 m (pc + 3) lsA ((v :: rest).map (tv θ)))) : W p l e R s m args below meth c H locs cells slots Q (F0 m pc lsA (st.map (tv θ))) := by
  have hdg : lenI i ≠ 0 → decode cc pc = .ok (i, lenI i) ∧ len = lenI i := fun h0 => by
    rcases hlen with h1 | h1
    · exact absurd h1 h0
    · rw [← h1]; exact ⟨hdg0, rfl⟩
  obtain ⟨w1, w2, w3, w4, w5⟩ := mx_words
  cases i with
  | invokevirtual idx =>
    simp only [caI] at h
    split at h
    · split at h
      · split at h
        · split at h
          · cases h
            simp [mm] at hv
          · cases h
        · cases h
      · cases h
    · cases h
  | invokestatic idx =>
    obtain ⟨hd, -⟩ := hdg (by simp [lenI])
    simp only [caI] at h
    split at h
    · rename_i mj0 n r
      split at h
      · rename_i hc
        obtain ⟨hn, hst⟩ := hc
        cases h
        unfold mm at hv
        split at hv
        · rename_i x y hav
          have hst0 : st = .int y :: .int x :: st.drop n := by
            have e1 : st.take n = [.int y, .int x] := by rw [← List.reverse_reverse (st.take n), hav]; rfl
            conv => lhs; rw [← List.take_append_drop n st, e1]
            rfl
          have hst2 : ((st.drop n).map (tv θ)).map (fun v => v.category) = (st.drop n).map fun v => v.category := map_cat θ _
          have hsum : (((st.drop n).map (tv θ)).map fun v => v.category).sum + 13 ≤ R.locals := by rw [hst2]; omega
          rw [hst0]
          generalize st.drop n = rs at *
          show W p l e R s m args below meth c H locs cells slots Q (F0 m pc lsA (.int y :: .int x :: rs.map (tv θ)))
          split at hv
          · rename_i h1
            cases hv
            exact va_mmax hx hb (hml.trans hl.symm) hown (hts _ ((hok _ _ _ rfl).1 h1)) (hts _ w1) (hts _ w3) (hts _ w4) hR.1 hsum hf.1 hf.2 hd kk
          · split at hv
            · rename_i h1
              cases hv
              exact va_mmin hx hb (hml.trans hl.symm) hown (hts _ ((hok _ _ _ rfl).2.1 h1)) (hts _ w2) (hts _ w3) (hts _ w5) hR.1 hsum hf.1 hf.2 hd kk
            · cases hv
        · cases hv
      · cases h
    · cases h
  | _ => cases h
end Sound4
