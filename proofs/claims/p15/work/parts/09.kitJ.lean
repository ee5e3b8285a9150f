/-! new objects' fields; new T[n][m] whose rows are forgotten; readers over other facts than cells; void readers; strings -/
set_option maxRecDepth 20000 in
theorem dfX0 : ∀ j, j < 3 → defaultValue (tyX0 j) = vp_V [.null, .null, .int 0] j := by decide +kernel
set_option maxRecDepth 20000 in
theorem dfX1 : ∀ j, j < 13 → defaultValue (tyX1 j) = vp_V [.null, .null, .null, .null, .null, .null, .null, .int 0, .int 0, .int 0, .int 0, .int 0, .int 0] j := by decide +kernel
set_option maxRecDepth 20000 in
theorem dfX2 : ∀ j, j < 3 → defaultValue (tyX2 j) = vp_V [.null, .null, .null] j := by decide +kernel
set_option maxRecDepth 20000 in
theorem dfX3 : ∀ j, j < 18 → defaultValue (tyX3 j) = vp_V [.null, .null, .int 0, .null, .null, .int 0, .int 0, .int 0, .null, .null, .null, .null, .null, .null, .null, .null, .null, .int 0] j := by decide +kernel
set_option maxRecDepth 20000 in
theorem dfX4 : ∀ j, j < 3 → defaultValue (tyX4 j) = vp_V [.null, .null, .null] j := by decide +kernel
set_option maxRecDepth 20000 in
theorem dfX5 : ∀ j, j < 16 → defaultValue (tyX5 j) = vp_V [.int 0, .int 0, .int 0, .int 0, .null, .null, .null, .null, .null, .int 0, .int 0, .int 0, .null, .null, .null, .int 0] j := by decide +kernel
set_option maxRecDepth 20000 in
theorem dfX6 : ∀ j, j < 14 → defaultValue (tyX6 j) = vp_V [.null, .null, .null, .null, .int 0, .int 0, .int 0, .int 0, .null, .int 0, .int 0, .null, .null, .int 0] j := by decide +kernel
set_option maxRecDepth 20000 in
theorem dfX7 : ∀ j, j < 2 → defaultValue (tyX7 j) = vp_V [.null, .null] j := by decide +kernel
set_option maxRecDepth 20000 in
theorem dfX8 : ∀ j, j < 11 → defaultValue (tyX8 j) = vp_V [.null, .null, .null, .int 0, .int 0, .int 0, .int 0, .int 0, .int 0, .int 0, .int 0] j := by decide +kernel
set_option maxRecDepth 20000 in
theorem dfX9 : ∀ j, j < 5 → defaultValue (tyX9 j) = vp_V [.null, .null, .null, .null, .int 0] j := by decide +kernel
set_option maxRecDepth 20000 in
theorem dfX10 : ∀ j, j < 7 → defaultValue (tyX10 j) = vp_V [.null, .null, .null, .int 0, .null, .int 0, .int 0] j := by decide +kernel
set_option maxRecDepth 20000 in
theorem dfX11 : ∀ j, j < 14 → defaultValue (tyX11 j) = vp_V [.null, .int 0, .null, .null, .null, .null, .null, .null, .null, .null, .null, .null, .null, .null] j := by decide +kernel
set_option maxRecDepth 20000 in
theorem dfX12 : ∀ j, j < 95 → defaultValue (tyX12 j) = vp_V [.int 0, .null, .int 0, .null, .int 0, .null, .null, .null, .null, .null, .int 0, .int 0, .int 0, .int 0, .int 0, .int 0, .int 0, .int 0, .int 0, .int 0, .int 0, .null, .null, .null, .null, .null, .null, .null, .null, .null, .int 0, .null, .null, .null, .null, .null, .null, .int 0, .null, .null, .null, .int 0, .null, .null, .int 0, .int 0, .null, .int 0, .int 0, .null, .null, .null, .null, .int 0, .int 0, .int 0, .null, .null, .null, .int 0, .int 0, .int 0, .null, .null, .null, .null, .null, .null, .null, .int 0, .null, .int 0, .null, .null, .null, .null, .null, .null, .int 0, .int 0, .int 0, .null, .int 0, .int 0, .null, .null, .int 0, .null, .null, .null, .null, .null, .null, .null, .null] j := by decide +kernel
def AOA (ty : FieldType) (U : State) : Prop := (Cond.arrayOver (.array ty)).before #[] U = true
theorem AOA.spec {t : FieldType} {s : State} (h : AOA t s) :
    ∃ comp c k, s.vm.findClass (FieldType.array t).toString = some comp ∧ (s.vm.classes.findIdx? fun (x : Class) => match x.kind with | .array component _ => component == comp | _ => false) = some c ∧ s.vm.classes[c]? = some k ∧ k.kind = .array comp (.array t) ∧ s.vm.findClass ("[" ++ (FieldType.array t).toString) = some c := by
  unfold AOA Cond.before at h
  simp only [Cond.holds, Cond.value, beq_iff_eq] at h
  cases hc : s.vm.findClass (FieldType.array t).toString with
  | none => simp [hc] at h
  | some comp =>
    simp only [hc, Option.bind_some, Option.bind_eq_some_iff, Option.map_eq_some_iff] at h
    obtain ⟨c, hi, k, hk, hb⟩ := h
    obtain ⟨hlt, hp, -⟩ := Array.findIdx?_eq_some_iff_getElem.mp hi
    have hkk : s.vm.classes[c] = k := (Array.getElem?_eq_some_iff.mp hk).2
    rw [hkk] at hp
    cases hkind : k.kind with
    | array component ty =>
      rw [hkind] at hb hp
      simp at hb hp
      exact ⟨comp, c, k, rfl, hi, hk, by rw [hkind, hp, hb.1], hb.2⟩
    | _ => rw [hkind] at hb; simp at hb
theorem AOA.moved {ty : FieldType} {u U : State} (hvm : u.vm.Alike U.vm) (h : AOA ty u) : AOA ty U := by
  obtain ⟨comp, c, k, h1, h2, h3, h4, h5⟩ := AOA.spec h
  obtain ⟨k', hk', he⟩ := hvm.2.2 _ _ h3
  have hi : (U.vm.classes.findIdx? fun (x : Class) => match x.kind with | .array component _ => component == comp | _ => false) = some c := by
    have e1 := va_idx_bare U.vm comp
    have e2 := va_idx_bare u.vm comp
    first | rw [hvm.bare_eq] at e2 | rw [← hvm.bare_eq] at e2
    exact e1.symm.trans (e2.trans h2)
  have hkind : k'.kind = .array comp (.array ty) := by rw [he]; exact h4
  have f1 : U.vm.findClass (FieldType.array ty).toString = some comp := by rw [hvm.findClass]; exact h1
  have f2 : U.vm.findClass ("[" ++ (FieldType.array ty).toString) = some c := by rw [hvm.findClass]; exact h5
  unfold AOA Cond.before Cond.holds
  simp only [Cond.value]
  rw [f1, Option.bind_some]
  refine (congrArg (fun o : Option Nat => (o.bind (fun c => (U.vm.classes[c]?).map fun (k : Class) => match k.kind with | .array _ t => decide (t = FieldType.array ty) && decide (U.vm.findClass ("[" ++ (FieldType.array ty).toString) = some c) | _ => false) == some true)) hi).trans ?_
  simp [hk', hkind, f2]
section Mna
variable {p : Program} {l : Launch} {e : Env} {R : Room} {s : State} {m : MethodId} {args : Array Value} {below : List Frame} {meth : Method} {c : Code} {H : Heap} {locs : List Loc} {cells slots : Nat} {Q : State → Prop} {cc : ByteArray} {pc : Nat} {ls : Array Slot} {rest : List Value} {D : va_G} {A : Nat → Prop} {ws : va_W} {H0 : Heap}
theorem z_mna (hexec : p.tables.exec = Jvm.exec) (hb : c.code = cc) {own : String} {index : Nat} {ty : FieldType} (hown : s.vm.findClass own = some m.cls) (hclink : (Cond.classLink own index ("[" ++ (FieldType.array ty).toString)).before args s = true) (hover : AOA ty s) (harr : (Cond.arrayClass ty).before args s = true)
    (hP : va_P D vwCl ws H) (hS : va_S A H0 H locs) {n k : Int32} {N' K' : Nat} (hn : ¬ n < 0) (hk : ¬ k < 0) (hN : n.toNatClampNeg = N') (hM : k.toNatClampNeg = K')
    (hb1 : N' * 4 ≤ 536870912) (hb2 : K' * componentBytes ty ≤ 536870912) (hb3 : K' ≤ 536870912) (hdf : fits ty (defaultValue ty) = true) (hdd : (defaultValue ty).isDefault = true) (hcells : cells + (1 + N') ≤ R.cells) (hslots : slots + (N' + N' * K') ≤ R.slots) (hdg : decode cc pc = .ok (.multianewarray index 2, 4))
    (kk : ∀ (q : Nat) (H1 : Heap), va_P D vwCl ws H1 → va_S A H0 H1 locs → W p l e R s m args below meth c H1 locs (cells + 1 + N') (slots + N' + N' * K') Q (F0 m (pc + 4) ls (.ref q :: rest))) : W p l e R s m args below meth c H locs cells slots Q (F0 m pc ls (.int k :: .int n :: rest)) := by
  subst hN
  subst hM
  intro T hT Xs
  obtain ⟨vm₁, cA, comp, -, fA, fC, hO, -, X', step⟩ := Jvm.Stand.multianewarray2F Xs hexec hown hclink hover harr (g := F0 m pc ls (.int k :: .int n :: rest)) rfl (by rw [hb]; exact hdg) rfl hn hk hb1 hb2 hb3 hdf hdd hcells hslots
  generalize hF : Jvm.Free.Multi.fill (T.setVm vm₁) cA comp n.toNatClampNeg k.toNatClampNeg (defaultValue ty) n.toNatClampNeg = F at X' step
  have hTh : (T.setVm vm₁).heap = H := hT
  obtain ⟨f1, f2, -, -⟩ := Jvm.Free.Multi.fill_facts (T.setVm vm₁) cA comp n.toNatClampNeg k.toNatClampNeg (defaultValue ty) n.toNatClampNeg
  rw [hF, hTh] at f1 f2
  have hold : ∀ x : Nat, x < H.size → F.heap[x]? = H[x]? := fun x hx => by
    have := Jvm.Free.Multi.fill_old (T.setVm vm₁) cA comp n.toNatClampNeg k.toNatClampNeg (defaultValue ty) (a := x) (by rw [hTh]; exact hx) n.toNatClampNeg
    rw [hF, hTh] at this
    exact this
  obtain ⟨t, a1, b1⟩ := kk H.size F.heap (hP.kept (fun k9 x hx => hold x.1 ((hP k9 x hx).lt))) ⟨by rw [f1]; have := hS.1; omega, fun x h1 h2 => (hold x (Nat.lt_of_lt_of_le h1 hS.1)).trans (hS.2.1 x h1 h2), hS.2.2⟩ F rfl X'
  refine ⟨t, step t ?_, b1⟩
  have e : T.heap.size = H.size := by rw [hT]
  rw [e]
  exact a1
end Mna
/-- a reader over facts E of the state -/
def RdE (l : Launch) (y : MethodName) (c : ByteArray) (n : Nat) (ret : Option FieldType) (d : Nat) (E : State → Prop) (av : List Value) (r : Value) : Prop := Met l y (wU y c n ret) (rmU d 0 0) (va_Pc av E) (k2_QcV r) 0 0 (fun _ => False)
def k_QN : Array Value → State → Outcome → State → Prop := fun _ st o t => o = .returned none ∧ t.heap = st.heap
def RdN (l : Launch) (y : MethodName) (c : ByteArray) (n d : Nat) (E : State → Prop) (av : List Value) : Prop := Met l y (wU y c n none) (rmU d 0 0) (va_Pc av E) k_QN 0 0 (fun _ => False)
theorem RdE.of {l : Launch} {y : MethodName} {cc : ByteArray} {maxL : Nat} {ret : Option FieldType} {d : Nat} {E : State → Prop} {av : List Value} {r : Value} (hy : plainName y.cls = true) (hlen : (lg_sl av).length ≤ maxL)
    (body : ∀ (p : Program) (e : Env) (s : State) (m : MethodId) (below : List Frame) (meth : Method) (c : Code) (ls : Array Slot), p.tables.exec = Jvm.exec → c.code = cc → meth.sig.returnType = ret → c.maxLocals = maxL → s.vm.findClass y.cls = some m.cls → (∀ w ∈ lwg, w.before av.toArray s = true) → meth.locks = false → E s → lv_has ls maxL (lv_args 0 av) →
      W p l e (rmU d 0 0) s m av.toArray below meth c s.heap [] 0 0 (MQ below (k2_QcV r) av.toArray s 0 0 (fun _ => False)) (F0 m 0 ls [])) : RdE l y cc maxL ret d E av r := by
  refine Met.ofW (cc := cc) (maxL := maxL) (ret := ret) hy rfl ?_
  intro p e s m args below meth c s₁ B hml hv
  obtain ⟨rfl, hE⟩ := hv
  rw [lg_entry_eq]
  exact body p e s m below meth c _ B.exec B.bytes B.returns hml (findClass_of_methodNamed B.named) (fun w h => atoms_spec (ws := wU y cc maxL ret) B.pre w (List.mem_cons_of_mem _ h)) B.notSynchronized hE (lv_entry av hlen)
theorem RdN.of {l : Launch} {y : MethodName} {cc : ByteArray} {maxL : Nat} {d : Nat} {E : State → Prop} {av : List Value} (hy : plainName y.cls = true) (hlen : (lg_sl av).length ≤ maxL)
    (body : ∀ (p : Program) (e : Env) (s : State) (m : MethodId) (below : List Frame) (meth : Method) (c : Code) (ls : Array Slot), p.tables.exec = Jvm.exec → c.code = cc → meth.sig.returnType = none → c.maxLocals = maxL → s.vm.findClass y.cls = some m.cls → (∀ w ∈ lwg, w.before av.toArray s = true) → meth.locks = false → E s → lv_has ls maxL (lv_args 0 av) →
      W p l e (rmU d 0 0) s m av.toArray below meth c s.heap [] 0 0 (MQ below k_QN av.toArray s 0 0 (fun _ => False)) (F0 m 0 ls [])) : RdN l y cc maxL d E av := by
  refine Met.ofW (cc := cc) (maxL := maxL) (ret := none) hy rfl ?_
  intro p e s m args below meth c s₁ B hml hv
  obtain ⟨rfl, hE⟩ := hv
  rw [lg_entry_eq]
  exact body p e s m below meth c _ B.exec B.bytes B.returns hml (findClass_of_methodNamed B.named) (fun w h => atoms_spec (ws := wU y cc maxL none) B.pre w (List.mem_cons_of_mem _ h)) B.notSynchronized hE (lv_entry av hlen)
theorem PE_blind {E : State → Prop} {av : List Value} (h : bl E) : FrameBlind (va_Pc av E) := fun a U g mk q => ⟨q.1, h a U g mk q.2⟩
section RdERows
variable {p : Program} {l : Launch} {e : Env} {R : Room} {s : State} {m : MethodId} {args : Array Value} {below : List Frame} {meth : Method} {c : Code} {H : Heap} {locs : List Loc} {cells slots : Nat} {Q : State → Prop} {cc : ByteArray} {pc : Nat} {ls : Array Slot} {rest : List Value}
variable {own C : String} {index maxL n nL d : Nat} {y : MethodName} {bytes : ByteArray} {ret : Option FieldType} {r : Value} {b : Nat} {As : List Value} {E : State → Prop} {st0 : List Value} {a : Array Value} {g : JFrame}
theorem rd_b {v : Int32} {r : Value} {ty : FieldType} (hx : p.tables.exec = Jvm.exec) (hb : c.code = cc) (hr : meth.sig.returnType = some ty) (hlocks : meth.locks = false) (hn : narrow ty (.int v) = .int v) (hv : Value.int v = r) (hdg : decode cc pc = .ok (.ireturn, 1)) : W p l e R s m args below meth c s.heap [] 0 0 (MQ below (k2_QcV r) args s 0 0 (fun _ => False)) (F0 m pc ls [.int v]) := W.zret hx hb hr hn (fun t ht _ => ⟨by rw [hv], ht⟩) (fun q h => absurd h List.not_mem_nil) hdg hlocks
theorem rd_n (hx : p.tables.exec = Jvm.exec) (hb : c.code = cc) (hr : meth.sig.returnType = none) (hlocks : meth.locks = false) (hdg : decode cc pc = .ok (.return_, 1)) : W p l e R s m args below meth c s.heap [] 0 0 (MQ below k_QN args s 0 0 (fun _ => False)) (F0 m pc ls []) := W.vret hx hb hr (fun t ht _ => ⟨rfl, ht⟩) (fun q h => absurd h List.not_mem_nil) hdg hlocks
theorem W_callN (hr : CallRun p l e R s m args below meth c H locs cells slots 0 0 g rest (k_QN a) (fun _ => False)) (kk : W p l e R s m args below meth c H locs cells slots Q { g with pc := g.pc + 3, stack := rest }) : W p l e R s m args below meth c H locs cells slots Q g := by
  intro T hT X
  obtain ⟨v, st₀, t, T', L, h0, X', hL, e1, ⟨hv, hh⟩, st⟩ := hr T hT X
  cases hv
  obtain ⟨t2, a1, b1⟩ := kk T' (by rw [e1, hh, h0]) (Stand.forget X' (fun q h => (hL q h).elim))
  exact ⟨t2, st t2 a1, b1⟩
theorem re_V (hca : CaV own C index y bytes maxL ret n) (hx : p.tables.exec = Jvm.exec) (hb : c.code = cc) (hml : c.maxLocals = nL) (hown : s.vm.findClass own = some m.cls) (hts : ∀ w ∈ lwg, w.before args s = true) (hM : RdE l y bytes maxL ret d E (.ref b :: As) r) (hE : bl E) (hEs : ∀ U : State, U.heap = H → s.WarmedH U.vm → E U) (hrc : ∃ cellB : Cell, H[b]? = some cellB ∧ cellB.vm.isStatics = false ∧ s.vm.findClass C = some cellB.cls) (hR : d + 1 ≤ R.frames ∧ 8 + (maxL + 11) + 64 * d ≤ R.locals) (hn : As.length = n) (hl : ls.size = nL) (hst : (rest.map fun v => v.category).sum ≤ 8) (hf : cells ≤ R.cells ∧ slots ≤ R.slots) (hdg : decode cc pc = .ok (.invokevirtual index, 3)) (h0 : st0 = As.reverse ++ .ref b :: rest)
    (kk : W p l e R s m args below meth c H locs cells slots Q (F0 m (pc + 3) ls (r :: rest))) : W p l e R s m args below meth c H locs cells slots Q (F0 m pc ls st0) := by
  subst h0
  exact W.callV (W.runV (rest := rest) (As := As) ⟨hx, hb, hml, hown, hts⟩ hM (hca.cw hts rfl rfl hR) ⟨PE_blind hE, hrc, fun U hU hW => ⟨rfl, hEs U hU hW⟩⟩ rfl hn hl rfl (lv_room hst) hdg hf) kk
theorem re_S (hca : CaS own index y bytes maxL ret n) (hx : p.tables.exec = Jvm.exec) (hb : c.code = cc) (hml : c.maxLocals = nL) (hown : s.vm.findClass own = some m.cls) (hts : ∀ w ∈ lwg, w.before args s = true) (hM : RdE l y bytes maxL ret d E As r) (hE : bl E) (hEs : ∀ U : State, U.heap = H → s.WarmedH U.vm → E U) (hR : d + 1 ≤ R.frames ∧ 8 + (maxL + 11) + 64 * d ≤ R.locals) (hn : As.length = n) (hl : ls.size = nL) (hst : (rest.map fun v => v.category).sum ≤ 8) (hf : cells ≤ R.cells ∧ slots ≤ R.slots) (hdg : decode cc pc = .ok (.invokestatic index, 3)) (h0 : st0 = As.reverse ++ rest)
    (kk : W p l e R s m args below meth c H locs cells slots Q (F0 m (pc + 3) ls (r :: rest))) : W p l e R s m args below meth c H locs cells slots Q (F0 m pc ls st0) := by
  subst h0
  exact W.callV (W.runS (rest := rest) (As := As) ⟨hx, hb, hml, hown, hts⟩ hM (hca.cw hts rfl rfl hR) ⟨PE_blind hE, fun U hU hW => ⟨rfl, hEs U hU hW⟩⟩ rfl hn hl rfl (lv_room hst) hdg hf) kk
theorem re_SN (hca : CaS own index y bytes maxL none n) (hx : p.tables.exec = Jvm.exec) (hb : c.code = cc) (hml : c.maxLocals = nL) (hown : s.vm.findClass own = some m.cls) (hts : ∀ w ∈ lwg, w.before args s = true) (hM : RdN l y bytes maxL d E As) (hE : bl E) (hEs : ∀ U : State, U.heap = H → s.WarmedH U.vm → E U) (hR : d + 1 ≤ R.frames ∧ 8 + (maxL + 11) + 64 * d ≤ R.locals) (hn : As.length = n) (hl : ls.size = nL) (hst : (rest.map fun v => v.category).sum ≤ 8) (hf : cells ≤ R.cells ∧ slots ≤ R.slots) (hdg : decode cc pc = .ok (.invokestatic index, 3)) (h0 : st0 = As.reverse ++ rest)
    (kk : W p l e R s m args below meth c H locs cells slots Q (F0 m (pc + 3) ls rest)) : W p l e R s m args below meth c H locs cells slots Q (F0 m pc ls st0) := by
  subst h0
  exact W_callN (W.runS (rest := rest) (As := As) ⟨hx, hb, hml, hown, hts⟩ hM (hca.cw hts rfl rfl hR) ⟨PE_blind hE, fun U hU hW => ⟨rfl, hEs U hU hW⟩⟩ rfl hn hl rfl (lv_room hst) hdg hf) kk
end RdERows
/-- a string constant: its object, its bytes; and the statics that String's own methods read -/
def StrF (a v n : Nat) (f : Nat → Int32) (fm : Option Nat) (A : Nat → Prop) (U : State) (H : Heap) : Prop := va_O "java/lang/String" a A U H ∧ va_OF "java/lang/String" "coder" "B" (.int 0) a A U H ∧ va_OF "java/lang/String" "value" "[B" (.ref v) a A U H ∧ va_T .byte v n (fun j => .int (f j)) A U H ∧ va_Z "java/lang/String" "COMPACT_STRINGS" "Z" (.int 1) A U H ∧ va_Z "jdk/internal/util/Preconditions" "SIOOBE_FORMATTER" "Ljava/util/function/BiFunction;" (va_rf fm) A U H

theorem StrF.kept {a v n : Nat} {f : Nat → Int32} {fm : Option Nat} {A : Nat → Prop} {U : State} {H H1 : Heap} (h : StrF a v n f fm A U H) (hq : ∀ a : Nat, a < H.size → ¬ A a → H1[a]? = H[a]?) : StrF a v n f fm A U H1 := ⟨h.1.kept hq, h.2.1.kept hq, h.2.2.1.kept hq, h.2.2.2.1.kept hq, h.2.2.2.2.1.kept hq, h.2.2.2.2.2.kept hq⟩
theorem StrF.moved {a v n : Nat} {f : Nat → Int32} {fm : Option Nat} {A : Nat → Prop} {u U : State} {H : Heap} (hvm : u.vm.Alike U.vm) (h : StrF a v n f fm A u H) : StrF a v n f fm A U H := ⟨h.1.moved hvm, h.2.1.moved hvm, h.2.2.1.moved hvm, h.2.2.2.1.moved hvm, h.2.2.2.2.1.moved hvm, h.2.2.2.2.2.moved hvm⟩
theorem StrF.narrow {a v n : Nat} {f : Nat → Int32} {fm : Option Nat} {A B : Nat → Prop} {U : State} {H : Heap} (h : StrF a v n f fm A U H) (hAB : ∀ q, B q → A q) : StrF a v n f fm B U H := ⟨h.1.narrow hAB, h.2.1.narrow hAB, h.2.2.1.narrow hAB, h.2.2.2.1.narrow hAB, h.2.2.2.2.1.narrow hAB, h.2.2.2.2.2.narrow hAB⟩
/-- the same, with nothing that may change -/
def SF (a v n : Nat) (f : Nat → Int32) (fm : Option Nat) (U : State) : Prop := StrF a v n f fm (fun _ => False) U U.heap
theorem SF_bl {a v n : Nat} {f : Nat → Int32} {fm : Option Nat} : bl (SF a v n f fm) := fun ar U g mk h => StrF.moved (u := U) (U := U.calling g mk ar) (Vm.Alike.refl U.vm) h
theorem SF_of {a v n : Nat} {f : Nat → Int32} {fm : Option Nat} {A : Nat → Prop} {s : State} {H : Heap} {locs : List Loc} (h : StrF a v n f fm A s s.heap) (hS : va_S A s.heap H locs) : ∀ U : State, U.heap = H → s.WarmedH U.vm → SF a v n f fm U := fun U hU hW => by
  have h1 : StrF a v n f fm A s H := h.kept (fun q h1 h2 => hS.2.1 q h1 h2)
  have h2 : StrF a v n f fm A U H := h1.moved hW.alike
  have h3 := h2.narrow (B := fun _ => False) (fun _ h => h.elim)
  unfold SF
  rw [hU]
  exact h3
