/-! methods that write ('writers'): their cells before, their cells behind, all else unchanged -/
abbrev WF : Type := (Nat → Nat) → (Nat → ClassId) → (Nat → Nat → Int32) → (Nat → Nat → Int64) → va_W
abbrev TF : Type := (Nat → ClassId) → List (ClassId × FieldType)
def bl (E : State → Prop) : Prop := ∀ (a : Array Value) (U : State) (g : JFrame) (mk : MethodId), E U → E (U.calling g mk a)
theorem bl_T : bl (fun _ => True) := fun _ _ _ _ h => h
def PW (D : va_G) (w : va_W) (tys : List (ClassId × FieldType)) (av : List Value) (sz : Nat) (E : State → Prop) : Array Value → State → Prop := va_Pc av (fun U => U.heap.size = sz ∧ va_P D vwCl w U.heap ∧ va_K D vwCl tys U ∧ va_D (fun _ => True) w ∧ E U)
theorem PW_blind {D : va_G} {w : va_W} {tys : List (ClassId × FieldType)} {av : List Value} {sz : Nat} {E : State → Prop} (h : bl E) : FrameBlind (PW D w tys av sz E) := fun a U g mk q => ⟨q.1, q.2.1, q.2.2.1, va_K.moved (u := U) (U := U.calling g mk a) (Vm.Alike.refl U.vm) q.2.2.2.1, q.2.2.2.2.1, h a U g mk q.2.2.2.2.2⟩
theorem PW_of {D : va_G} {w : va_W} {tys : List (ClassId × FieldType)} {av : List Value} {E : State → Prop} {s : State} {H : Heap} {A : Nat → Prop} (hP : va_P D vwCl w H) (hK : va_K D vwCl tys s) (hD : va_D A w) (hE : ∀ U : State, U.heap = H → s.WarmedH U.vm → E U) : ∀ U : State, U.heap = H → s.WarmedH U.vm → PW D w tys av H.size E av.toArray U := fun U hU hW => ⟨rfl, by rw [hU], by rw [hU]; exact hP, va_K.moved hW.alike hK, hD.weaken (fun _ _ _ _ => trivial), hE U hU hW⟩
def AT (D : va_G) (w' : WF) (t' : TF) (A : Nat → Prop) (t : State) : Prop := ∃ (q : Nat → Nat) (k : Nat → ClassId) (g : Nat → Nat → Int32) (gl : Nat → Nat → Int64), va_P D vwCl (w' q k g gl) t.heap ∧ va_K D vwCl (t' k) t ∧ va_D A (w' q k g gl)
abbrev QWv (D : va_G) (w' : WF) (t' : TF) (A : Nat → Prop) : Array Value → State → Outcome → State → Prop := va_Qv (fun _ : Unit => True) (fun _ t => AT D w' t' A t) A
abbrev QWi (D : va_G) (r : Int32) (w' : WF) (t' : TF) (A : Nat → Prop) : Array Value → State → Outcome → State → Prop := va_Qi (fun (x : Int32) (_ : Unit) => x = r) (fun _ t => AT D w' t' A t) A
def Wv (l : Launch) (y : MethodName) (c : ByteArray) (n d mc ms : Nat) (D : va_G) (w : va_W) (tys : List (ClassId × FieldType)) (av : List Value) (sz : Nat) (E : State → Prop) (w' : WF) (t' : TF) : Prop := Met l y (wU y c n none) (rmU d mc ms) (PW D w tys av sz E) (QWv D w' t' (va_A w sz)) mc ms (va_A w sz)
def Wi (l : Launch) (y : MethodName) (c : ByteArray) (n : Nat) (ret : Option FieldType) (d mc ms : Nat) (D : va_G) (w : va_W) (tys : List (ClassId × FieldType)) (av : List Value) (sz : Nat) (E : State → Prop) (r : Int32) (w' : WF) (t' : TF) : Prop := Met l y (wU y c n ret) (rmU d mc ms) (PW D w tys av sz E) (QWi D r w' t' (va_A w sz)) mc ms (va_A w sz)
section WrEntry
variable {l : Launch} {y : MethodName} {cc : ByteArray} {maxL d mc ms : Nat} {ret : Option FieldType} {D : va_G} {w : va_W} {tys : List (ClassId × FieldType)} {av : List Value} {sz : Nat} {E : State → Prop} {r : Int32} {w' : WF} {t' : TF}
theorem Wv.of (hy : plainName y.cls = true) (hlen : (lg_sl av).length ≤ maxL)
    (body : ∀ (p : Program) (e : Env) (s : State) (m : MethodId) (below : List Frame) (meth : Method) (c : Code) (ls : Array Slot) (A : Nat → Prop), p.tables.exec = Jvm.exec → c.code = cc → meth.sig.returnType = none → c.maxLocals = maxL → s.vm.findClass y.cls = some m.cls → (∀ w ∈ lwg, w.before av.toArray s = true) → meth.locks = false → meth.name = y.name → va_P D vwCl w s.heap → va_K D vwCl tys s → va_D A w → (∀ q : Nat, s.heap.size ≤ q → A q) → va_S A s.heap s.heap [] → E s → A = va_A w s.heap.size → lv_has ls maxL (lv_args 0 av) →
      W p l e (rmU d mc ms) s m av.toArray below meth c s.heap [] 0 0 (MQ below (QWv D w' t' A) av.toArray s mc ms A) (F0 m 0 ls [])) : Wv l y cc maxL d mc ms D w tys av sz E w' t' := by
  refine Met.ofW (cc := cc) (maxL := maxL) (ret := none) hy rfl ?_
  intro p e s m args below meth c s₁ B hml hv
  obtain ⟨rfl, hsz, hP, hK, hD, hE⟩ := hv
  subst hsz
  rw [lg_entry_eq]
  exact body p e s m below meth c _ (va_A w s.heap.size) B.exec B.bytes B.returns hml (findClass_of_methodNamed B.named) (fun w h => atoms_spec (ws := wU y cc maxL none) B.pre w (List.mem_cons_of_mem _ h)) B.notSynchronized (name_of_methodNamed B.named B.method).1 hP hK hD.self (fun _ h => Or.inr h) va_S.rf hE rfl (lv_entry av hlen)
theorem Wi.of (hy : plainName y.cls = true) (hlen : (lg_sl av).length ≤ maxL)
    (body : ∀ (p : Program) (e : Env) (s : State) (m : MethodId) (below : List Frame) (meth : Method) (c : Code) (ls : Array Slot) (A : Nat → Prop), p.tables.exec = Jvm.exec → c.code = cc → meth.sig.returnType = ret → c.maxLocals = maxL → s.vm.findClass y.cls = some m.cls → (∀ w ∈ lwg, w.before av.toArray s = true) → meth.locks = false → meth.name = y.name → va_P D vwCl w s.heap → va_K D vwCl tys s → va_D A w → (∀ q : Nat, s.heap.size ≤ q → A q) → va_S A s.heap s.heap [] → E s → A = va_A w s.heap.size → lv_has ls maxL (lv_args 0 av) →
      W p l e (rmU d mc ms) s m av.toArray below meth c s.heap [] 0 0 (MQ below (QWi D r w' t' A) av.toArray s mc ms A) (F0 m 0 ls [])) : Wi l y cc maxL ret d mc ms D w tys av sz E r w' t' := by
  refine Met.ofW (cc := cc) (maxL := maxL) (ret := ret) hy rfl ?_
  intro p e s m args below meth c s₁ B hml hv
  obtain ⟨rfl, hsz, hP, hK, hD, hE⟩ := hv
  subst hsz
  rw [lg_entry_eq]
  exact body p e s m below meth c _ (va_A w s.heap.size) B.exec B.bytes B.returns hml (findClass_of_methodNamed B.named) (fun w h => atoms_spec (ws := wU y cc maxL ret) B.pre w (List.mem_cons_of_mem _ h)) B.notSynchronized (name_of_methodNamed B.named B.method).1 hP hK hD.self (fun _ h => Or.inr h) va_S.rf hE rfl (lv_entry av hlen)
end WrEntry
theorem fm_map {α : Type} {f : Nat → Option α} {is : List Nat} {l : List α} (h : is.map f = l.map some) : is.filterMap f = l := by
  have h1 : is.filterMap f = (is.map f).filterMap id := by rw [List.filterMap_map]; rfl
  rw [h1, h, List.filterMap_map]
  exact List.filterMap_some
def CaI (own : String) (index : Nat) (y : MethodName) (bytes : ByteArray) (maxL n : Nat) : Prop := Cond.methodLink own index y ∈ lwg ∧ Cond.instanceMethod y ∈ lwg ∧ Cond.initialized y.cls ∈ lwg ∧ Cond.code y bytes maxL none ∈ lwg ∧ y.name = "<init>" ∧ y.cls ≠ "java/lang/invoke/MethodHandle" ∧ y.cls ≠ "java/lang/invoke/VarHandle" ∧ (parseMethodDescriptor y.desc).map (fun d => d.parameters.length) = some n
section WrRows
variable {p : Program} {l : Launch} {e : Env} {R : Room} {s : State} {m : MethodId} {args : Array Value} {below : List Frame} {meth : Method} {c : Code} {H : Heap} {locs : List Loc} {cells slots : Nat} {Q : State → Prop} {cc : ByteArray} {pc : Nat} {ls : Array Slot} {rest : List Value} {D : va_G} {A : Nat → Prop} {mc ms : Nat} {w' : WF} {t' : TF} {q : Nat → Nat} {k : Nat → ClassId} {g : Nat → Nat → Int32} {gl : Nat → Nat → Int64}
theorem wr_v (hx : p.tables.exec = Jvm.exec) (hb : c.code = cc) (hr : meth.sig.returnType = none) (hlocks : meth.locks = false) (hS : va_S A s.heap H locs) (hP : va_P D vwCl (w' q k g gl) H) (hK : va_K D vwCl (t' k) s) (hD : va_D A (w' q k g gl)) (hdg : decode cc pc = .ok (.return_, 1)) : W p l e R s m args below meth c H locs mc ms (MQ below (QWv D w' t' A) args s mc ms A) (F0 m pc ls []) :=
  W.vret hx hb hr (fun t ht hW => ⟨⟨(), rfl, trivial, q, k, g, gl, by rw [ht]; exact hP, va_K.moved hW.alike hK, hD⟩, hS.F ht⟩) hS.2.2 hdg hlocks
theorem wr_i {v r : Int32} (hx : p.tables.exec = Jvm.exec) (hb : c.code = cc) (hr : meth.sig.returnType = some .int) (hlocks : meth.locks = false) (hv : v = r) (hS : va_S A s.heap H locs) (hP : va_P D vwCl (w' q k g gl) H) (hK : va_K D vwCl (t' k) s) (hD : va_D A (w' q k g gl)) (hdg : decode cc pc = .ok (.ireturn, 1)) : W p l e R s m args below meth c H locs mc ms (MQ below (QWi D r w' t' A) args s mc ms A) (F0 m pc ls [.int v]) :=
  W.iret hx hb hr (fun t ht hW => ⟨⟨v, (), rfl, hv, q, k, g, gl, by rw [ht]; exact hP, va_K.moved hW.alike hK, hD⟩, hS.F ht⟩) hS.2.2 hdg hlocks
theorem wr_z {v r : Int32} (hx : p.tables.exec = Jvm.exec) (hb : c.code = cc) (hr : meth.sig.returnType = some .boolean) (hlocks : meth.locks = false) (hn : narrow .boolean (.int v) = .int v) (hv : v = r) (hS : va_S A s.heap H locs) (hP : va_P D vwCl (w' q k g gl) H) (hK : va_K D vwCl (t' k) s) (hD : va_D A (w' q k g gl)) (hdg : decode cc pc = .ok (.ireturn, 1)) : W p l e R s m args below meth c H locs mc ms (MQ below (QWi D r w' t' A) args s mc ms A) (F0 m pc ls [.int v]) :=
  W.zret hx hb hr hn (fun t ht hW => ⟨⟨v, (), rfl, hv, q, k, g, gl, by rw [ht]; exact hP, va_K.moved hW.alike hK, hD⟩, hS.F ht⟩) hS.2.2 hdg hlocks
variable {own C : String} {index maxL n nL d : Nat} {y : MethodName} {bytes : ByteArray} {ret : Option FieldType} {b : Nat} {As : List Value} {ws wc wr : va_W} {tys tyc : List (ClassId × FieldType)} {E : State → Prop} {isC isR isT : List Nat} {st0 : List Value} {r : Int32}
/-- what a caller says of the callee's cells: their places, the places of the rest -/
def Cut (ws wc wr : va_W) (isC isR : List Nat) : Prop := isC.map (fun i => ws[i]?) = wc.map some ∧ va_nd isC = true ∧ isR.map (fun i => ws[i]?) = wr.map some ∧ va_nd isR = true ∧ ∀ i ∈ isR, i ∉ isC
theorem wr_back {H1 : Heap} {t : State} (hP : va_P D vwCl ws H) (hD : va_D A ws) (hK : va_K D vwCl tys s) (hS : va_S A s.heap H locs) (hA : ∀ q : Nat, s.heap.size ≤ q → A q) (hcut : Cut ws wc wr isC isR) (ht : t.heap = H1) (hvm : s.vm.Alike t.vm) (hk1 : ∀ q : Nat, q < H.size → ¬ va_A wc H.size q → H1[q]? = H[q]?) (hP1 : va_P D vwCl (w' q k g gl) t.heap) (hK1 : va_K D vwCl (t' k) t) (hD1 : va_D (va_A wc H.size) (w' q k g gl)) : va_P D vwCl (wr ++ w' q k g gl) H1 ∧ va_D A (wr ++ w' q k g gl) ∧ va_K D vwCl (tys ++ t' k) s := by
  obtain ⟨hC, hCn, hR, hRn, hdis⟩ := hcut
  rw [ht] at hP1
  obtain ⟨h1, h2⟩ := va_join hP hD isC isR hC hR hRn hdis hk1 (va_free hD hS hA isC hC) hP1 hD1
  exact ⟨h1, h2, hK.app (va_K.moved hvm.symm hK1)⟩
theorem wr_I (hca : CaI own index y bytes maxL n) (hx : p.tables.exec = Jvm.exec) (hb : c.code = cc) (hml : c.maxLocals = nL) (hown : s.vm.findClass own = some m.cls) (hts : ∀ w ∈ lwg, w.before args s = true) (hP : va_P D vwCl ws H) (hD : va_D A ws) (hK : va_K D vwCl tys s) (hS : va_S A s.heap H locs) (hA : ∀ q : Nat, s.heap.size ≤ q → A q) (hcut : Cut ws wc wr isC isR) (hT : isT.filterMap (fun i => tys[i]?) = tyc) (hM : Wv l y bytes maxL d mc ms D wc tyc (.ref b :: As) H.size E w' t') (hE : bl E) (hEs : ∀ U : State, U.heap = H → s.WarmedH U.vm → E U) (hRm : d + 1 ≤ R.frames ∧ 8 + (maxL + 11) + 64 * d ≤ R.locals) (hn : As.length = n) (hl : ls.size = nL) (hst : (rest.map fun v => v.category).sum ≤ 8) (hf : cells + mc ≤ R.cells ∧ slots + ms ≤ R.slots) (hdg : decode cc pc = .ok (.invokespecial index, 3)) (h0 : st0 = As.reverse ++ .ref b :: rest)
    (kk : ∀ (q : Nat → Nat) (k : Nat → ClassId) (g : Nat → Nat → Int32) (gl : Nat → Nat → Int64) (H1 : Heap) (locs1 : List Loc), va_P D vwCl (wr ++ w' q k g gl) H1 → va_D A (wr ++ w' q k g gl) → va_K D vwCl (tys ++ t' k) s → va_S A s.heap H1 locs1 → W p l e R s m args below meth c H1 locs1 (cells + mc) (slots + ms) Q (F0 m (pc + 3) ls rest)) : W p l e R s m args below meth c H locs cells slots Q (F0 m pc ls st0) := by
  subst h0
  have hPc := hP.sub isC (fm_map hcut.1)
  have hDc := hD.sub isC hcut.2.1 hcut.1
  have hKc := hK.sub isT hT
  have hFc := va_free hD hS hA isC hcut.1
  obtain ⟨k1, k2, k3, k4, k5, k6⟩ := hca
  refine va_callv (va_runI (As := As) (rest := rest) ⟨hx, hb, hml, hown, hts⟩ hM ⟨callB_of n hts (wu_goodC k4) rfl rfl rfl (hts _ k3) (hts _ k1) k6 hRm, k5, hts _ k2⟩ ⟨PW_blind hE, PW_of hPc hKc hDc hEs⟩ rfl hn hl rfl (lv_room hst) hdg hf) hS (fun q _ h => hFc q h) hFc (fun u t H1 locs1 ht hvm hw hB hz1 hk1 hS1 => ?_)
  obtain ⟨q, k, g, gl, hP1, hK1, hD1⟩ := hB
  obtain ⟨a1, a2, a3⟩ := wr_back hP hD hK hS hA hcut ht hvm hk1 hP1 hK1 hD1
  exact kk q k g gl H1 locs1 a1 a2 a3 hS1
theorem wr_N {host : String} (hlk : va_Nw (.methodLinkNest own index y host) s) (k2 : Cond.instanceMethod y ∈ lwg) (k3 : Cond.initialized y.cls ∈ lwg) (k4 : Cond.code y bytes maxL none ∈ lwg) (k5 : y.name = "<init>") (k6 : y.cls ≠ "java/lang/invoke/MethodHandle" ∧ y.cls ≠ "java/lang/invoke/VarHandle" ∧ (parseMethodDescriptor y.desc).map (fun d => d.parameters.length) = some n) (hx : p.tables.exec = Jvm.exec) (hb : c.code = cc) (hml : c.maxLocals = nL) (hown : s.vm.findClass own = some m.cls) (hts : ∀ w ∈ lwg, w.before args s = true) (hP : va_P D vwCl ws H) (hD : va_D A ws) (hK : va_K D vwCl tys s) (hS : va_S A s.heap H locs) (hA : ∀ q : Nat, s.heap.size ≤ q → A q) (hcut : Cut ws wc wr isC isR) (hT : isT.filterMap (fun i => tys[i]?) = tyc) (hM : Wv l y bytes maxL d mc ms D wc tyc (.ref b :: As) H.size E w' t') (hE : bl E) (hEs : ∀ U : State, U.heap = H → s.WarmedH U.vm → E U) (hRm : d + 1 ≤ R.frames ∧ 8 + (maxL + 11) + 64 * d ≤ R.locals) (hn : As.length = n) (hl : ls.size = nL) (hst : (rest.map fun v => v.category).sum ≤ 8) (hf : cells + mc ≤ R.cells ∧ slots + ms ≤ R.slots) (hdg : decode cc pc = .ok (.invokespecial index, 3)) (h0 : st0 = As.reverse ++ .ref b :: rest)
    (kk : ∀ (q : Nat → Nat) (k : Nat → ClassId) (g : Nat → Nat → Int32) (gl : Nat → Nat → Int64) (H1 : Heap) (locs1 : List Loc), va_P D vwCl (wr ++ w' q k g gl) H1 → va_D A (wr ++ w' q k g gl) → va_K D vwCl (tys ++ t' k) s → va_S A s.heap H1 locs1 → W p l e R s m args below meth c H1 locs1 (cells + mc) (slots + ms) Q (F0 m (pc + 3) ls rest)) : W p l e R s m args below meth c H locs cells slots Q (F0 m pc ls st0) := by
  subst h0
  have hPc := hP.sub isC (fm_map hcut.1)
  have hDc := hD.sub isC hcut.2.1 hcut.1
  have hKc := hK.sub isT hT
  have hFc := va_free hD hS hA isC hcut.1
  refine va_callv (va_runIN (As := As) (rest := rest) ⟨hx, hb, hml, hown, hts⟩ hM ⟨va_cnB n hts (wu_goodC k4) rfl rfl rfl hlk (hts _ k3) k6 hRm, k5, hts _ k2⟩ ⟨PW_blind hE, PW_of hPc hKc hDc hEs⟩ rfl hn hl rfl (lv_room hst) hdg hf) hS (fun q _ h => hFc q h) hFc (fun u t H1 locs1 ht hvm hw hB hz1 hk1 hS1 => ?_)
  obtain ⟨q, k, g, gl, hP1, hK1, hD1⟩ := hB
  obtain ⟨a1, a2, a3⟩ := wr_back hP hD hK hS hA hcut ht hvm hk1 hP1 hK1 hD1
  exact kk q k g gl H1 locs1 a1 a2 a3 hS1
theorem wr_V {ci q0 N : Nat} {T : u_T} {fs : List Value} (hca : CaV own C index y bytes maxL none n) (hx : p.tables.exec = Jvm.exec) (hb : c.code = cc) (hml : c.maxLocals = nL) (hown : s.vm.findClass own = some m.cls) (hts : ∀ w ∈ lwg, w.before args s = true) (hP : va_P D vwCl ws H) (hD : va_D A ws) (hK : va_K D vwCl tys s) (hS : va_S A s.heap H locs) (hA : ∀ q : Nat, s.heap.size ≤ q → A q) (hcut : Cut ws wc wr isC isR) (hT : isT.filterMap (fun i => tys[i]?) = tyc) (hM : Wv l y bytes maxL d mc ms D wc tyc (.ref b :: As) H.size E w' t') (hE : bl E) (hEs : ∀ U : State, U.heap = H → s.WarmedH U.vm → E U) (hc : vwCl[ci]? = some (C, T, N)) (he : ws[q0]? = some (b, .inr (ci, fs))) (hRm : d + 1 ≤ R.frames ∧ 8 + (maxL + 11) + 64 * d ≤ R.locals) (hn : As.length = n) (hl : ls.size = nL) (hst : (rest.map fun v => v.category).sum ≤ 8) (hf : cells + mc ≤ R.cells ∧ slots + ms ≤ R.slots) (hdg : decode cc pc = .ok (.invokevirtual index, 3)) (h0 : st0 = As.reverse ++ .ref b :: rest)
    (kk : ∀ (q : Nat → Nat) (k : Nat → ClassId) (g : Nat → Nat → Int32) (gl : Nat → Nat → Int64) (H1 : Heap) (locs1 : List Loc), va_P D vwCl (wr ++ w' q k g gl) H1 → va_D A (wr ++ w' q k g gl) → va_K D vwCl (tys ++ t' k) s → va_S A s.heap H1 locs1 → W p l e R s m args below meth c H1 locs1 (cells + mc) (slots + ms) Q (F0 m (pc + 3) ls rest)) : W p l e R s m args below meth c H locs cells slots Q (F0 m pc ls st0) := by
  subst h0
  have hPc := hP.sub isC (fm_map hcut.1)
  have hDc := hD.sub isC hcut.2.1 hcut.1
  have hKc := hK.sub isT hT
  have hFc := va_free hD hS hA isC hcut.1
  refine va_callv (va_runV (As := As) (rest := rest) ⟨hx, hb, hml, hown, hts⟩ hM (hca.cw hts rfl rfl hRm) ⟨PW_blind hE, va_recv hK hP hc he, PW_of hPc hKc hDc hEs⟩ rfl hn hl rfl (lv_room hst) hdg hf) hS (fun q _ h => hFc q h) hFc (fun u t H1 locs1 ht hvm hw hB hz1 hk1 hS1 => ?_)
  obtain ⟨q, k, g, gl, hP1, hK1, hD1⟩ := hB
  obtain ⟨a1, a2, a3⟩ := wr_back hP hD hK hS hA hcut ht hvm hk1 hP1 hK1 hD1
  exact kk q k g gl H1 locs1 a1 a2 a3 hS1
theorem wr_Vi {ci q0 N : Nat} {T : u_T} {fs : List Value} (hca : CaV own C index y bytes maxL ret n) (hx : p.tables.exec = Jvm.exec) (hb : c.code = cc) (hml : c.maxLocals = nL) (hown : s.vm.findClass own = some m.cls) (hts : ∀ w ∈ lwg, w.before args s = true) (hP : va_P D vwCl ws H) (hD : va_D A ws) (hK : va_K D vwCl tys s) (hS : va_S A s.heap H locs) (hA : ∀ q : Nat, s.heap.size ≤ q → A q) (hcut : Cut ws wc wr isC isR) (hT : isT.filterMap (fun i => tys[i]?) = tyc) (hM : Wi l y bytes maxL ret d mc ms D wc tyc (.ref b :: As) H.size E r w' t') (hE : bl E) (hEs : ∀ U : State, U.heap = H → s.WarmedH U.vm → E U) (hc : vwCl[ci]? = some (C, T, N)) (he : ws[q0]? = some (b, .inr (ci, fs))) (hRm : d + 1 ≤ R.frames ∧ 8 + (maxL + 11) + 64 * d ≤ R.locals) (hn : As.length = n) (hl : ls.size = nL) (hst : (rest.map fun v => v.category).sum ≤ 8) (hf : cells + mc ≤ R.cells ∧ slots + ms ≤ R.slots) (hdg : decode cc pc = .ok (.invokevirtual index, 3)) (h0 : st0 = As.reverse ++ .ref b :: rest)
    (kk : ∀ (q : Nat → Nat) (k : Nat → ClassId) (g : Nat → Nat → Int32) (gl : Nat → Nat → Int64) (H1 : Heap) (locs1 : List Loc), va_P D vwCl (wr ++ w' q k g gl) H1 → va_D A (wr ++ w' q k g gl) → va_K D vwCl (tys ++ t' k) s → va_S A s.heap H1 locs1 → W p l e R s m args below meth c H1 locs1 (cells + mc) (slots + ms) Q (F0 m (pc + 3) ls (.int r :: rest))) : W p l e R s m args below meth c H locs cells slots Q (F0 m pc ls st0) := by
  subst h0
  have hPc := hP.sub isC (fm_map hcut.1)
  have hDc := hD.sub isC hcut.2.1 hcut.1
  have hKc := hK.sub isT hT
  have hFc := va_free hD hS hA isC hcut.1
  refine va_calli (va_runV (As := As) (rest := rest) ⟨hx, hb, hml, hown, hts⟩ hM (hca.cw hts rfl rfl hRm) ⟨PW_blind hE, va_recv hK hP hc he, PW_of hPc hKc hDc hEs⟩ rfl hn hl rfl (lv_room hst) hdg hf) hS (fun q _ h => hFc q h) hFc (fun r1 u t H1 locs1 ht hvm hw hB hz1 hk1 hS1 => ?_)
  obtain ⟨q, k, g, gl, hP1, hK1, hD1⟩ := hB
  obtain ⟨a1, a2, a3⟩ := wr_back hP hD hK hS hA hcut ht hvm hk1 hP1 hK1 hD1
  rw [show r1 = r from hw]
  exact kk q k g gl H1 locs1 a1 a2 a3 hS1
end WrRows
