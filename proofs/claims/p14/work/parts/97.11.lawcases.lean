-- ===== end of PART A; then your names; then what follows =====
/-! THE CLAIM OUT OF ONE WALK OF THE LAW'S BODY. Your part is whole_start (and what it stands on); all else here is the same for every law, but numbers. -/
def R_law : String := "SignalTableLaw"
def lw_P (b : Addr) (xs : List Int32) (args : Array Value) (s : State) : Prop := args = #[.ref b] ∧ s.IntsAt b xs ∧ xs.length ≤ 384 ∧ (Jvm.Cond.and given_1 narrow_1).before args s = true
def lw_Q (_ : Array Value) (s : State) (o : Outcome) (t : State) : Prop := o = .returned (some (.int 1)) ∧ Framed s o t [] 600000 7302250
def lw_Z (below : List Frame) (a : Array Value) (s : State) : State → Prop := fun t => ∃ o, t.status = .running ∧ Ended t below o ∧ lw_Q a s o t
/-- the law's own end, with 1 on the stack, nothing written that was there before, its room as the claim has it -/
theorem lw_ret {p : Program} {l : Launch} {e : Env} {s : State} {m : MethodId} {below : List Frame} {meth : Method} {c : Code} {b : Nat} (hx : p.tables.exec = Jvm.exec) (hb : c.code = code) (hr : meth.sig.returnType = ret) (hlocks : meth.locks = false) {pc : Nat} {H : Heap} {ls : Array Slot} (hdg : decode code pc = .ok (.ireturn, 1)) : W p l e room_1 s m #[Value.ref b] below meth c H [] 600000 7302250 (lw_Z below #[Value.ref b] s) (F0 m pc ls [.int 1]) := by
  intro T hT X
  obtain ⟨fs, hret, hrun, hended, hW, hframe⟩ := X.leave (v := some (.int 1)) (hlocks := hlocks) (fun h => by rw [hr] at h; cases h)
  have hmeth' : T.vm.method? m = some meth := X.method'
  refine ⟨T.setFrames fs, ?_, .returned (some (.int 1)), hrun, hended, rfl, ⟨_, rfl⟩, hW, hframe⟩
  jvm_step X.here [X.here.top, hx, hb, hdg, hmeth', hr, ret, narrow_b1]
  (try refine ⟨rfl, ?_⟩); (try refine ⟨rfl, ?_⟩)
  first | (intro acts; rw [hret _ acts rfl rfl rfl]) | rw [hret _ _ rfl rfl rfl]
  exact Steps.refl _
/-- what holds at the law's entry: the machine, the code, the tables' words (any of lw_tbl by 'hts w (by decide +kernel)'), the script of L ints xs at the cell b, what the Statement gives of the start (any of its parts by flat_of_before) -/
def lw_At (p : Program) (s : State) (m : MethodId) (meth : Method) (c : Code) (b L : Nat) (xs : Nat → Int32) : Prop :=
  p.tables.exec = Jvm.exec ∧ c.code = code ∧ meth.sig.returnType = ret ∧ c.maxLocals = 4 ∧ s.vm.findClass R_law = some m.cls ∧ (∀ w ∈ lw_tbl, w.before #[Value.ref b] s = true) ∧ va_X b L xs s s.heap ∧ b < s.heap.size ∧ meth.locks = false ∧ (Jvm.Cond.and given_1 narrow_1).before #[Value.ref b] s = true

/-! the law: a call of either side -/
section LawV
variable {p : Program} {l : Launch} {e : Env} {R : Room} {s : State} {m : MethodId} {args : Array Value} {below : List Frame} {meth : Method} {c : Code} {H : Heap} {locs : List Loc} {cells slots : Nat} {Q : State → Prop} {cc : ByteArray} {pc : Nat} {ls : Array Slot} {rest st0 : List Value} {θ : Th} {A0 : Nat → Prop} {H0 : Heap} {own : String} {nL : Nat} {σ : Sg}
theorem law_V {C : String} {T : u_T} {N : Nat} {Mj : MI} {mj n q0 ci index : Nat} {fs : List (Nat × Nat)} {As : List Value} {Qc : Option Value → Sg → Prop} (hca : CaV own C index Mj.1 Mj.2.1 Mj.2.2.1 Mj.2.2.2.1 n) (hx : p.tables.exec = Jvm.exec) (hb : c.code = cc) (hml : c.maxLocals = nL) (hown : s.vm.findClass own = some m.cls) (hts : ∀ w ∈ lwg, w.before args s = true) (hMj : PRG[mj]? = some Mj) (h : Ok PRG 60 mj (.ref q0 :: As) σ Qc) (hk : knd q0 = some (0, ci, fs)) (hc : vwCl[ci]? = some (C, T, N)) (hAs : As.map (tv θ) = As) (hn : As.length = n) (hR : 2048 ≤ R.frames ∧ 84000 ≤ R.locals) (hK : va_K θ.1 vwCl (tysW θ) s) (hW : Hw θ A0 σ H) (hS : va_S A0 H0 H locs) (hl : ls.size = nL) (hst : (rest.map fun v => v.category).sum ≤ 8) (hdg : decode cc pc = .ok (.invokevirtual index, 3)) (hcs : cells ≤ R.cells ∧ slots ≤ R.slots) (h0 : st0 = As.reverse ++ .ref (θ.2.1 q0) :: rest)
    (kk : ∀ (v : Option Value) (σ' : Sg) (H1 : Heap) (locs1 : List Loc), Qc v σ' → Hw θ A0 σ' H1 → va_S A0 H0 H1 locs1 → W p l e R s m args below meth c H1 locs1 cells slots Q (F0 m (pc + 3) ls ((v.map (tv θ)).toList ++ rest))) : W p l e R s m args below meth c H locs cells slots Q (F0 m pc ls st0) := by
  obtain ⟨M, e1, e2, n0, v, σ1, hrun, hq⟩ := h
  have eM : M = Mj := Option.some.inj (e1.symm.trans hMj)
  subst eM
  have hC : Ct l θ A0 M 60 σ (.ref q0 :: As) v σ1 := run_Ct ok_all e1 e2 hrun
  have hM45 := (ok_all mj M e1).2.2.1
  obtain ⟨⟨C', T', N'⟩, gs, hcl, hat⟩ := va_at_obj hW hk
  rw [hc] at hcl
  cases hcl
  have hC' : Met l M.1 (wU M.1 M.2.1 M.2.2.1 M.2.2.2.1) (rmU 60 0 0) (PP θ A0 σ (.ref q0 :: As)) (QP θ A0 v σ1) 0 0 A0 := hC
  refine z_call (a := (Value.ref (θ.2.1 q0) :: As.map (tv θ)).toArray) (va_runV (C := C) (As := As.map (tv θ)) (b := θ.2.1 q0) (n := n) ⟨hx, hb, hml, hown, hts⟩ hC' (CaV.cw hca hts rfl rfl ⟨by show 60 + 1 ≤ R.frames; omega, by show 8 + (M.2.2.1 + 11) + 64 * 60 ≤ R.locals; omega⟩) ⟨PP_blind, va_recv hK hW.1 hc hat, PP_of (av := .ref q0 :: As) hW hK⟩ rfl (by rw [List.length_map]; exact hn) hl (by rw [hAs]; exact h0) (lv_room hst) hdg ⟨by omega, by omega⟩) hS (fun q h => h) (fun t H1 locs1 _ _ hW1 hS1 _ _ => kk v σ1 H1 locs1 hq hW1 hS1)
end LawV
theorem fed_eq {t a a' : Int} {w w' : Int32} (h1 : fedTo t w.toInt a) (h2 : fedTo t w'.toInt a') : w = w' ∧ a = a' := by
  unfold fedTo at h1 h2
  have h : w.toInt = w'.toInt ∧ a = a' := by omega
  exact ⟨Int32.toInt_inj.mp h.1, h.2⟩
theorem back_eq {t n a a' : Int} {w w' : Int32} (h1 : backTo t n w.toInt a) (h2 : backTo t n w'.toInt a') : w = w' ∧ a = a' := by
  unfold backTo at h1 h2
  have h : w.toInt = w'.toInt ∧ a = a' := by omega
  exact ⟨Int32.toInt_inj.mp h.1, h.2⟩
set_option maxHeartbeats 4000000 in
set_option maxRecDepth 100000 in
theorem lc_0 {p : Program} {l : Launch} {e : Env} {s : State} {m : MethodId} {below : List Frame} {meth : Method} {c : Code} {θ : Th} {b L i : Nat} {xs : Nat → Int32} {H : Heap} {locs : List Loc} {ls : Array Slot} {σ : Sg} {t : Int} {Q0 : State → Prop} (hx : p.tables.exec = Jvm.exec) (hb : c.code = code) (hml : c.maxLocals = 4) (hown : s.vm.findClass "SignalTableLaw" = some m.cls) (hts : ∀ w ∈ lwg, w.before #[Value.ref b] s = true) (hX : va_X b L xs s s.heap) (hbl : b < s.heap.size) (hL : L ≤ 384) (hK : va_K θ.1 vwCl (tysW θ) s) (hi : i + 6 ≤ L) (hW : Hw θ (fun a : Nat => s.heap.size ≤ a) σ H) (hJ : J7 t σ) (hS : va_S (fun a : Nat => s.heap.size ≤ a) s.heap H locs) (hl : lv_has ls 4 [(3, .int (nI i)), (2, .ref (θ.2.1 97)), (1, .ref (θ.2.1 0)), (0, .ref b)])
    (fin : ∀ (t : Int) (σ : Sg) (H : Heap) (locs : List Loc) (ls : Array Slot), J7 t σ → Hw θ (fun a : Nat => s.heap.size ≤ a) σ H → va_S (fun a : Nat => s.heap.size ≤ a) s.heap H locs → lv_has ls 4 [(3, .int (nI i)), (2, .ref (θ.2.1 97)), (1, .ref (θ.2.1 0)), (0, .ref b)] → W p l e room_1 s m #[Value.ref b] below meth c H locs 158 353581 Q0 (F0 m 1492 ls [])) : W p l e room_1 s m #[Value.ref b] below meth c H locs 158 353581 Q0 (F0 m 224 ls []) := by
  have hbA : ¬ (fun a : Nat => s.heap.size ≤ a) b := Nat.not_le.mpr hbl
  refine lv_aload_n hx hb dL_law_224 rfl (lv_at hl 2 rfl) ?_
  refine lv_aload_n hx hb dL_law_225 rfl (lv_at hl 3 rfl) ?_
  refine lv_iload_n hx hb dL_law_226 rfl (lv_at hl 0 rfl) ?_
  refine lv_iconst (v := 1) hx hb dL_law_227 (by decide) ?_
  refine lv_iadd hx hb dL_law_228 ?_
  refine z_i (v := (nI (i + 1))) (by exact nI_add _ 1) ?_
  refine va_sld hx hb hX hbl hbA hS (vp_in_nI (n := (i + 1)) (N := L) (by omega) (by omega)) dL_law_229 ?_
  refine lv_aload_n hx hb dL_law_230 rfl (lv_at hl 3 rfl) ?_
  refine lv_iload_n hx hb dL_law_231 rfl (lv_at hl 0 rfl) ?_
  refine lv_iconst (v := 2) hx hb dL_law_232 (by decide) ?_
  refine lv_iadd hx hb dL_law_233 ?_
  refine z_i (v := (nI (i + 2))) (by exact nI_add _ 2) ?_
  refine va_sld hx hb hX hbl hbA hS (vp_in_nI (n := (i + 2)) (N := L) (by omega) (by omega)) dL_law_234 ?_
  refine lv_aload_n hx hb dL_law_235 rfl (lv_at hl 3 rfl) ?_
  refine lv_iload_n hx hb dL_law_236 rfl (lv_at hl 0 rfl) ?_
  refine lv_iconst (v := 3) hx hb dL_law_237 (by decide) ?_
  refine lv_iadd hx hb dL_law_238 ?_
  refine z_i (v := (nI (i + 3))) (by exact nI_add _ 3) ?_
  refine va_sld hx hb hX hbl hbA hS (vp_in_nI (n := (i + 3)) (N := L) (by omega) (by omega)) dL_law_239 ?_
  refine lv_aload_n hx hb dL_law_240 rfl (lv_at hl 3 rfl) ?_
  refine lv_iload_n hx hb dL_law_241 rfl (lv_at hl 0 rfl) ?_
  refine lv_iconst (v := 4) hx hb dL_law_242 (by decide) ?_
  refine lv_iadd hx hb dL_law_243 ?_
  refine z_i (v := (nI (i + 4))) (by exact nI_add _ 4) ?_
  refine va_sld hx hb hX hbl hbA hS (vp_in_nI (n := (i + 4)) (N := L) (by omega) (by omega)) dL_law_244 ?_
  refine lv_aload_n hx hb dL_law_245 rfl (lv_at hl 3 rfl) ?_
  refine lv_iload_n hx hb dL_law_246 rfl (lv_at hl 0 rfl) ?_
  refine lv_iconst (v := 5) hx hb dL_law_247 (by decide) ?_
  refine lv_iadd hx hb dL_law_248 ?_
  refine z_i (v := (nI (i + 5))) (by exact nI_add _ 5) ?_
  refine va_sld hx hb hX hbl hbA hS (vp_in_nI (n := (i + 5)) (N := L) (by omega) (by omega)) dL_law_249 ?_
  refine law_V (mj := 121) (n := 5) (q0 := 0) (ci := 11) (As := [.int (xs (nI (i + 1)).toNatClampNeg), .int (xs (nI (i + 2)).toNatClampNeg), .int (xs (nI (i + 3)).toNatClampNeg), .int (xs (nI (i + 4)).toNatClampNeg), .int (xs (nI (i + 5)).toNatClampNeg)]) (rest := []) caV_SignalTableLaw_13 hx hb hml hown hts rfl (k7x_0 hJ) rfl rfl rfl rfl (by decide) hK hW hS hl.1 (Nat.le_of_ble_eq_true rfl) dL_law_250 (by decide) rfl (fun v σ H locs hq hW hS => ?_)
  obtain ⟨w1, rfl, t1, hf1, hJ⟩ := hq
  refine W.eq (g2 := F0 m 253 ls [.int w1]) rfl ?_
  refine lv_pop hx hb dL_law_253 rfl ?_
  refine lv_aload_n hx hb dL_law_254 rfl (lv_at hl 1 rfl) ?_
  refine lv_aload_n hx hb dL_law_255 rfl (lv_at hl 3 rfl) ?_
  refine lv_iload_n hx hb dL_law_256 rfl (lv_at hl 0 rfl) ?_
  refine lv_iconst (v := 1) hx hb dL_law_257 (by decide) ?_
  refine lv_iadd hx hb dL_law_258 ?_
  refine z_i (v := (nI (i + 1))) (by exact nI_add _ 1) ?_
  refine va_sld hx hb hX hbl hbA hS (vp_in_nI (n := (i + 1)) (N := L) (by omega) (by omega)) dL_law_259 ?_
  refine lv_aload_n hx hb dL_law_260 rfl (lv_at hl 3 rfl) ?_
  refine lv_iload_n hx hb dL_law_261 rfl (lv_at hl 0 rfl) ?_
  refine lv_iconst (v := 2) hx hb dL_law_262 (by decide) ?_
  refine lv_iadd hx hb dL_law_263 ?_
  refine z_i (v := (nI (i + 2))) (by exact nI_add _ 2) ?_
  refine va_sld hx hb hX hbl hbA hS (vp_in_nI (n := (i + 2)) (N := L) (by omega) (by omega)) dL_law_264 ?_
  refine lv_aload_n hx hb dL_law_265 rfl (lv_at hl 3 rfl) ?_
  refine lv_iload_n hx hb dL_law_266 rfl (lv_at hl 0 rfl) ?_
  refine lv_iconst (v := 3) hx hb dL_law_267 (by decide) ?_
  refine lv_iadd hx hb dL_law_268 ?_
  refine z_i (v := (nI (i + 3))) (by exact nI_add _ 3) ?_
  refine va_sld hx hb hX hbl hbA hS (vp_in_nI (n := (i + 3)) (N := L) (by omega) (by omega)) dL_law_269 ?_
  refine lv_aload_n hx hb dL_law_270 rfl (lv_at hl 3 rfl) ?_
  refine lv_iload_n hx hb dL_law_271 rfl (lv_at hl 0 rfl) ?_
  refine lv_iconst (v := 4) hx hb dL_law_272 (by decide) ?_
  refine lv_iadd hx hb dL_law_273 ?_
  refine z_i (v := (nI (i + 4))) (by exact nI_add _ 4) ?_
  refine va_sld hx hb hX hbl hbA hS (vp_in_nI (n := (i + 4)) (N := L) (by omega) (by omega)) dL_law_274 ?_
  refine lv_aload_n hx hb dL_law_275 rfl (lv_at hl 3 rfl) ?_
  refine lv_iload_n hx hb dL_law_276 rfl (lv_at hl 0 rfl) ?_
  refine lv_iconst (v := 5) hx hb dL_law_277 (by decide) ?_
  refine lv_iadd hx hb dL_law_278 ?_
  refine z_i (v := (nI (i + 5))) (by exact nI_add _ 5) ?_
  refine va_sld hx hb hX hbl hbA hS (vp_in_nI (n := (i + 5)) (N := L) (by omega) (by omega)) dL_law_279 ?_
  refine law_V (mj := 179) (n := 5) (q0 := 97) (ci := 12) (As := [.int (xs (nI (i + 1)).toNatClampNeg), .int (xs (nI (i + 2)).toNatClampNeg), .int (xs (nI (i + 3)).toNatClampNeg), .int (xs (nI (i + 4)).toNatClampNeg), .int (xs (nI (i + 5)).toNatClampNeg)]) (rest := []) caV_SignalTableLaw_17 hx hb hml hown hts rfl (k7m_0 hJ) rfl rfl rfl rfl (by decide) hK hW hS hl.1 (Nat.le_of_ble_eq_true rfl) dL_law_280 (by decide) rfl (fun v σ H locs hq hW hS => ?_)
  obtain ⟨w2, rfl, t2, hf2, hJ⟩ := hq
  refine W.eq (g2 := F0 m 283 ls [.int w2]) rfl ?_
  obtain ⟨ew, et⟩ := fed_eq hf1 hf2
  subst ew
  subst et
  refine lv_pop hx hb dL_law_283 rfl ?_
  refine lv_goto (tgt := 1492) hx hb dL_law_284 (by decide) ?_
  exact fin _ _ _ _ _ hJ hW hS (lv_sub hl [0, 1, 2, 3] rfl)
set_option maxHeartbeats 4000000 in
set_option maxRecDepth 100000 in
theorem lc_1 {p : Program} {l : Launch} {e : Env} {s : State} {m : MethodId} {below : List Frame} {meth : Method} {c : Code} {θ : Th} {b L i : Nat} {xs : Nat → Int32} {H : Heap} {locs : List Loc} {ls : Array Slot} {σ : Sg} {t : Int} {Q0 : State → Prop} (hx : p.tables.exec = Jvm.exec) (hb : c.code = code) (hml : c.maxLocals = 4) (hown : s.vm.findClass "SignalTableLaw" = some m.cls) (hts : ∀ w ∈ lwg, w.before #[Value.ref b] s = true) (hX : va_X b L xs s s.heap) (hbl : b < s.heap.size) (hL : L ≤ 384) (hK : va_K θ.1 vwCl (tysW θ) s) (hi : i + 6 ≤ L) (hW : Hw θ (fun a : Nat => s.heap.size ≤ a) σ H) (hJ : J7 t σ) (hS : va_S (fun a : Nat => s.heap.size ≤ a) s.heap H locs) (hl : lv_has ls 4 [(3, .int (nI i)), (2, .ref (θ.2.1 97)), (1, .ref (θ.2.1 0)), (0, .ref b)])
    (fin : ∀ (t : Int) (σ : Sg) (H : Heap) (locs : List Loc) (ls : Array Slot), J7 t σ → Hw θ (fun a : Nat => s.heap.size ≤ a) σ H → va_S (fun a : Nat => s.heap.size ≤ a) s.heap H locs → lv_has ls 4 [(3, .int (nI i)), (2, .ref (θ.2.1 97)), (1, .ref (θ.2.1 0)), (0, .ref b)] → W p l e room_1 s m #[Value.ref b] below meth c H locs 158 353581 Q0 (F0 m 1492 ls [])) : W p l e room_1 s m #[Value.ref b] below meth c H locs 158 353581 Q0 (F0 m 287 ls []) := by
  have hbA : ¬ (fun a : Nat => s.heap.size ≤ a) b := Nat.not_le.mpr hbl
  refine lv_aload_n hx hb dL_law_287 rfl (lv_at hl 2 rfl) ?_
  refine lv_aload_n hx hb dL_law_288 rfl (lv_at hl 3 rfl) ?_
  refine lv_iload_n hx hb dL_law_289 rfl (lv_at hl 0 rfl) ?_
  refine lv_iconst (v := 1) hx hb dL_law_290 (by decide) ?_
  refine lv_iadd hx hb dL_law_291 ?_
  refine z_i (v := (nI (i + 1))) (by exact nI_add _ 1) ?_
  refine va_sld hx hb hX hbl hbA hS (vp_in_nI (n := (i + 1)) (N := L) (by omega) (by omega)) dL_law_292 ?_
  refine law_V (mj := 122) (n := 1) (q0 := 0) (ci := 11) (As := [.int (xs (nI (i + 1)).toNatClampNeg)]) (rest := []) caV_SignalTableLaw_18 hx hb hml hown hts rfl (k7x_1 hJ) rfl rfl rfl rfl (by decide) hK hW hS hl.1 (Nat.le_of_ble_eq_true rfl) dL_law_293 (by decide) rfl (fun v σ H locs hq hW hS => ?_)
  obtain ⟨w1, rfl, t1, hf1, hJ⟩ := hq
  refine W.eq (g2 := F0 m 296 ls [.int w1]) rfl ?_
  refine lv_pop hx hb dL_law_296 rfl ?_
  refine lv_aload_n hx hb dL_law_297 rfl (lv_at hl 1 rfl) ?_
  refine lv_aload_n hx hb dL_law_298 rfl (lv_at hl 3 rfl) ?_
  refine lv_iload_n hx hb dL_law_299 rfl (lv_at hl 0 rfl) ?_
  refine lv_iconst (v := 1) hx hb dL_law_300 (by decide) ?_
  refine lv_iadd hx hb dL_law_301 ?_
  refine z_i (v := (nI (i + 1))) (by exact nI_add _ 1) ?_
  refine va_sld hx hb hX hbl hbA hS (vp_in_nI (n := (i + 1)) (N := L) (by omega) (by omega)) dL_law_302 ?_
  refine law_V (mj := 180) (n := 1) (q0 := 97) (ci := 12) (As := [.int (xs (nI (i + 1)).toNatClampNeg)]) (rest := []) caV_SignalTableLaw_22 hx hb hml hown hts rfl (k7m_1 hJ) rfl rfl rfl rfl (by decide) hK hW hS hl.1 (Nat.le_of_ble_eq_true rfl) dL_law_303 (by decide) rfl (fun v σ H locs hq hW hS => ?_)
  obtain ⟨w2, rfl, t2, hf2, hJ⟩ := hq
  refine W.eq (g2 := F0 m 306 ls [.int w2]) rfl ?_
  obtain ⟨ew, et⟩ := back_eq hf1 hf2
  subst ew
  subst et
  refine lv_pop hx hb dL_law_306 rfl ?_
  refine lv_goto (tgt := 1492) hx hb dL_law_307 (by decide) ?_
  exact fin _ _ _ _ _ hJ hW hS (lv_sub hl [0, 1, 2, 3] rfl)
set_option maxHeartbeats 4000000 in
set_option maxRecDepth 100000 in
theorem lc_2 {p : Program} {l : Launch} {e : Env} {s : State} {m : MethodId} {below : List Frame} {meth : Method} {c : Code} {θ : Th} {b L i : Nat} {xs : Nat → Int32} {H : Heap} {locs : List Loc} {ls : Array Slot} {σ : Sg} {t : Int} {Q0 : State → Prop} (hx : p.tables.exec = Jvm.exec) (hb : c.code = code) (hml : c.maxLocals = 4) (hown : s.vm.findClass "SignalTableLaw" = some m.cls) (hts : ∀ w ∈ lwg, w.before #[Value.ref b] s = true) (hX : va_X b L xs s s.heap) (hbl : b < s.heap.size) (hL : L ≤ 384) (hK : va_K θ.1 vwCl (tysW θ) s) (hi : i + 6 ≤ L) (hW : Hw θ (fun a : Nat => s.heap.size ≤ a) σ H) (hJ : J7 t σ) (hS : va_S (fun a : Nat => s.heap.size ≤ a) s.heap H locs) (hl : lv_has ls 4 [(3, .int (nI i)), (2, .ref (θ.2.1 97)), (1, .ref (θ.2.1 0)), (0, .ref b)])
    (fin : ∀ (t : Int) (σ : Sg) (H : Heap) (locs : List Loc) (ls : Array Slot), J7 t σ → Hw θ (fun a : Nat => s.heap.size ≤ a) σ H → va_S (fun a : Nat => s.heap.size ≤ a) s.heap H locs → lv_has ls 4 [(3, .int (nI i)), (2, .ref (θ.2.1 97)), (1, .ref (θ.2.1 0)), (0, .ref b)] → W p l e room_1 s m #[Value.ref b] below meth c H locs 158 353581 Q0 (F0 m 1492 ls [])) : W p l e room_1 s m #[Value.ref b] below meth c H locs 158 353581 Q0 (F0 m 310 ls []) := by
  have hbA : ¬ (fun a : Nat => s.heap.size ≤ a) b := Nat.not_le.mpr hbl
  refine lv_aload_n hx hb dL_law_310 rfl (lv_at hl 2 rfl) ?_
  refine law_V (mj := 124) (n := 0) (q0 := 0) (ci := 11) (As := []) (rest := []) caV_SignalTableLaw_23 hx hb hml hown hts rfl (k7x_2 hJ) rfl rfl rfl rfl (by decide) hK hW hS hl.1 (Nat.le_of_ble_eq_true rfl) dL_law_311 (by decide) rfl (fun v σ H locs hq hW hS => ?_)
  obtain ⟨w1, rfl, hJ⟩ := hq
  refine W.eq (g2 := F0 m 314 ls [.int w1]) rfl ?_
  refine lv_pop hx hb dL_law_314 rfl ?_
  refine lv_aload_n hx hb dL_law_315 rfl (lv_at hl 1 rfl) ?_
  refine law_V (mj := 204) (n := 0) (q0 := 97) (ci := 12) (As := []) (rest := []) caV_SignalTableLaw_27 hx hb hml hown hts rfl (k7m_2 hJ) rfl rfl rfl rfl (by decide) hK hW hS hl.1 (Nat.le_of_ble_eq_true rfl) dL_law_316 (by decide) rfl (fun v σ H locs hq hW hS => ?_)
  obtain ⟨w2, rfl, ew, hJ⟩ := hq
  subst ew
  refine W.eq (g2 := F0 m 319 ls [.int w1]) rfl ?_
  refine lv_pop hx hb dL_law_319 rfl ?_
  refine lv_goto (tgt := 1492) hx hb dL_law_320 (by decide) ?_
  exact fin _ _ _ _ _ hJ hW hS (lv_sub hl [0, 1, 2, 3] rfl)
set_option maxHeartbeats 4000000 in
set_option maxRecDepth 100000 in
theorem lc_3 {p : Program} {l : Launch} {e : Env} {s : State} {m : MethodId} {below : List Frame} {meth : Method} {c : Code} {θ : Th} {b L i : Nat} {xs : Nat → Int32} {H : Heap} {locs : List Loc} {ls : Array Slot} {σ : Sg} {t : Int} {Q0 : State → Prop} (hx : p.tables.exec = Jvm.exec) (hb : c.code = code) (hml : c.maxLocals = 4) (hown : s.vm.findClass "SignalTableLaw" = some m.cls) (hts : ∀ w ∈ lwg, w.before #[Value.ref b] s = true) (hX : va_X b L xs s s.heap) (hbl : b < s.heap.size) (hL : L ≤ 384) (hK : va_K θ.1 vwCl (tysW θ) s) (hi : i + 6 ≤ L) (hW : Hw θ (fun a : Nat => s.heap.size ≤ a) σ H) (hJ : J7 t σ) (hS : va_S (fun a : Nat => s.heap.size ≤ a) s.heap H locs) (hl : lv_has ls 4 [(3, .int (nI i)), (2, .ref (θ.2.1 97)), (1, .ref (θ.2.1 0)), (0, .ref b)])
    (fin : ∀ (t : Int) (σ : Sg) (H : Heap) (locs : List Loc) (ls : Array Slot), J7 t σ → Hw θ (fun a : Nat => s.heap.size ≤ a) σ H → va_S (fun a : Nat => s.heap.size ≤ a) s.heap H locs → lv_has ls 4 [(3, .int (nI i)), (2, .ref (θ.2.1 97)), (1, .ref (θ.2.1 0)), (0, .ref b)] → W p l e room_1 s m #[Value.ref b] below meth c H locs 158 353581 Q0 (F0 m 1492 ls [])) : W p l e room_1 s m #[Value.ref b] below meth c H locs 158 353581 Q0 (F0 m 323 ls []) := by
  have hbA : ¬ (fun a : Nat => s.heap.size ≤ a) b := Nat.not_le.mpr hbl
  refine lv_aload_n hx hb dL_law_323 rfl (lv_at hl 2 rfl) ?_
  refine law_V (mj := 125) (n := 0) (q0 := 0) (ci := 11) (As := []) (rest := []) caV_SignalTableLaw_28 hx hb hml hown hts rfl (k7x_3 hJ) rfl rfl rfl rfl (by decide) hK hW hS hl.1 (Nat.le_of_ble_eq_true rfl) dL_law_324 (by decide) rfl (fun v σ H locs hq hW hS => ?_)
  obtain ⟨w1, rfl, hJ⟩ := hq
  refine W.eq (g2 := F0 m 327 ls [.int w1]) rfl ?_
  refine lv_pop hx hb dL_law_327 rfl ?_
  refine lv_aload_n hx hb dL_law_328 rfl (lv_at hl 1 rfl) ?_
  refine law_V (mj := 205) (n := 0) (q0 := 97) (ci := 12) (As := []) (rest := []) caV_SignalTableLaw_31 hx hb hml hown hts rfl (k7m_3 hJ) rfl rfl rfl rfl (by decide) hK hW hS hl.1 (Nat.le_of_ble_eq_true rfl) dL_law_329 (by decide) rfl (fun v σ H locs hq hW hS => ?_)
  obtain ⟨w2, rfl, ew, hJ⟩ := hq
  subst ew
  refine W.eq (g2 := F0 m 332 ls [.int w1]) rfl ?_
  refine lv_pop hx hb dL_law_332 rfl ?_
  refine lv_goto (tgt := 1492) hx hb dL_law_333 (by decide) ?_
  exact fin _ _ _ _ _ hJ hW hS (lv_sub hl [0, 1, 2, 3] rfl)
set_option maxHeartbeats 4000000 in
set_option maxRecDepth 100000 in
theorem lc_4 {p : Program} {l : Launch} {e : Env} {s : State} {m : MethodId} {below : List Frame} {meth : Method} {c : Code} {θ : Th} {b L i : Nat} {xs : Nat → Int32} {H : Heap} {locs : List Loc} {ls : Array Slot} {σ : Sg} {t : Int} {Q0 : State → Prop} (hx : p.tables.exec = Jvm.exec) (hb : c.code = code) (hml : c.maxLocals = 4) (hown : s.vm.findClass "SignalTableLaw" = some m.cls) (hts : ∀ w ∈ lwg, w.before #[Value.ref b] s = true) (hX : va_X b L xs s s.heap) (hbl : b < s.heap.size) (hL : L ≤ 384) (hK : va_K θ.1 vwCl (tysW θ) s) (hi : i + 6 ≤ L) (hW : Hw θ (fun a : Nat => s.heap.size ≤ a) σ H) (hJ : J7 t σ) (hS : va_S (fun a : Nat => s.heap.size ≤ a) s.heap H locs) (hl : lv_has ls 4 [(3, .int (nI i)), (2, .ref (θ.2.1 97)), (1, .ref (θ.2.1 0)), (0, .ref b)])
    (fin : ∀ (t : Int) (σ : Sg) (H : Heap) (locs : List Loc) (ls : Array Slot), J7 t σ → Hw θ (fun a : Nat => s.heap.size ≤ a) σ H → va_S (fun a : Nat => s.heap.size ≤ a) s.heap H locs → lv_has ls 4 [(3, .int (nI i)), (2, .ref (θ.2.1 97)), (1, .ref (θ.2.1 0)), (0, .ref b)] → W p l e room_1 s m #[Value.ref b] below meth c H locs 158 353581 Q0 (F0 m 1492 ls [])) : W p l e room_1 s m #[Value.ref b] below meth c H locs 158 353581 Q0 (F0 m 336 ls []) := by
  have hbA : ¬ (fun a : Nat => s.heap.size ≤ a) b := Nat.not_le.mpr hbl
  refine lv_aload_n hx hb dL_law_336 rfl (lv_at hl 2 rfl) ?_
  refine lv_aload_n hx hb dL_law_337 rfl (lv_at hl 3 rfl) ?_
  refine lv_iload_n hx hb dL_law_338 rfl (lv_at hl 0 rfl) ?_
  refine lv_iconst (v := 1) hx hb dL_law_339 (by decide) ?_
  refine lv_iadd hx hb dL_law_340 ?_
  refine z_i (v := (nI (i + 1))) (by exact nI_add _ 1) ?_
  refine va_sld hx hb hX hbl hbA hS (vp_in_nI (n := (i + 1)) (N := L) (by omega) (by omega)) dL_law_341 ?_
  refine law_V (mj := 126) (n := 1) (q0 := 0) (ci := 11) (As := [.int (xs (nI (i + 1)).toNatClampNeg)]) (rest := []) caV_SignalTableLaw_32 hx hb hml hown hts rfl (k7x_4 hJ) rfl rfl rfl rfl (by decide) hK hW hS hl.1 (Nat.le_of_ble_eq_true rfl) dL_law_342 (by decide) rfl (fun v σ H locs hq hW hS => ?_)
  obtain ⟨w1, rfl, hJ⟩ := hq
  refine W.eq (g2 := F0 m 345 ls [.int w1]) rfl ?_
  refine lv_pop hx hb dL_law_345 rfl ?_
  refine lv_aload_n hx hb dL_law_346 rfl (lv_at hl 1 rfl) ?_
  refine lv_aload_n hx hb dL_law_347 rfl (lv_at hl 3 rfl) ?_
  refine lv_iload_n hx hb dL_law_348 rfl (lv_at hl 0 rfl) ?_
  refine lv_iconst (v := 1) hx hb dL_law_349 (by decide) ?_
  refine lv_iadd hx hb dL_law_350 ?_
  refine z_i (v := (nI (i + 1))) (by exact nI_add _ 1) ?_
  refine va_sld hx hb hX hbl hbA hS (vp_in_nI (n := (i + 1)) (N := L) (by omega) (by omega)) dL_law_351 ?_
  refine law_V (mj := 222) (n := 1) (q0 := 97) (ci := 12) (As := [.int (xs (nI (i + 1)).toNatClampNeg)]) (rest := []) caV_SignalTableLaw_36 hx hb hml hown hts rfl (k7m_4 hJ) rfl rfl rfl rfl (by decide) hK hW hS hl.1 (Nat.le_of_ble_eq_true rfl) dL_law_352 (by decide) rfl (fun v σ H locs hq hW hS => ?_)
  obtain ⟨w2, rfl, ew, hJ⟩ := hq
  subst ew
  refine W.eq (g2 := F0 m 355 ls [.int w1]) rfl ?_
  refine lv_pop hx hb dL_law_355 rfl ?_
  refine lv_goto (tgt := 1492) hx hb dL_law_356 (by decide) ?_
  exact fin _ _ _ _ _ hJ hW hS (lv_sub hl [0, 1, 2, 3] rfl)
set_option maxHeartbeats 4000000 in
set_option maxRecDepth 100000 in
theorem lc_5 {p : Program} {l : Launch} {e : Env} {s : State} {m : MethodId} {below : List Frame} {meth : Method} {c : Code} {θ : Th} {b L i : Nat} {xs : Nat → Int32} {H : Heap} {locs : List Loc} {ls : Array Slot} {σ : Sg} {t : Int} {Q0 : State → Prop} (hx : p.tables.exec = Jvm.exec) (hb : c.code = code) (hml : c.maxLocals = 4) (hown : s.vm.findClass "SignalTableLaw" = some m.cls) (hts : ∀ w ∈ lwg, w.before #[Value.ref b] s = true) (hX : va_X b L xs s s.heap) (hbl : b < s.heap.size) (hL : L ≤ 384) (hK : va_K θ.1 vwCl (tysW θ) s) (hi : i + 6 ≤ L) (hW : Hw θ (fun a : Nat => s.heap.size ≤ a) σ H) (hJ : J7 t σ) (hS : va_S (fun a : Nat => s.heap.size ≤ a) s.heap H locs) (hl : lv_has ls 4 [(3, .int (nI i)), (2, .ref (θ.2.1 97)), (1, .ref (θ.2.1 0)), (0, .ref b)])
    (fin : ∀ (t : Int) (σ : Sg) (H : Heap) (locs : List Loc) (ls : Array Slot), J7 t σ → Hw θ (fun a : Nat => s.heap.size ≤ a) σ H → va_S (fun a : Nat => s.heap.size ≤ a) s.heap H locs → lv_has ls 4 [(3, .int (nI i)), (2, .ref (θ.2.1 97)), (1, .ref (θ.2.1 0)), (0, .ref b)] → W p l e room_1 s m #[Value.ref b] below meth c H locs 158 353581 Q0 (F0 m 1492 ls [])) : W p l e room_1 s m #[Value.ref b] below meth c H locs 158 353581 Q0 (F0 m 359 ls []) := by
  have hbA : ¬ (fun a : Nat => s.heap.size ≤ a) b := Nat.not_le.mpr hbl
  refine lv_aload_n hx hb dL_law_359 rfl (lv_at hl 2 rfl) ?_
  refine lv_aload_n hx hb dL_law_360 rfl (lv_at hl 3 rfl) ?_
  refine lv_iload_n hx hb dL_law_361 rfl (lv_at hl 0 rfl) ?_
  refine lv_iconst (v := 1) hx hb dL_law_362 (by decide) ?_
  refine lv_iadd hx hb dL_law_363 ?_
  refine z_i (v := (nI (i + 1))) (by exact nI_add _ 1) ?_
  refine va_sld hx hb hX hbl hbA hS (vp_in_nI (n := (i + 1)) (N := L) (by omega) (by omega)) dL_law_364 ?_
  refine lv_aload_n hx hb dL_law_365 rfl (lv_at hl 3 rfl) ?_
  refine lv_iload_n hx hb dL_law_366 rfl (lv_at hl 0 rfl) ?_
  refine lv_iconst (v := 2) hx hb dL_law_367 (by decide) ?_
  refine lv_iadd hx hb dL_law_368 ?_
  refine z_i (v := (nI (i + 2))) (by exact nI_add _ 2) ?_
  refine va_sld hx hb hX hbl hbA hS (vp_in_nI (n := (i + 2)) (N := L) (by omega) (by omega)) dL_law_369 ?_
  refine lv_aload_n hx hb dL_law_370 rfl (lv_at hl 3 rfl) ?_
  refine lv_iload_n hx hb dL_law_371 rfl (lv_at hl 0 rfl) ?_
  refine lv_iconst (v := 3) hx hb dL_law_372 (by decide) ?_
  refine lv_iadd hx hb dL_law_373 ?_
  refine z_i (v := (nI (i + 3))) (by exact nI_add _ 3) ?_
  refine va_sld hx hb hX hbl hbA hS (vp_in_nI (n := (i + 3)) (N := L) (by omega) (by omega)) dL_law_374 ?_
  refine law_V (mj := 128) (n := 3) (q0 := 0) (ci := 11) (As := [.int (xs (nI (i + 1)).toNatClampNeg), .int (xs (nI (i + 2)).toNatClampNeg), .int (xs (nI (i + 3)).toNatClampNeg)]) (rest := []) caV_SignalTableLaw_37 hx hb hml hown hts rfl (k7x_5 hJ) rfl rfl rfl rfl (by decide) hK hW hS hl.1 (Nat.le_of_ble_eq_true rfl) dL_law_375 (by decide) rfl (fun v σ H locs hq hW hS => ?_)
  obtain ⟨w1, rfl, hJ⟩ := hq
  refine W.eq (g2 := F0 m 378 ls [.int w1]) rfl ?_
  refine lv_pop hx hb dL_law_378 rfl ?_
  refine lv_aload_n hx hb dL_law_379 rfl (lv_at hl 1 rfl) ?_
  refine lv_aload_n hx hb dL_law_380 rfl (lv_at hl 3 rfl) ?_
  refine lv_iload_n hx hb dL_law_381 rfl (lv_at hl 0 rfl) ?_
  refine lv_iconst (v := 1) hx hb dL_law_382 (by decide) ?_
  refine lv_iadd hx hb dL_law_383 ?_
  refine z_i (v := (nI (i + 1))) (by exact nI_add _ 1) ?_
  refine va_sld hx hb hX hbl hbA hS (vp_in_nI (n := (i + 1)) (N := L) (by omega) (by omega)) dL_law_384 ?_
  refine lv_aload_n hx hb dL_law_385 rfl (lv_at hl 3 rfl) ?_
  refine lv_iload_n hx hb dL_law_386 rfl (lv_at hl 0 rfl) ?_
  refine lv_iconst (v := 2) hx hb dL_law_387 (by decide) ?_
  refine lv_iadd hx hb dL_law_388 ?_
  refine z_i (v := (nI (i + 2))) (by exact nI_add _ 2) ?_
  refine va_sld hx hb hX hbl hbA hS (vp_in_nI (n := (i + 2)) (N := L) (by omega) (by omega)) dL_law_389 ?_
  refine lv_aload_n hx hb dL_law_390 rfl (lv_at hl 3 rfl) ?_
  refine lv_iload_n hx hb dL_law_391 rfl (lv_at hl 0 rfl) ?_
  refine lv_iconst (v := 3) hx hb dL_law_392 (by decide) ?_
  refine lv_iadd hx hb dL_law_393 ?_
  refine z_i (v := (nI (i + 3))) (by exact nI_add _ 3) ?_
  refine va_sld hx hb hX hbl hbA hS (vp_in_nI (n := (i + 3)) (N := L) (by omega) (by omega)) dL_law_394 ?_
  refine law_V (mj := 223) (n := 3) (q0 := 97) (ci := 12) (As := [.int (xs (nI (i + 1)).toNatClampNeg), .int (xs (nI (i + 2)).toNatClampNeg), .int (xs (nI (i + 3)).toNatClampNeg)]) (rest := []) caV_SignalTableLaw_41 hx hb hml hown hts rfl (k7m_5 hJ) rfl rfl rfl rfl (by decide) hK hW hS hl.1 (Nat.le_of_ble_eq_true rfl) dL_law_395 (by decide) rfl (fun v σ H locs hq hW hS => ?_)
  obtain ⟨w2, rfl, ew, hJ⟩ := hq
  subst ew
  refine W.eq (g2 := F0 m 398 ls [.int w1]) rfl ?_
  refine lv_pop hx hb dL_law_398 rfl ?_
  refine lv_goto (tgt := 1492) hx hb dL_law_399 (by decide) ?_
  exact fin _ _ _ _ _ hJ hW hS (lv_sub hl [0, 1, 2, 3] rfl)
set_option maxHeartbeats 4000000 in
set_option maxRecDepth 100000 in
theorem lc_6 {p : Program} {l : Launch} {e : Env} {s : State} {m : MethodId} {below : List Frame} {meth : Method} {c : Code} {θ : Th} {b L i : Nat} {xs : Nat → Int32} {H : Heap} {locs : List Loc} {ls : Array Slot} {σ : Sg} {t : Int} {Q0 : State → Prop} (hx : p.tables.exec = Jvm.exec) (hb : c.code = code) (hml : c.maxLocals = 4) (hown : s.vm.findClass "SignalTableLaw" = some m.cls) (hts : ∀ w ∈ lwg, w.before #[Value.ref b] s = true) (hX : va_X b L xs s s.heap) (hbl : b < s.heap.size) (hL : L ≤ 384) (hK : va_K θ.1 vwCl (tysW θ) s) (hi : i + 6 ≤ L) (hW : Hw θ (fun a : Nat => s.heap.size ≤ a) σ H) (hJ : J7 t σ) (hS : va_S (fun a : Nat => s.heap.size ≤ a) s.heap H locs) (hl : lv_has ls 4 [(3, .int (nI i)), (2, .ref (θ.2.1 97)), (1, .ref (θ.2.1 0)), (0, .ref b)])
    (fin : ∀ (t : Int) (σ : Sg) (H : Heap) (locs : List Loc) (ls : Array Slot), J7 t σ → Hw θ (fun a : Nat => s.heap.size ≤ a) σ H → va_S (fun a : Nat => s.heap.size ≤ a) s.heap H locs → lv_has ls 4 [(3, .int (nI i)), (2, .ref (θ.2.1 97)), (1, .ref (θ.2.1 0)), (0, .ref b)] → W p l e room_1 s m #[Value.ref b] below meth c H locs 158 353581 Q0 (F0 m 1492 ls [])) : W p l e room_1 s m #[Value.ref b] below meth c H locs 158 353581 Q0 (F0 m 402 ls []) := by
  have hbA : ¬ (fun a : Nat => s.heap.size ≤ a) b := Nat.not_le.mpr hbl
  refine lv_aload_n hx hb dL_law_402 rfl (lv_at hl 2 rfl) ?_
  refine lv_aload_n hx hb dL_law_403 rfl (lv_at hl 3 rfl) ?_
  refine lv_iload_n hx hb dL_law_404 rfl (lv_at hl 0 rfl) ?_
  refine lv_iconst (v := 1) hx hb dL_law_405 (by decide) ?_
  refine lv_iadd hx hb dL_law_406 ?_
  refine z_i (v := (nI (i + 1))) (by exact nI_add _ 1) ?_
  refine va_sld hx hb hX hbl hbA hS (vp_in_nI (n := (i + 1)) (N := L) (by omega) (by omega)) dL_law_407 ?_
  refine law_V (mj := 130) (n := 1) (q0 := 0) (ci := 11) (As := [.int (xs (nI (i + 1)).toNatClampNeg)]) (rest := []) caV_SignalTableLaw_42 hx hb hml hown hts rfl (k7x_6 hJ) rfl rfl rfl rfl (by decide) hK hW hS hl.1 (Nat.le_of_ble_eq_true rfl) dL_law_408 (by decide) rfl (fun v σ H locs hq hW hS => ?_)
  obtain ⟨w1, rfl, hJ⟩ := hq
  refine W.eq (g2 := F0 m 411 ls [.int w1]) rfl ?_
  refine lv_pop hx hb dL_law_411 rfl ?_
  refine lv_aload_n hx hb dL_law_412 rfl (lv_at hl 1 rfl) ?_
  refine lv_aload_n hx hb dL_law_413 rfl (lv_at hl 3 rfl) ?_
  refine lv_iload_n hx hb dL_law_414 rfl (lv_at hl 0 rfl) ?_
  refine lv_iconst (v := 1) hx hb dL_law_415 (by decide) ?_
  refine lv_iadd hx hb dL_law_416 ?_
  refine z_i (v := (nI (i + 1))) (by exact nI_add _ 1) ?_
  refine va_sld hx hb hX hbl hbA hS (vp_in_nI (n := (i + 1)) (N := L) (by omega) (by omega)) dL_law_417 ?_
  refine law_V (mj := 224) (n := 1) (q0 := 97) (ci := 12) (As := [.int (xs (nI (i + 1)).toNatClampNeg)]) (rest := []) caV_SignalTableLaw_45 hx hb hml hown hts rfl (k7m_6 hJ) rfl rfl rfl rfl (by decide) hK hW hS hl.1 (Nat.le_of_ble_eq_true rfl) dL_law_418 (by decide) rfl (fun v σ H locs hq hW hS => ?_)
  obtain ⟨w2, rfl, ew, hJ⟩ := hq
  subst ew
  refine W.eq (g2 := F0 m 421 ls [.int w1]) rfl ?_
  refine lv_pop hx hb dL_law_421 rfl ?_
  refine lv_goto (tgt := 1492) hx hb dL_law_422 (by decide) ?_
  exact fin _ _ _ _ _ hJ hW hS (lv_sub hl [0, 1, 2, 3] rfl)
set_option maxHeartbeats 4000000 in
set_option maxRecDepth 100000 in
theorem lc_7 {p : Program} {l : Launch} {e : Env} {s : State} {m : MethodId} {below : List Frame} {meth : Method} {c : Code} {θ : Th} {b L i : Nat} {xs : Nat → Int32} {H : Heap} {locs : List Loc} {ls : Array Slot} {σ : Sg} {t : Int} {Q0 : State → Prop} (hx : p.tables.exec = Jvm.exec) (hb : c.code = code) (hml : c.maxLocals = 4) (hown : s.vm.findClass "SignalTableLaw" = some m.cls) (hts : ∀ w ∈ lwg, w.before #[Value.ref b] s = true) (hX : va_X b L xs s s.heap) (hbl : b < s.heap.size) (hL : L ≤ 384) (hK : va_K θ.1 vwCl (tysW θ) s) (hi : i + 6 ≤ L) (hW : Hw θ (fun a : Nat => s.heap.size ≤ a) σ H) (hJ : J7 t σ) (hS : va_S (fun a : Nat => s.heap.size ≤ a) s.heap H locs) (hl : lv_has ls 4 [(3, .int (nI i)), (2, .ref (θ.2.1 97)), (1, .ref (θ.2.1 0)), (0, .ref b)])
    (fin : ∀ (t : Int) (σ : Sg) (H : Heap) (locs : List Loc) (ls : Array Slot), J7 t σ → Hw θ (fun a : Nat => s.heap.size ≤ a) σ H → va_S (fun a : Nat => s.heap.size ≤ a) s.heap H locs → lv_has ls 4 [(3, .int (nI i)), (2, .ref (θ.2.1 97)), (1, .ref (θ.2.1 0)), (0, .ref b)] → W p l e room_1 s m #[Value.ref b] below meth c H locs 158 353581 Q0 (F0 m 1492 ls [])) : W p l e room_1 s m #[Value.ref b] below meth c H locs 158 353581 Q0 (F0 m 425 ls []) := by
  have hbA : ¬ (fun a : Nat => s.heap.size ≤ a) b := Nat.not_le.mpr hbl
  refine lv_aload_n hx hb dL_law_425 rfl (lv_at hl 2 rfl) ?_
  refine lv_aload_n hx hb dL_law_426 rfl (lv_at hl 3 rfl) ?_
  refine lv_iload_n hx hb dL_law_427 rfl (lv_at hl 0 rfl) ?_
  refine lv_iconst (v := 1) hx hb dL_law_428 (by decide) ?_
  refine lv_iadd hx hb dL_law_429 ?_
  refine z_i (v := (nI (i + 1))) (by exact nI_add _ 1) ?_
  refine va_sld hx hb hX hbl hbA hS (vp_in_nI (n := (i + 1)) (N := L) (by omega) (by omega)) dL_law_430 ?_
  refine lv_aload_n hx hb dL_law_431 rfl (lv_at hl 3 rfl) ?_
  refine lv_iload_n hx hb dL_law_432 rfl (lv_at hl 0 rfl) ?_
  refine lv_iconst (v := 2) hx hb dL_law_433 (by decide) ?_
  refine lv_iadd hx hb dL_law_434 ?_
  refine z_i (v := (nI (i + 2))) (by exact nI_add _ 2) ?_
  refine va_sld hx hb hX hbl hbA hS (vp_in_nI (n := (i + 2)) (N := L) (by omega) (by omega)) dL_law_435 ?_
  refine lv_if_eq (tgt := 443) hx hb dL_law_436 (by decide) (fun hz => ?_) (fun hz => ?_)
  · skip
    refine lv_iconst (v := 0) hx hb dL_law_443 (by decide) ?_
    refine law_V (mj := 131) (n := 2) (q0 := 0) (ci := 11) (As := [.int (xs (nI (i + 1)).toNatClampNeg), .int 0]) (rest := []) caV_SignalTableLaw_46 hx hb hml hown hts rfl (k7x_7 (by decide) hJ) rfl rfl rfl rfl (by decide) hK hW hS hl.1 (Nat.le_of_ble_eq_true rfl) dL_law_444 (by decide) rfl (fun v σ H locs hq hW hS => ?_)
    obtain ⟨w1, rfl, hJ⟩ := hq
    refine W.eq (g2 := F0 m 447 ls [.int w1]) rfl ?_
    refine lv_pop hx hb dL_law_447 rfl ?_
    refine lv_aload_n hx hb dL_law_448 rfl (lv_at hl 1 rfl) ?_
    refine lv_aload_n hx hb dL_law_449 rfl (lv_at hl 3 rfl) ?_
    refine lv_iload_n hx hb dL_law_450 rfl (lv_at hl 0 rfl) ?_
    refine lv_iconst (v := 1) hx hb dL_law_451 (by decide) ?_
    refine lv_iadd hx hb dL_law_452 ?_
    refine z_i (v := (nI (i + 1))) (by exact nI_add _ 1) ?_
    refine va_sld hx hb hX hbl hbA hS (vp_in_nI (n := (i + 1)) (N := L) (by omega) (by omega)) dL_law_453 ?_
    refine lv_aload_n hx hb dL_law_454 rfl (lv_at hl 3 rfl) ?_
    refine lv_iload_n hx hb dL_law_455 rfl (lv_at hl 0 rfl) ?_
    refine lv_iconst (v := 2) hx hb dL_law_456 (by decide) ?_
    refine lv_iadd hx hb dL_law_457 ?_
    refine z_i (v := (nI (i + 2))) (by exact nI_add _ 2) ?_
    refine va_sld hx hb hX hbl hbA hS (vp_in_nI (n := (i + 2)) (N := L) (by omega) (by omega)) dL_law_458 ?_
    refine lv_if_eq (tgt := 466) hx hb dL_law_459 (by decide) (fun hy => ?_) (fun hy => ?_)
    · skip
      refine lv_iconst (v := 0) hx hb dL_law_466 (by decide) ?_
      refine law_V (mj := 227) (n := 2) (q0 := 97) (ci := 12) (As := [.int (xs (nI (i + 1)).toNatClampNeg), .int 0]) (rest := []) caV_SignalTableLaw_50 hx hb hml hown hts rfl (k7m_7 hJ) rfl rfl rfl rfl (by decide) hK hW hS hl.1 (Nat.le_of_ble_eq_true rfl) dL_law_467 (by decide) rfl (fun v σ H locs hq hW hS => ?_)
      obtain ⟨w2, rfl, ew, hJ⟩ := hq
      subst ew
      refine W.eq (g2 := F0 m 470 ls [.int w1]) rfl ?_
      refine lv_pop hx hb dL_law_470 rfl ?_
      refine lv_goto (tgt := 1492) hx hb dL_law_471 (by decide) ?_
      exact fin _ _ _ _ _ hJ hW hS (lv_sub hl [0, 1, 2, 3] rfl)
    · exact absurd hz hy
  · skip
    refine lv_iconst (v := 1) hx hb dL_law_439 (by decide) ?_
    refine lv_goto (tgt := 444) hx hb dL_law_440 (by decide) ?_
    refine law_V (mj := 131) (n := 2) (q0 := 0) (ci := 11) (As := [.int (xs (nI (i + 1)).toNatClampNeg), .int 1]) (rest := []) caV_SignalTableLaw_46 hx hb hml hown hts rfl (k7x_7 (by decide) hJ) rfl rfl rfl rfl (by decide) hK hW hS hl.1 (Nat.le_of_ble_eq_true rfl) dL_law_444 (by decide) rfl (fun v σ H locs hq hW hS => ?_)
    obtain ⟨w1, rfl, hJ⟩ := hq
    refine W.eq (g2 := F0 m 447 ls [.int w1]) rfl ?_
    refine lv_pop hx hb dL_law_447 rfl ?_
    refine lv_aload_n hx hb dL_law_448 rfl (lv_at hl 1 rfl) ?_
    refine lv_aload_n hx hb dL_law_449 rfl (lv_at hl 3 rfl) ?_
    refine lv_iload_n hx hb dL_law_450 rfl (lv_at hl 0 rfl) ?_
    refine lv_iconst (v := 1) hx hb dL_law_451 (by decide) ?_
    refine lv_iadd hx hb dL_law_452 ?_
    refine z_i (v := (nI (i + 1))) (by exact nI_add _ 1) ?_
    refine va_sld hx hb hX hbl hbA hS (vp_in_nI (n := (i + 1)) (N := L) (by omega) (by omega)) dL_law_453 ?_
    refine lv_aload_n hx hb dL_law_454 rfl (lv_at hl 3 rfl) ?_
    refine lv_iload_n hx hb dL_law_455 rfl (lv_at hl 0 rfl) ?_
    refine lv_iconst (v := 2) hx hb dL_law_456 (by decide) ?_
    refine lv_iadd hx hb dL_law_457 ?_
    refine z_i (v := (nI (i + 2))) (by exact nI_add _ 2) ?_
    refine va_sld hx hb hX hbl hbA hS (vp_in_nI (n := (i + 2)) (N := L) (by omega) (by omega)) dL_law_458 ?_
    refine lv_if_eq (tgt := 466) hx hb dL_law_459 (by decide) (fun hy => ?_) (fun hy => ?_)
    · exact absurd hy hz
    · skip
      refine lv_iconst (v := 1) hx hb dL_law_462 (by decide) ?_
      refine lv_goto (tgt := 467) hx hb dL_law_463 (by decide) ?_
      refine law_V (mj := 227) (n := 2) (q0 := 97) (ci := 12) (As := [.int (xs (nI (i + 1)).toNatClampNeg), .int 1]) (rest := []) caV_SignalTableLaw_50 hx hb hml hown hts rfl (k7m_7 hJ) rfl rfl rfl rfl (by decide) hK hW hS hl.1 (Nat.le_of_ble_eq_true rfl) dL_law_467 (by decide) rfl (fun v σ H locs hq hW hS => ?_)
      obtain ⟨w2, rfl, ew, hJ⟩ := hq
      subst ew
      refine W.eq (g2 := F0 m 470 ls [.int w1]) rfl ?_
      refine lv_pop hx hb dL_law_470 rfl ?_
      refine lv_goto (tgt := 1492) hx hb dL_law_471 (by decide) ?_
      exact fin _ _ _ _ _ hJ hW hS (lv_sub hl [0, 1, 2, 3] rfl)
set_option maxHeartbeats 4000000 in
set_option maxRecDepth 100000 in
theorem lc_8 {p : Program} {l : Launch} {e : Env} {s : State} {m : MethodId} {below : List Frame} {meth : Method} {c : Code} {θ : Th} {b L i : Nat} {xs : Nat → Int32} {H : Heap} {locs : List Loc} {ls : Array Slot} {σ : Sg} {t : Int} {Q0 : State → Prop} (hx : p.tables.exec = Jvm.exec) (hb : c.code = code) (hml : c.maxLocals = 4) (hown : s.vm.findClass "SignalTableLaw" = some m.cls) (hts : ∀ w ∈ lwg, w.before #[Value.ref b] s = true) (hX : va_X b L xs s s.heap) (hbl : b < s.heap.size) (hL : L ≤ 384) (hK : va_K θ.1 vwCl (tysW θ) s) (hi : i + 6 ≤ L) (hW : Hw θ (fun a : Nat => s.heap.size ≤ a) σ H) (hJ : J7 t σ) (hS : va_S (fun a : Nat => s.heap.size ≤ a) s.heap H locs) (hl : lv_has ls 4 [(3, .int (nI i)), (2, .ref (θ.2.1 97)), (1, .ref (θ.2.1 0)), (0, .ref b)])
    (fin : ∀ (t : Int) (σ : Sg) (H : Heap) (locs : List Loc) (ls : Array Slot), J7 t σ → Hw θ (fun a : Nat => s.heap.size ≤ a) σ H → va_S (fun a : Nat => s.heap.size ≤ a) s.heap H locs → lv_has ls 4 [(3, .int (nI i)), (2, .ref (θ.2.1 97)), (1, .ref (θ.2.1 0)), (0, .ref b)] → W p l e room_1 s m #[Value.ref b] below meth c H locs 158 353581 Q0 (F0 m 1492 ls [])) : W p l e room_1 s m #[Value.ref b] below meth c H locs 158 353581 Q0 (F0 m 474 ls []) := by
  have hbA : ¬ (fun a : Nat => s.heap.size ≤ a) b := Nat.not_le.mpr hbl
  refine lv_aload_n hx hb dL_law_474 rfl (lv_at hl 2 rfl) ?_
  refine law_V (mj := 132) (n := 0) (q0 := 0) (ci := 11) (As := []) (rest := []) caV_SignalTableLaw_51 hx hb hml hown hts rfl (k7x_8 hJ) rfl rfl rfl rfl (by decide) hK hW hS hl.1 (Nat.le_of_ble_eq_true rfl) dL_law_475 (by decide) rfl (fun v σ H locs hq hW hS => ?_)
  obtain ⟨w1, rfl, hJ⟩ := hq
  refine W.eq (g2 := F0 m 478 ls [.int w1]) rfl ?_
  refine lv_pop hx hb dL_law_478 rfl ?_
  refine lv_aload_n hx hb dL_law_479 rfl (lv_at hl 1 rfl) ?_
  refine law_V (mj := 231) (n := 0) (q0 := 97) (ci := 12) (As := []) (rest := []) caV_SignalTableLaw_54 hx hb hml hown hts rfl (k7m_8 hJ) rfl rfl rfl rfl (by decide) hK hW hS hl.1 (Nat.le_of_ble_eq_true rfl) dL_law_480 (by decide) rfl (fun v σ H locs hq hW hS => ?_)
  obtain ⟨w2, rfl, ew, hJ⟩ := hq
  subst ew
  refine W.eq (g2 := F0 m 483 ls [.int w1]) rfl ?_
  refine lv_pop hx hb dL_law_483 rfl ?_
  refine lv_goto (tgt := 1492) hx hb dL_law_484 (by decide) ?_
  exact fin _ _ _ _ _ hJ hW hS (lv_sub hl [0, 1, 2, 3] rfl)
set_option maxHeartbeats 4000000 in
set_option maxRecDepth 100000 in
theorem lc_9 {p : Program} {l : Launch} {e : Env} {s : State} {m : MethodId} {below : List Frame} {meth : Method} {c : Code} {θ : Th} {b L i : Nat} {xs : Nat → Int32} {H : Heap} {locs : List Loc} {ls : Array Slot} {σ : Sg} {t : Int} {Q0 : State → Prop} (hx : p.tables.exec = Jvm.exec) (hb : c.code = code) (hml : c.maxLocals = 4) (hown : s.vm.findClass "SignalTableLaw" = some m.cls) (hts : ∀ w ∈ lwg, w.before #[Value.ref b] s = true) (hX : va_X b L xs s s.heap) (hbl : b < s.heap.size) (hL : L ≤ 384) (hK : va_K θ.1 vwCl (tysW θ) s) (hi : i + 6 ≤ L) (hW : Hw θ (fun a : Nat => s.heap.size ≤ a) σ H) (hJ : J7 t σ) (hS : va_S (fun a : Nat => s.heap.size ≤ a) s.heap H locs) (hl : lv_has ls 4 [(3, .int (nI i)), (2, .ref (θ.2.1 97)), (1, .ref (θ.2.1 0)), (0, .ref b)])
    (fin : ∀ (t : Int) (σ : Sg) (H : Heap) (locs : List Loc) (ls : Array Slot), J7 t σ → Hw θ (fun a : Nat => s.heap.size ≤ a) σ H → va_S (fun a : Nat => s.heap.size ≤ a) s.heap H locs → lv_has ls 4 [(3, .int (nI i)), (2, .ref (θ.2.1 97)), (1, .ref (θ.2.1 0)), (0, .ref b)] → W p l e room_1 s m #[Value.ref b] below meth c H locs 158 353581 Q0 (F0 m 1492 ls [])) : W p l e room_1 s m #[Value.ref b] below meth c H locs 158 353581 Q0 (F0 m 487 ls []) := by
  have hbA : ¬ (fun a : Nat => s.heap.size ≤ a) b := Nat.not_le.mpr hbl
  refine lv_aload_n hx hb dL_law_487 rfl (lv_at hl 2 rfl) ?_
  refine law_V (mj := 133) (n := 0) (q0 := 0) (ci := 11) (As := []) (rest := []) caV_SignalTableLaw_55 hx hb hml hown hts rfl (k7x_9 hJ) rfl rfl rfl rfl (by decide) hK hW hS hl.1 (Nat.le_of_ble_eq_true rfl) dL_law_488 (by decide) rfl (fun v σ H locs hq hW hS => ?_)
  obtain ⟨w1, rfl, hJ⟩ := hq
  refine W.eq (g2 := F0 m 491 ls [.int w1]) rfl ?_
  refine lv_pop hx hb dL_law_491 rfl ?_
  refine lv_aload_n hx hb dL_law_492 rfl (lv_at hl 1 rfl) ?_
  refine law_V (mj := 234) (n := 0) (q0 := 97) (ci := 12) (As := []) (rest := []) caV_SignalTableLaw_58 hx hb hml hown hts rfl (k7m_9 hJ) rfl rfl rfl rfl (by decide) hK hW hS hl.1 (Nat.le_of_ble_eq_true rfl) dL_law_493 (by decide) rfl (fun v σ H locs hq hW hS => ?_)
  obtain ⟨w2, rfl, ew, hJ⟩ := hq
  subst ew
  refine W.eq (g2 := F0 m 496 ls [.int w1]) rfl ?_
  refine lv_pop hx hb dL_law_496 rfl ?_
  refine lv_goto (tgt := 1492) hx hb dL_law_497 (by decide) ?_
  exact fin _ _ _ _ _ hJ hW hS (lv_sub hl [0, 1, 2, 3] rfl)
set_option maxHeartbeats 4000000 in
set_option maxRecDepth 100000 in
theorem lc_10 {p : Program} {l : Launch} {e : Env} {s : State} {m : MethodId} {below : List Frame} {meth : Method} {c : Code} {θ : Th} {b L i : Nat} {xs : Nat → Int32} {H : Heap} {locs : List Loc} {ls : Array Slot} {σ : Sg} {t : Int} {Q0 : State → Prop} (hx : p.tables.exec = Jvm.exec) (hb : c.code = code) (hml : c.maxLocals = 4) (hown : s.vm.findClass "SignalTableLaw" = some m.cls) (hts : ∀ w ∈ lwg, w.before #[Value.ref b] s = true) (hX : va_X b L xs s s.heap) (hbl : b < s.heap.size) (hL : L ≤ 384) (hK : va_K θ.1 vwCl (tysW θ) s) (hi : i + 6 ≤ L) (hW : Hw θ (fun a : Nat => s.heap.size ≤ a) σ H) (hJ : J7 t σ) (hS : va_S (fun a : Nat => s.heap.size ≤ a) s.heap H locs) (hl : lv_has ls 4 [(3, .int (nI i)), (2, .ref (θ.2.1 97)), (1, .ref (θ.2.1 0)), (0, .ref b)])
    (fin : ∀ (t : Int) (σ : Sg) (H : Heap) (locs : List Loc) (ls : Array Slot), J7 t σ → Hw θ (fun a : Nat => s.heap.size ≤ a) σ H → va_S (fun a : Nat => s.heap.size ≤ a) s.heap H locs → lv_has ls 4 [(3, .int (nI i)), (2, .ref (θ.2.1 97)), (1, .ref (θ.2.1 0)), (0, .ref b)] → W p l e room_1 s m #[Value.ref b] below meth c H locs 158 353581 Q0 (F0 m 1492 ls [])) : W p l e room_1 s m #[Value.ref b] below meth c H locs 158 353581 Q0 (F0 m 500 ls []) := by
  have hbA : ¬ (fun a : Nat => s.heap.size ≤ a) b := Nat.not_le.mpr hbl
  refine lv_aload_n hx hb dL_law_500 rfl (lv_at hl 2 rfl) ?_
  refine lv_aload_n hx hb dL_law_501 rfl (lv_at hl 3 rfl) ?_
  refine lv_iload_n hx hb dL_law_502 rfl (lv_at hl 0 rfl) ?_
  refine lv_iconst (v := 1) hx hb dL_law_503 (by decide) ?_
  refine lv_iadd hx hb dL_law_504 ?_
  refine z_i (v := (nI (i + 1))) (by exact nI_add _ 1) ?_
  refine va_sld hx hb hX hbl hbA hS (vp_in_nI (n := (i + 1)) (N := L) (by omega) (by omega)) dL_law_505 ?_
  refine law_V (mj := 136) (n := 1) (q0 := 0) (ci := 11) (As := [.int (xs (nI (i + 1)).toNatClampNeg)]) (rest := []) caV_SignalTableLaw_59 hx hb hml hown hts rfl (k7x_10 hJ) rfl rfl rfl rfl (by decide) hK hW hS hl.1 (Nat.le_of_ble_eq_true rfl) dL_law_506 (by decide) rfl (fun v σ H locs hq hW hS => ?_)
  obtain ⟨w1, rfl, hJ⟩ := hq
  refine W.eq (g2 := F0 m 509 ls [.int w1]) rfl ?_
  refine lv_pop hx hb dL_law_509 rfl ?_
  refine lv_aload_n hx hb dL_law_510 rfl (lv_at hl 1 rfl) ?_
  refine lv_aload_n hx hb dL_law_511 rfl (lv_at hl 3 rfl) ?_
  refine lv_iload_n hx hb dL_law_512 rfl (lv_at hl 0 rfl) ?_
  refine lv_iconst (v := 1) hx hb dL_law_513 (by decide) ?_
  refine lv_iadd hx hb dL_law_514 ?_
  refine z_i (v := (nI (i + 1))) (by exact nI_add _ 1) ?_
  refine va_sld hx hb hX hbl hbA hS (vp_in_nI (n := (i + 1)) (N := L) (by omega) (by omega)) dL_law_515 ?_
  refine law_V (mj := 237) (n := 1) (q0 := 97) (ci := 12) (As := [.int (xs (nI (i + 1)).toNatClampNeg)]) (rest := []) caV_SignalTableLaw_62 hx hb hml hown hts rfl (k7m_10 hJ) rfl rfl rfl rfl (by decide) hK hW hS hl.1 (Nat.le_of_ble_eq_true rfl) dL_law_516 (by decide) rfl (fun v σ H locs hq hW hS => ?_)
  obtain ⟨w2, rfl, ew, hJ⟩ := hq
  subst ew
  refine W.eq (g2 := F0 m 519 ls [.int w1]) rfl ?_
  refine lv_pop hx hb dL_law_519 rfl ?_
  refine lv_goto (tgt := 1492) hx hb dL_law_520 (by decide) ?_
  exact fin _ _ _ _ _ hJ hW hS (lv_sub hl [0, 1, 2, 3] rfl)
set_option maxHeartbeats 4000000 in
set_option maxRecDepth 100000 in
theorem lc_11 {p : Program} {l : Launch} {e : Env} {s : State} {m : MethodId} {below : List Frame} {meth : Method} {c : Code} {θ : Th} {b L i : Nat} {xs : Nat → Int32} {H : Heap} {locs : List Loc} {ls : Array Slot} {σ : Sg} {t : Int} {Q0 : State → Prop} (hx : p.tables.exec = Jvm.exec) (hb : c.code = code) (hml : c.maxLocals = 4) (hown : s.vm.findClass "SignalTableLaw" = some m.cls) (hts : ∀ w ∈ lwg, w.before #[Value.ref b] s = true) (hX : va_X b L xs s s.heap) (hbl : b < s.heap.size) (hL : L ≤ 384) (hK : va_K θ.1 vwCl (tysW θ) s) (hi : i + 6 ≤ L) (hW : Hw θ (fun a : Nat => s.heap.size ≤ a) σ H) (hJ : J7 t σ) (hS : va_S (fun a : Nat => s.heap.size ≤ a) s.heap H locs) (hl : lv_has ls 4 [(3, .int (nI i)), (2, .ref (θ.2.1 97)), (1, .ref (θ.2.1 0)), (0, .ref b)])
    (fin : ∀ (t : Int) (σ : Sg) (H : Heap) (locs : List Loc) (ls : Array Slot), J7 t σ → Hw θ (fun a : Nat => s.heap.size ≤ a) σ H → va_S (fun a : Nat => s.heap.size ≤ a) s.heap H locs → lv_has ls 4 [(3, .int (nI i)), (2, .ref (θ.2.1 97)), (1, .ref (θ.2.1 0)), (0, .ref b)] → W p l e room_1 s m #[Value.ref b] below meth c H locs 158 353581 Q0 (F0 m 1492 ls [])) : W p l e room_1 s m #[Value.ref b] below meth c H locs 158 353581 Q0 (F0 m 523 ls []) := by
  have hbA : ¬ (fun a : Nat => s.heap.size ≤ a) b := Nat.not_le.mpr hbl
  refine lv_aload_n hx hb dL_law_523 rfl (lv_at hl 2 rfl) ?_
  refine lv_aload_n hx hb dL_law_524 rfl (lv_at hl 3 rfl) ?_
  refine lv_iload_n hx hb dL_law_525 rfl (lv_at hl 0 rfl) ?_
  refine lv_iconst (v := 1) hx hb dL_law_526 (by decide) ?_
  refine lv_iadd hx hb dL_law_527 ?_
  refine z_i (v := (nI (i + 1))) (by exact nI_add _ 1) ?_
  refine va_sld hx hb hX hbl hbA hS (vp_in_nI (n := (i + 1)) (N := L) (by omega) (by omega)) dL_law_528 ?_
  refine law_V (mj := 137) (n := 1) (q0 := 0) (ci := 11) (As := [.int (xs (nI (i + 1)).toNatClampNeg)]) (rest := []) caV_SignalTableLaw_63 hx hb hml hown hts rfl (k7x_11 hJ) rfl rfl rfl rfl (by decide) hK hW hS hl.1 (Nat.le_of_ble_eq_true rfl) dL_law_529 (by decide) rfl (fun v σ H locs hq hW hS => ?_)
  obtain ⟨w1, rfl, hJ⟩ := hq
  refine W.eq (g2 := F0 m 532 ls [.int w1]) rfl ?_
  refine lv_pop hx hb dL_law_532 rfl ?_
  refine lv_aload_n hx hb dL_law_533 rfl (lv_at hl 1 rfl) ?_
  refine lv_aload_n hx hb dL_law_534 rfl (lv_at hl 3 rfl) ?_
  refine lv_iload_n hx hb dL_law_535 rfl (lv_at hl 0 rfl) ?_
  refine lv_iconst (v := 1) hx hb dL_law_536 (by decide) ?_
  refine lv_iadd hx hb dL_law_537 ?_
  refine z_i (v := (nI (i + 1))) (by exact nI_add _ 1) ?_
  refine va_sld hx hb hX hbl hbA hS (vp_in_nI (n := (i + 1)) (N := L) (by omega) (by omega)) dL_law_538 ?_
  refine law_V (mj := 238) (n := 1) (q0 := 97) (ci := 12) (As := [.int (xs (nI (i + 1)).toNatClampNeg)]) (rest := []) caV_SignalTableLaw_66 hx hb hml hown hts rfl (k7m_11 hJ) rfl rfl rfl rfl (by decide) hK hW hS hl.1 (Nat.le_of_ble_eq_true rfl) dL_law_539 (by decide) rfl (fun v σ H locs hq hW hS => ?_)
  obtain ⟨w2, rfl, ew, hJ⟩ := hq
  subst ew
  refine W.eq (g2 := F0 m 542 ls [.int w1]) rfl ?_
  refine lv_pop hx hb dL_law_542 rfl ?_
  refine lv_goto (tgt := 1492) hx hb dL_law_543 (by decide) ?_
  exact fin _ _ _ _ _ hJ hW hS (lv_sub hl [0, 1, 2, 3] rfl)
set_option maxHeartbeats 4000000 in
set_option maxRecDepth 100000 in
theorem lc_12 {p : Program} {l : Launch} {e : Env} {s : State} {m : MethodId} {below : List Frame} {meth : Method} {c : Code} {θ : Th} {b L i : Nat} {xs : Nat → Int32} {H : Heap} {locs : List Loc} {ls : Array Slot} {σ : Sg} {t : Int} {Q0 : State → Prop} (hx : p.tables.exec = Jvm.exec) (hb : c.code = code) (hml : c.maxLocals = 4) (hown : s.vm.findClass "SignalTableLaw" = some m.cls) (hts : ∀ w ∈ lwg, w.before #[Value.ref b] s = true) (hX : va_X b L xs s s.heap) (hbl : b < s.heap.size) (hL : L ≤ 384) (hK : va_K θ.1 vwCl (tysW θ) s) (hi : i + 6 ≤ L) (hW : Hw θ (fun a : Nat => s.heap.size ≤ a) σ H) (hJ : J7 t σ) (hS : va_S (fun a : Nat => s.heap.size ≤ a) s.heap H locs) (hl : lv_has ls 4 [(3, .int (nI i)), (2, .ref (θ.2.1 97)), (1, .ref (θ.2.1 0)), (0, .ref b)])
    (fin : ∀ (t : Int) (σ : Sg) (H : Heap) (locs : List Loc) (ls : Array Slot), J7 t σ → Hw θ (fun a : Nat => s.heap.size ≤ a) σ H → va_S (fun a : Nat => s.heap.size ≤ a) s.heap H locs → lv_has ls 4 [(3, .int (nI i)), (2, .ref (θ.2.1 97)), (1, .ref (θ.2.1 0)), (0, .ref b)] → W p l e room_1 s m #[Value.ref b] below meth c H locs 158 353581 Q0 (F0 m 1492 ls [])) : W p l e room_1 s m #[Value.ref b] below meth c H locs 158 353581 Q0 (F0 m 546 ls []) := by
  have hbA : ¬ (fun a : Nat => s.heap.size ≤ a) b := Nat.not_le.mpr hbl
  refine lv_aload_n hx hb dL_law_546 rfl (lv_at hl 2 rfl) ?_
  refine law_V (mj := 138) (n := 0) (q0 := 0) (ci := 11) (As := []) (rest := []) caV_SignalTableLaw_67 hx hb hml hown hts rfl (k7x_12 hJ) rfl rfl rfl rfl (by decide) hK hW hS hl.1 (Nat.le_of_ble_eq_true rfl) dL_law_547 (by decide) rfl (fun v σ H locs hq hW hS => ?_)
  obtain ⟨w1, rfl, hJ⟩ := hq
  refine W.eq (g2 := F0 m 550 ls [.int w1]) rfl ?_
  refine lv_aload_n hx hb dL_law_550 rfl (lv_at hl 1 rfl) ?_
  refine law_V (mj := 239) (n := 0) (q0 := 97) (ci := 12) (As := []) (rest := [.int w1]) caV_SignalTableLaw_70 hx hb hml hown hts rfl (k7m_12 hJ) rfl rfl rfl rfl (by decide) hK hW hS hl.1 (Nat.le_of_ble_eq_true rfl) dL_law_551 (by decide) rfl (fun v σ H locs hq hW hS => ?_)
  obtain ⟨w2, rfl, ew, hJ⟩ := hq
  subst ew
  refine W.eq (g2 := F0 m 554 ls [.int w1, .int w1]) rfl ?_
  refine lv_icmp_eq (tgt := 1492) hx hb dL_law_554 (by decide) (fun _ => ?_) (fun h => absurd rfl h)
  exact fin _ _ _ _ _ hJ hW hS (lv_sub hl [0, 1, 2, 3] rfl)
set_option maxHeartbeats 4000000 in
set_option maxRecDepth 100000 in
theorem lc_13 {p : Program} {l : Launch} {e : Env} {s : State} {m : MethodId} {below : List Frame} {meth : Method} {c : Code} {θ : Th} {b L i : Nat} {xs : Nat → Int32} {H : Heap} {locs : List Loc} {ls : Array Slot} {σ : Sg} {t : Int} {Q0 : State → Prop} (hx : p.tables.exec = Jvm.exec) (hb : c.code = code) (hml : c.maxLocals = 4) (hown : s.vm.findClass "SignalTableLaw" = some m.cls) (hts : ∀ w ∈ lwg, w.before #[Value.ref b] s = true) (hX : va_X b L xs s s.heap) (hbl : b < s.heap.size) (hL : L ≤ 384) (hK : va_K θ.1 vwCl (tysW θ) s) (hi : i + 6 ≤ L) (hW : Hw θ (fun a : Nat => s.heap.size ≤ a) σ H) (hJ : J7 t σ) (hS : va_S (fun a : Nat => s.heap.size ≤ a) s.heap H locs) (hl : lv_has ls 4 [(3, .int (nI i)), (2, .ref (θ.2.1 97)), (1, .ref (θ.2.1 0)), (0, .ref b)])
    (fin : ∀ (t : Int) (σ : Sg) (H : Heap) (locs : List Loc) (ls : Array Slot), J7 t σ → Hw θ (fun a : Nat => s.heap.size ≤ a) σ H → va_S (fun a : Nat => s.heap.size ≤ a) s.heap H locs → lv_has ls 4 [(3, .int (nI i)), (2, .ref (θ.2.1 97)), (1, .ref (θ.2.1 0)), (0, .ref b)] → W p l e room_1 s m #[Value.ref b] below meth c H locs 158 353581 Q0 (F0 m 1492 ls [])) : W p l e room_1 s m #[Value.ref b] below meth c H locs 158 353581 Q0 (F0 m 559 ls []) := by
  have hbA : ¬ (fun a : Nat => s.heap.size ≤ a) b := Nat.not_le.mpr hbl
  refine lv_aload_n hx hb dL_law_559 rfl (lv_at hl 2 rfl) ?_
  refine lv_aload_n hx hb dL_law_560 rfl (lv_at hl 3 rfl) ?_
  refine lv_iload_n hx hb dL_law_561 rfl (lv_at hl 0 rfl) ?_
  refine lv_iconst (v := 1) hx hb dL_law_562 (by decide) ?_
  refine lv_iadd hx hb dL_law_563 ?_
  refine z_i (v := (nI (i + 1))) (by exact nI_add _ 1) ?_
  refine va_sld hx hb hX hbl hbA hS (vp_in_nI (n := (i + 1)) (N := L) (by omega) (by omega)) dL_law_564 ?_
  refine lv_aload_n hx hb dL_law_565 rfl (lv_at hl 3 rfl) ?_
  refine lv_iload_n hx hb dL_law_566 rfl (lv_at hl 0 rfl) ?_
  refine lv_iconst (v := 2) hx hb dL_law_567 (by decide) ?_
  refine lv_iadd hx hb dL_law_568 ?_
  refine z_i (v := (nI (i + 2))) (by exact nI_add _ 2) ?_
  refine va_sld hx hb hX hbl hbA hS (vp_in_nI (n := (i + 2)) (N := L) (by omega) (by omega)) dL_law_569 ?_
  refine law_V (mj := 139) (n := 2) (q0 := 0) (ci := 11) (As := [.int (xs (nI (i + 1)).toNatClampNeg), .int (xs (nI (i + 2)).toNatClampNeg)]) (rest := []) caV_SignalTableLaw_71 hx hb hml hown hts rfl (k7x_13 hJ) rfl rfl rfl rfl (by decide) hK hW hS hl.1 (Nat.le_of_ble_eq_true rfl) dL_law_570 (by decide) rfl (fun v σ H locs hq hW hS => ?_)
  obtain ⟨w1, rfl, hJ⟩ := hq
  refine W.eq (g2 := F0 m 573 ls [.int w1]) rfl ?_
  refine lv_pop hx hb dL_law_573 rfl ?_
  refine lv_aload_n hx hb dL_law_574 rfl (lv_at hl 1 rfl) ?_
  refine lv_aload_n hx hb dL_law_575 rfl (lv_at hl 3 rfl) ?_
  refine lv_iload_n hx hb dL_law_576 rfl (lv_at hl 0 rfl) ?_
  refine lv_iconst (v := 1) hx hb dL_law_577 (by decide) ?_
  refine lv_iadd hx hb dL_law_578 ?_
  refine z_i (v := (nI (i + 1))) (by exact nI_add _ 1) ?_
  refine va_sld hx hb hX hbl hbA hS (vp_in_nI (n := (i + 1)) (N := L) (by omega) (by omega)) dL_law_579 ?_
  refine lv_aload_n hx hb dL_law_580 rfl (lv_at hl 3 rfl) ?_
  refine lv_iload_n hx hb dL_law_581 rfl (lv_at hl 0 rfl) ?_
  refine lv_iconst (v := 2) hx hb dL_law_582 (by decide) ?_
  refine lv_iadd hx hb dL_law_583 ?_
  refine z_i (v := (nI (i + 2))) (by exact nI_add _ 2) ?_
  refine va_sld hx hb hX hbl hbA hS (vp_in_nI (n := (i + 2)) (N := L) (by omega) (by omega)) dL_law_584 ?_
  refine law_V (mj := 244) (n := 2) (q0 := 97) (ci := 12) (As := [.int (xs (nI (i + 1)).toNatClampNeg), .int (xs (nI (i + 2)).toNatClampNeg)]) (rest := []) caV_SignalTableLaw_75 hx hb hml hown hts rfl (k7m_13 hJ) rfl rfl rfl rfl (by decide) hK hW hS hl.1 (Nat.le_of_ble_eq_true rfl) dL_law_585 (by decide) rfl (fun v σ H locs hq hW hS => ?_)
  obtain ⟨w2, rfl, ew, hJ⟩ := hq
  subst ew
  refine W.eq (g2 := F0 m 588 ls [.int w1]) rfl ?_
  refine lv_pop hx hb dL_law_588 rfl ?_
  refine lv_goto (tgt := 1492) hx hb dL_law_589 (by decide) ?_
  exact fin _ _ _ _ _ hJ hW hS (lv_sub hl [0, 1, 2, 3] rfl)
set_option maxHeartbeats 4000000 in
set_option maxRecDepth 100000 in
theorem lc_14 {p : Program} {l : Launch} {e : Env} {s : State} {m : MethodId} {below : List Frame} {meth : Method} {c : Code} {θ : Th} {b L i : Nat} {xs : Nat → Int32} {H : Heap} {locs : List Loc} {ls : Array Slot} {σ : Sg} {t : Int} {Q0 : State → Prop} (hx : p.tables.exec = Jvm.exec) (hb : c.code = code) (hml : c.maxLocals = 4) (hown : s.vm.findClass "SignalTableLaw" = some m.cls) (hts : ∀ w ∈ lwg, w.before #[Value.ref b] s = true) (hX : va_X b L xs s s.heap) (hbl : b < s.heap.size) (hL : L ≤ 384) (hK : va_K θ.1 vwCl (tysW θ) s) (hi : i + 6 ≤ L) (hW : Hw θ (fun a : Nat => s.heap.size ≤ a) σ H) (hJ : J7 t σ) (hS : va_S (fun a : Nat => s.heap.size ≤ a) s.heap H locs) (hl : lv_has ls 4 [(3, .int (nI i)), (2, .ref (θ.2.1 97)), (1, .ref (θ.2.1 0)), (0, .ref b)])
    (fin : ∀ (t : Int) (σ : Sg) (H : Heap) (locs : List Loc) (ls : Array Slot), J7 t σ → Hw θ (fun a : Nat => s.heap.size ≤ a) σ H → va_S (fun a : Nat => s.heap.size ≤ a) s.heap H locs → lv_has ls 4 [(3, .int (nI i)), (2, .ref (θ.2.1 97)), (1, .ref (θ.2.1 0)), (0, .ref b)] → W p l e room_1 s m #[Value.ref b] below meth c H locs 158 353581 Q0 (F0 m 1492 ls [])) : W p l e room_1 s m #[Value.ref b] below meth c H locs 158 353581 Q0 (F0 m 592 ls []) := by
  have hbA : ¬ (fun a : Nat => s.heap.size ≤ a) b := Nat.not_le.mpr hbl
  refine lv_aload_n hx hb dL_law_592 rfl (lv_at hl 2 rfl) ?_
  refine lv_aload_n hx hb dL_law_593 rfl (lv_at hl 3 rfl) ?_
  refine lv_iload_n hx hb dL_law_594 rfl (lv_at hl 0 rfl) ?_
  refine lv_iconst (v := 1) hx hb dL_law_595 (by decide) ?_
  refine lv_iadd hx hb dL_law_596 ?_
  refine z_i (v := (nI (i + 1))) (by exact nI_add _ 1) ?_
  refine va_sld hx hb hX hbl hbA hS (vp_in_nI (n := (i + 1)) (N := L) (by omega) (by omega)) dL_law_597 ?_
  refine law_V (mj := 140) (n := 1) (q0 := 0) (ci := 11) (As := [.int (xs (nI (i + 1)).toNatClampNeg)]) (rest := []) caV_SignalTableLaw_76 hx hb hml hown hts rfl (k7x_14 hJ) rfl rfl rfl rfl (by decide) hK hW hS hl.1 (Nat.le_of_ble_eq_true rfl) dL_law_598 (by decide) rfl (fun v σ H locs hq hW hS => ?_)
  obtain ⟨w1, rfl, hJ⟩ := hq
  refine W.eq (g2 := F0 m 601 ls [.int w1]) rfl ?_
  refine lv_pop hx hb dL_law_601 rfl ?_
  refine lv_aload_n hx hb dL_law_602 rfl (lv_at hl 1 rfl) ?_
  refine lv_aload_n hx hb dL_law_603 rfl (lv_at hl 3 rfl) ?_
  refine lv_iload_n hx hb dL_law_604 rfl (lv_at hl 0 rfl) ?_
  refine lv_iconst (v := 1) hx hb dL_law_605 (by decide) ?_
  refine lv_iadd hx hb dL_law_606 ?_
  refine z_i (v := (nI (i + 1))) (by exact nI_add _ 1) ?_
  refine va_sld hx hb hX hbl hbA hS (vp_in_nI (n := (i + 1)) (N := L) (by omega) (by omega)) dL_law_607 ?_
  refine law_V (mj := 245) (n := 1) (q0 := 97) (ci := 12) (As := [.int (xs (nI (i + 1)).toNatClampNeg)]) (rest := []) caV_SignalTableLaw_79 hx hb hml hown hts rfl (k7m_14 hJ) rfl rfl rfl rfl (by decide) hK hW hS hl.1 (Nat.le_of_ble_eq_true rfl) dL_law_608 (by decide) rfl (fun v σ H locs hq hW hS => ?_)
  obtain ⟨w2, rfl, ew, hJ⟩ := hq
  subst ew
  refine W.eq (g2 := F0 m 611 ls [.int w1]) rfl ?_
  refine lv_pop hx hb dL_law_611 rfl ?_
  refine lv_goto (tgt := 1492) hx hb dL_law_612 (by decide) ?_
  exact fin _ _ _ _ _ hJ hW hS (lv_sub hl [0, 1, 2, 3] rfl)
set_option maxHeartbeats 4000000 in
set_option maxRecDepth 100000 in
theorem lc_15 {p : Program} {l : Launch} {e : Env} {s : State} {m : MethodId} {below : List Frame} {meth : Method} {c : Code} {θ : Th} {b L i : Nat} {xs : Nat → Int32} {H : Heap} {locs : List Loc} {ls : Array Slot} {σ : Sg} {t : Int} {Q0 : State → Prop} (hx : p.tables.exec = Jvm.exec) (hb : c.code = code) (hml : c.maxLocals = 4) (hown : s.vm.findClass "SignalTableLaw" = some m.cls) (hts : ∀ w ∈ lwg, w.before #[Value.ref b] s = true) (hX : va_X b L xs s s.heap) (hbl : b < s.heap.size) (hL : L ≤ 384) (hK : va_K θ.1 vwCl (tysW θ) s) (hi : i + 6 ≤ L) (hW : Hw θ (fun a : Nat => s.heap.size ≤ a) σ H) (hJ : J7 t σ) (hS : va_S (fun a : Nat => s.heap.size ≤ a) s.heap H locs) (hl : lv_has ls 4 [(3, .int (nI i)), (2, .ref (θ.2.1 97)), (1, .ref (θ.2.1 0)), (0, .ref b)])
    (fin : ∀ (t : Int) (σ : Sg) (H : Heap) (locs : List Loc) (ls : Array Slot), J7 t σ → Hw θ (fun a : Nat => s.heap.size ≤ a) σ H → va_S (fun a : Nat => s.heap.size ≤ a) s.heap H locs → lv_has ls 4 [(3, .int (nI i)), (2, .ref (θ.2.1 97)), (1, .ref (θ.2.1 0)), (0, .ref b)] → W p l e room_1 s m #[Value.ref b] below meth c H locs 158 353581 Q0 (F0 m 1492 ls [])) : W p l e room_1 s m #[Value.ref b] below meth c H locs 158 353581 Q0 (F0 m 615 ls []) := by
  have hbA : ¬ (fun a : Nat => s.heap.size ≤ a) b := Nat.not_le.mpr hbl
  refine lv_aload_n hx hb dL_law_615 rfl (lv_at hl 2 rfl) ?_
  refine lv_aload_n hx hb dL_law_616 rfl (lv_at hl 3 rfl) ?_
  refine lv_iload_n hx hb dL_law_617 rfl (lv_at hl 0 rfl) ?_
  refine lv_iconst (v := 1) hx hb dL_law_618 (by decide) ?_
  refine lv_iadd hx hb dL_law_619 ?_
  refine z_i (v := (nI (i + 1))) (by exact nI_add _ 1) ?_
  refine va_sld hx hb hX hbl hbA hS (vp_in_nI (n := (i + 1)) (N := L) (by omega) (by omega)) dL_law_620 ?_
  refine law_V (mj := 141) (n := 1) (q0 := 0) (ci := 11) (As := [.int (xs (nI (i + 1)).toNatClampNeg)]) (rest := []) caV_SignalTableLaw_80 hx hb hml hown hts rfl (k7x_15 hJ) rfl rfl rfl rfl (by decide) hK hW hS hl.1 (Nat.le_of_ble_eq_true rfl) dL_law_621 (by decide) rfl (fun v σ H locs hq hW hS => ?_)
  obtain ⟨w1, rfl, hJ⟩ := hq
  refine W.eq (g2 := F0 m 624 ls [.int w1]) rfl ?_
  refine lv_pop hx hb dL_law_624 rfl ?_
  refine lv_aload_n hx hb dL_law_625 rfl (lv_at hl 1 rfl) ?_
  refine lv_aload_n hx hb dL_law_626 rfl (lv_at hl 3 rfl) ?_
  refine lv_iload_n hx hb dL_law_627 rfl (lv_at hl 0 rfl) ?_
  refine lv_iconst (v := 1) hx hb dL_law_628 (by decide) ?_
  refine lv_iadd hx hb dL_law_629 ?_
  refine z_i (v := (nI (i + 1))) (by exact nI_add _ 1) ?_
  refine va_sld hx hb hX hbl hbA hS (vp_in_nI (n := (i + 1)) (N := L) (by omega) (by omega)) dL_law_630 ?_
  refine law_V (mj := 246) (n := 1) (q0 := 97) (ci := 12) (As := [.int (xs (nI (i + 1)).toNatClampNeg)]) (rest := []) caV_SignalTableLaw_83 hx hb hml hown hts rfl (k7m_15 hJ) rfl rfl rfl rfl (by decide) hK hW hS hl.1 (Nat.le_of_ble_eq_true rfl) dL_law_631 (by decide) rfl (fun v σ H locs hq hW hS => ?_)
  obtain ⟨w2, rfl, ew, hJ⟩ := hq
  subst ew
  refine W.eq (g2 := F0 m 634 ls [.int w1]) rfl ?_
  refine lv_pop hx hb dL_law_634 rfl ?_
  refine lv_goto (tgt := 1492) hx hb dL_law_635 (by decide) ?_
  exact fin _ _ _ _ _ hJ hW hS (lv_sub hl [0, 1, 2, 3] rfl)
set_option maxHeartbeats 4000000 in
set_option maxRecDepth 100000 in
theorem lc_16 {p : Program} {l : Launch} {e : Env} {s : State} {m : MethodId} {below : List Frame} {meth : Method} {c : Code} {θ : Th} {b L i : Nat} {xs : Nat → Int32} {H : Heap} {locs : List Loc} {ls : Array Slot} {σ : Sg} {t : Int} {Q0 : State → Prop} (hx : p.tables.exec = Jvm.exec) (hb : c.code = code) (hml : c.maxLocals = 4) (hown : s.vm.findClass "SignalTableLaw" = some m.cls) (hts : ∀ w ∈ lwg, w.before #[Value.ref b] s = true) (hX : va_X b L xs s s.heap) (hbl : b < s.heap.size) (hL : L ≤ 384) (hK : va_K θ.1 vwCl (tysW θ) s) (hi : i + 6 ≤ L) (hW : Hw θ (fun a : Nat => s.heap.size ≤ a) σ H) (hJ : J7 t σ) (hS : va_S (fun a : Nat => s.heap.size ≤ a) s.heap H locs) (hl : lv_has ls 4 [(3, .int (nI i)), (2, .ref (θ.2.1 97)), (1, .ref (θ.2.1 0)), (0, .ref b)])
    (fin : ∀ (t : Int) (σ : Sg) (H : Heap) (locs : List Loc) (ls : Array Slot), J7 t σ → Hw θ (fun a : Nat => s.heap.size ≤ a) σ H → va_S (fun a : Nat => s.heap.size ≤ a) s.heap H locs → lv_has ls 4 [(3, .int (nI i)), (2, .ref (θ.2.1 97)), (1, .ref (θ.2.1 0)), (0, .ref b)] → W p l e room_1 s m #[Value.ref b] below meth c H locs 158 353581 Q0 (F0 m 1492 ls [])) : W p l e room_1 s m #[Value.ref b] below meth c H locs 158 353581 Q0 (F0 m 638 ls []) := by
  have hbA : ¬ (fun a : Nat => s.heap.size ≤ a) b := Nat.not_le.mpr hbl
  refine lv_aload_n hx hb dL_law_638 rfl (lv_at hl 2 rfl) ?_
  refine lv_aload_n hx hb dL_law_639 rfl (lv_at hl 3 rfl) ?_
  refine lv_iload_n hx hb dL_law_640 rfl (lv_at hl 0 rfl) ?_
  refine lv_iconst (v := 1) hx hb dL_law_641 (by decide) ?_
  refine lv_iadd hx hb dL_law_642 ?_
  refine z_i (v := (nI (i + 1))) (by exact nI_add _ 1) ?_
  refine va_sld hx hb hX hbl hbA hS (vp_in_nI (n := (i + 1)) (N := L) (by omega) (by omega)) dL_law_643 ?_
  refine lv_aload_n hx hb dL_law_644 rfl (lv_at hl 3 rfl) ?_
  refine lv_iload_n hx hb dL_law_645 rfl (lv_at hl 0 rfl) ?_
  refine lv_iconst (v := 2) hx hb dL_law_646 (by decide) ?_
  refine lv_iadd hx hb dL_law_647 ?_
  refine z_i (v := (nI (i + 2))) (by exact nI_add _ 2) ?_
  refine va_sld hx hb hX hbl hbA hS (vp_in_nI (n := (i + 2)) (N := L) (by omega) (by omega)) dL_law_648 ?_
  refine lv_aload_n hx hb dL_law_649 rfl (lv_at hl 3 rfl) ?_
  refine lv_iload_n hx hb dL_law_650 rfl (lv_at hl 0 rfl) ?_
  refine lv_iconst (v := 3) hx hb dL_law_651 (by decide) ?_
  refine lv_iadd hx hb dL_law_652 ?_
  refine z_i (v := (nI (i + 3))) (by exact nI_add _ 3) ?_
  refine va_sld hx hb hX hbl hbA hS (vp_in_nI (n := (i + 3)) (N := L) (by omega) (by omega)) dL_law_653 ?_
  refine law_V (mj := 144) (n := 3) (q0 := 0) (ci := 11) (As := [.int (xs (nI (i + 1)).toNatClampNeg), .int (xs (nI (i + 2)).toNatClampNeg), .int (xs (nI (i + 3)).toNatClampNeg)]) (rest := []) caV_SignalTableLaw_84 hx hb hml hown hts rfl (k7x_16 hJ) rfl rfl rfl rfl (by decide) hK hW hS hl.1 (Nat.le_of_ble_eq_true rfl) dL_law_654 (by decide) rfl (fun v σ H locs hq hW hS => ?_)
  obtain ⟨w1, rfl, hJ⟩ := hq
  refine W.eq (g2 := F0 m 657 ls [.int w1]) rfl ?_
  refine lv_pop hx hb dL_law_657 rfl ?_
  refine lv_aload_n hx hb dL_law_658 rfl (lv_at hl 1 rfl) ?_
  refine lv_aload_n hx hb dL_law_659 rfl (lv_at hl 3 rfl) ?_
  refine lv_iload_n hx hb dL_law_660 rfl (lv_at hl 0 rfl) ?_
  refine lv_iconst (v := 1) hx hb dL_law_661 (by decide) ?_
  refine lv_iadd hx hb dL_law_662 ?_
  refine z_i (v := (nI (i + 1))) (by exact nI_add _ 1) ?_
  refine va_sld hx hb hX hbl hbA hS (vp_in_nI (n := (i + 1)) (N := L) (by omega) (by omega)) dL_law_663 ?_
  refine lv_aload_n hx hb dL_law_664 rfl (lv_at hl 3 rfl) ?_
  refine lv_iload_n hx hb dL_law_665 rfl (lv_at hl 0 rfl) ?_
  refine lv_iconst (v := 2) hx hb dL_law_666 (by decide) ?_
  refine lv_iadd hx hb dL_law_667 ?_
  refine z_i (v := (nI (i + 2))) (by exact nI_add _ 2) ?_
  refine va_sld hx hb hX hbl hbA hS (vp_in_nI (n := (i + 2)) (N := L) (by omega) (by omega)) dL_law_668 ?_
  refine lv_aload_n hx hb dL_law_669 rfl (lv_at hl 3 rfl) ?_
  refine lv_iload_n hx hb dL_law_670 rfl (lv_at hl 0 rfl) ?_
  refine lv_iconst (v := 3) hx hb dL_law_671 (by decide) ?_
  refine lv_iadd hx hb dL_law_672 ?_
  refine z_i (v := (nI (i + 3))) (by exact nI_add _ 3) ?_
  refine va_sld hx hb hX hbl hbA hS (vp_in_nI (n := (i + 3)) (N := L) (by omega) (by omega)) dL_law_673 ?_
  refine law_V (mj := 256) (n := 3) (q0 := 97) (ci := 12) (As := [.int (xs (nI (i + 1)).toNatClampNeg), .int (xs (nI (i + 2)).toNatClampNeg), .int (xs (nI (i + 3)).toNatClampNeg)]) (rest := []) caV_SignalTableLaw_88 hx hb hml hown hts rfl (k7m_16 hJ) rfl rfl rfl rfl (by decide) hK hW hS hl.1 (Nat.le_of_ble_eq_true rfl) dL_law_674 (by decide) rfl (fun v σ H locs hq hW hS => ?_)
  obtain ⟨w2, rfl, hJ⟩ := hq
  refine W.eq (g2 := F0 m 677 ls [.int w2]) rfl ?_
  refine lv_pop hx hb dL_law_677 rfl ?_
  refine lv_goto (tgt := 1492) hx hb dL_law_678 (by decide) ?_
  exact fin _ _ _ _ _ hJ hW hS (lv_sub hl [0, 1, 2, 3] rfl)
set_option maxHeartbeats 4000000 in
set_option maxRecDepth 100000 in
theorem lc_17 {p : Program} {l : Launch} {e : Env} {s : State} {m : MethodId} {below : List Frame} {meth : Method} {c : Code} {θ : Th} {b L i : Nat} {xs : Nat → Int32} {H : Heap} {locs : List Loc} {ls : Array Slot} {σ : Sg} {t : Int} {Q0 : State → Prop} (hx : p.tables.exec = Jvm.exec) (hb : c.code = code) (hml : c.maxLocals = 4) (hown : s.vm.findClass "SignalTableLaw" = some m.cls) (hts : ∀ w ∈ lwg, w.before #[Value.ref b] s = true) (hX : va_X b L xs s s.heap) (hbl : b < s.heap.size) (hL : L ≤ 384) (hK : va_K θ.1 vwCl (tysW θ) s) (hi : i + 6 ≤ L) (hW : Hw θ (fun a : Nat => s.heap.size ≤ a) σ H) (hJ : J7 t σ) (hS : va_S (fun a : Nat => s.heap.size ≤ a) s.heap H locs) (hl : lv_has ls 4 [(3, .int (nI i)), (2, .ref (θ.2.1 97)), (1, .ref (θ.2.1 0)), (0, .ref b)])
    (fin : ∀ (t : Int) (σ : Sg) (H : Heap) (locs : List Loc) (ls : Array Slot), J7 t σ → Hw θ (fun a : Nat => s.heap.size ≤ a) σ H → va_S (fun a : Nat => s.heap.size ≤ a) s.heap H locs → lv_has ls 4 [(3, .int (nI i)), (2, .ref (θ.2.1 97)), (1, .ref (θ.2.1 0)), (0, .ref b)] → W p l e room_1 s m #[Value.ref b] below meth c H locs 158 353581 Q0 (F0 m 1492 ls [])) : W p l e room_1 s m #[Value.ref b] below meth c H locs 158 353581 Q0 (F0 m 681 ls []) := by
  have hbA : ¬ (fun a : Nat => s.heap.size ≤ a) b := Nat.not_le.mpr hbl
  refine lv_aload_n hx hb dL_law_681 rfl (lv_at hl 2 rfl) ?_
  refine lv_aload_n hx hb dL_law_682 rfl (lv_at hl 3 rfl) ?_
  refine lv_iload_n hx hb dL_law_683 rfl (lv_at hl 0 rfl) ?_
  refine lv_iconst (v := 1) hx hb dL_law_684 (by decide) ?_
  refine lv_iadd hx hb dL_law_685 ?_
  refine z_i (v := (nI (i + 1))) (by exact nI_add _ 1) ?_
  refine va_sld hx hb hX hbl hbA hS (vp_in_nI (n := (i + 1)) (N := L) (by omega) (by omega)) dL_law_686 ?_
  refine lv_aload_n hx hb dL_law_687 rfl (lv_at hl 3 rfl) ?_
  refine lv_iload_n hx hb dL_law_688 rfl (lv_at hl 0 rfl) ?_
  refine lv_iconst (v := 2) hx hb dL_law_689 (by decide) ?_
  refine lv_iadd hx hb dL_law_690 ?_
  refine z_i (v := (nI (i + 2))) (by exact nI_add _ 2) ?_
  refine va_sld hx hb hX hbl hbA hS (vp_in_nI (n := (i + 2)) (N := L) (by omega) (by omega)) dL_law_691 ?_
  refine law_V (mj := 147) (n := 2) (q0 := 0) (ci := 11) (As := [.int (xs (nI (i + 1)).toNatClampNeg), .int (xs (nI (i + 2)).toNatClampNeg)]) (rest := []) caV_SignalTableLaw_89 hx hb hml hown hts rfl (k7x_17 hJ) rfl rfl rfl rfl (by decide) hK hW hS hl.1 (Nat.le_of_ble_eq_true rfl) dL_law_692 (by decide) rfl (fun v σ H locs hq hW hS => ?_)
  obtain ⟨w1, rfl, hJ⟩ := hq
  refine W.eq (g2 := F0 m 695 ls [.int w1]) rfl ?_
  refine lv_pop hx hb dL_law_695 rfl ?_
  refine lv_aload_n hx hb dL_law_696 rfl (lv_at hl 1 rfl) ?_
  refine lv_aload_n hx hb dL_law_697 rfl (lv_at hl 3 rfl) ?_
  refine lv_iload_n hx hb dL_law_698 rfl (lv_at hl 0 rfl) ?_
  refine lv_iconst (v := 1) hx hb dL_law_699 (by decide) ?_
  refine lv_iadd hx hb dL_law_700 ?_
  refine z_i (v := (nI (i + 1))) (by exact nI_add _ 1) ?_
  refine va_sld hx hb hX hbl hbA hS (vp_in_nI (n := (i + 1)) (N := L) (by omega) (by omega)) dL_law_701 ?_
  refine lv_aload_n hx hb dL_law_702 rfl (lv_at hl 3 rfl) ?_
  refine lv_iload_n hx hb dL_law_703 rfl (lv_at hl 0 rfl) ?_
  refine lv_iconst (v := 2) hx hb dL_law_704 (by decide) ?_
  refine lv_iadd hx hb dL_law_705 ?_
  refine z_i (v := (nI (i + 2))) (by exact nI_add _ 2) ?_
  refine va_sld hx hb hX hbl hbA hS (vp_in_nI (n := (i + 2)) (N := L) (by omega) (by omega)) dL_law_706 ?_
  refine law_V (mj := 265) (n := 2) (q0 := 97) (ci := 12) (As := [.int (xs (nI (i + 1)).toNatClampNeg), .int (xs (nI (i + 2)).toNatClampNeg)]) (rest := []) caV_SignalTableLaw_92 hx hb hml hown hts rfl (k7m_17 hJ) rfl rfl rfl rfl (by decide) hK hW hS hl.1 (Nat.le_of_ble_eq_true rfl) dL_law_707 (by decide) rfl (fun v σ H locs hq hW hS => ?_)
  obtain ⟨w2, rfl, hJ⟩ := hq
  refine W.eq (g2 := F0 m 710 ls [.int w2]) rfl ?_
  refine lv_pop hx hb dL_law_710 rfl ?_
  refine lv_goto (tgt := 1492) hx hb dL_law_711 (by decide) ?_
  exact fin _ _ _ _ _ hJ hW hS (lv_sub hl [0, 1, 2, 3] rfl)
set_option maxHeartbeats 4000000 in
set_option maxRecDepth 100000 in
theorem lc_18 {p : Program} {l : Launch} {e : Env} {s : State} {m : MethodId} {below : List Frame} {meth : Method} {c : Code} {θ : Th} {b L i : Nat} {xs : Nat → Int32} {H : Heap} {locs : List Loc} {ls : Array Slot} {σ : Sg} {t : Int} {Q0 : State → Prop} (hx : p.tables.exec = Jvm.exec) (hb : c.code = code) (hml : c.maxLocals = 4) (hown : s.vm.findClass "SignalTableLaw" = some m.cls) (hts : ∀ w ∈ lwg, w.before #[Value.ref b] s = true) (hX : va_X b L xs s s.heap) (hbl : b < s.heap.size) (hL : L ≤ 384) (hK : va_K θ.1 vwCl (tysW θ) s) (hi : i + 6 ≤ L) (hW : Hw θ (fun a : Nat => s.heap.size ≤ a) σ H) (hJ : J7 t σ) (hS : va_S (fun a : Nat => s.heap.size ≤ a) s.heap H locs) (hl : lv_has ls 4 [(3, .int (nI i)), (2, .ref (θ.2.1 97)), (1, .ref (θ.2.1 0)), (0, .ref b)])
    (fin : ∀ (t : Int) (σ : Sg) (H : Heap) (locs : List Loc) (ls : Array Slot), J7 t σ → Hw θ (fun a : Nat => s.heap.size ≤ a) σ H → va_S (fun a : Nat => s.heap.size ≤ a) s.heap H locs → lv_has ls 4 [(3, .int (nI i)), (2, .ref (θ.2.1 97)), (1, .ref (θ.2.1 0)), (0, .ref b)] → W p l e room_1 s m #[Value.ref b] below meth c H locs 158 353581 Q0 (F0 m 1492 ls [])) : W p l e room_1 s m #[Value.ref b] below meth c H locs 158 353581 Q0 (F0 m 714 ls []) := by
  have hbA : ¬ (fun a : Nat => s.heap.size ≤ a) b := Nat.not_le.mpr hbl
  refine lv_aload_n hx hb dL_law_714 rfl (lv_at hl 2 rfl) ?_
  refine lv_aload_n hx hb dL_law_715 rfl (lv_at hl 3 rfl) ?_
  refine lv_iload_n hx hb dL_law_716 rfl (lv_at hl 0 rfl) ?_
  refine lv_iconst (v := 1) hx hb dL_law_717 (by decide) ?_
  refine lv_iadd hx hb dL_law_718 ?_
  refine z_i (v := (nI (i + 1))) (by exact nI_add _ 1) ?_
  refine va_sld hx hb hX hbl hbA hS (vp_in_nI (n := (i + 1)) (N := L) (by omega) (by omega)) dL_law_719 ?_
  refine lv_aload_n hx hb dL_law_720 rfl (lv_at hl 3 rfl) ?_
  refine lv_iload_n hx hb dL_law_721 rfl (lv_at hl 0 rfl) ?_
  refine lv_iconst (v := 2) hx hb dL_law_722 (by decide) ?_
  refine lv_iadd hx hb dL_law_723 ?_
  refine z_i (v := (nI (i + 2))) (by exact nI_add _ 2) ?_
  refine va_sld hx hb hX hbl hbA hS (vp_in_nI (n := (i + 2)) (N := L) (by omega) (by omega)) dL_law_724 ?_
  refine lv_aload_n hx hb dL_law_725 rfl (lv_at hl 3 rfl) ?_
  refine lv_iload_n hx hb dL_law_726 rfl (lv_at hl 0 rfl) ?_
  refine lv_iconst (v := 3) hx hb dL_law_727 (by decide) ?_
  refine lv_iadd hx hb dL_law_728 ?_
  refine z_i (v := (nI (i + 3))) (by exact nI_add _ 3) ?_
  refine va_sld hx hb hX hbl hbA hS (vp_in_nI (n := (i + 3)) (N := L) (by omega) (by omega)) dL_law_729 ?_
  refine lv_aload_n hx hb dL_law_730 rfl (lv_at hl 3 rfl) ?_
  refine lv_iload_n hx hb dL_law_731 rfl (lv_at hl 0 rfl) ?_
  refine lv_iconst (v := 4) hx hb dL_law_732 (by decide) ?_
  refine lv_iadd hx hb dL_law_733 ?_
  refine z_i (v := (nI (i + 4))) (by exact nI_add _ 4) ?_
  refine va_sld hx hb hX hbl hbA hS (vp_in_nI (n := (i + 4)) (N := L) (by omega) (by omega)) dL_law_734 ?_
  refine law_V (mj := 149) (n := 4) (q0 := 0) (ci := 11) (As := [.int (xs (nI (i + 1)).toNatClampNeg), .int (xs (nI (i + 2)).toNatClampNeg), .int (xs (nI (i + 3)).toNatClampNeg), .int (xs (nI (i + 4)).toNatClampNeg)]) (rest := []) caV_SignalTableLaw_93 hx hb hml hown hts rfl (k7x_18 hJ) rfl rfl rfl rfl (by decide) hK hW hS hl.1 (Nat.le_of_ble_eq_true rfl) dL_law_735 (by decide) rfl (fun v σ H locs hq hW hS => ?_)
  obtain ⟨w1, rfl, hJ⟩ := hq
  refine W.eq (g2 := F0 m 738 ls [.int w1]) rfl ?_
  refine lv_pop hx hb dL_law_738 rfl ?_
  refine lv_aload_n hx hb dL_law_739 rfl (lv_at hl 1 rfl) ?_
  refine lv_aload_n hx hb dL_law_740 rfl (lv_at hl 3 rfl) ?_
  refine lv_iload_n hx hb dL_law_741 rfl (lv_at hl 0 rfl) ?_
  refine lv_iconst (v := 1) hx hb dL_law_742 (by decide) ?_
  refine lv_iadd hx hb dL_law_743 ?_
  refine z_i (v := (nI (i + 1))) (by exact nI_add _ 1) ?_
  refine va_sld hx hb hX hbl hbA hS (vp_in_nI (n := (i + 1)) (N := L) (by omega) (by omega)) dL_law_744 ?_
  refine lv_aload_n hx hb dL_law_745 rfl (lv_at hl 3 rfl) ?_
  refine lv_iload_n hx hb dL_law_746 rfl (lv_at hl 0 rfl) ?_
  refine lv_iconst (v := 2) hx hb dL_law_747 (by decide) ?_
  refine lv_iadd hx hb dL_law_748 ?_
  refine z_i (v := (nI (i + 2))) (by exact nI_add _ 2) ?_
  refine va_sld hx hb hX hbl hbA hS (vp_in_nI (n := (i + 2)) (N := L) (by omega) (by omega)) dL_law_749 ?_
  refine lv_aload_n hx hb dL_law_750 rfl (lv_at hl 3 rfl) ?_
  refine lv_iload_n hx hb dL_law_751 rfl (lv_at hl 0 rfl) ?_
  refine lv_iconst (v := 3) hx hb dL_law_752 (by decide) ?_
  refine lv_iadd hx hb dL_law_753 ?_
  refine z_i (v := (nI (i + 3))) (by exact nI_add _ 3) ?_
  refine va_sld hx hb hX hbl hbA hS (vp_in_nI (n := (i + 3)) (N := L) (by omega) (by omega)) dL_law_754 ?_
  refine lv_aload_n hx hb dL_law_755 rfl (lv_at hl 3 rfl) ?_
  refine lv_iload_n hx hb dL_law_756 rfl (lv_at hl 0 rfl) ?_
  refine lv_iconst (v := 4) hx hb dL_law_757 (by decide) ?_
  refine lv_iadd hx hb dL_law_758 ?_
  refine z_i (v := (nI (i + 4))) (by exact nI_add _ 4) ?_
  refine va_sld hx hb hX hbl hbA hS (vp_in_nI (n := (i + 4)) (N := L) (by omega) (by omega)) dL_law_759 ?_
  refine law_V (mj := 267) (n := 4) (q0 := 97) (ci := 12) (As := [.int (xs (nI (i + 1)).toNatClampNeg), .int (xs (nI (i + 2)).toNatClampNeg), .int (xs (nI (i + 3)).toNatClampNeg), .int (xs (nI (i + 4)).toNatClampNeg)]) (rest := []) caV_SignalTableLaw_97 hx hb hml hown hts rfl (k7m_18 hJ) rfl rfl rfl rfl (by decide) hK hW hS hl.1 (Nat.le_of_ble_eq_true rfl) dL_law_760 (by decide) rfl (fun v σ H locs hq hW hS => ?_)
  obtain ⟨w2, rfl, hJ⟩ := hq
  refine W.eq (g2 := F0 m 763 ls [.int w2]) rfl ?_
  refine lv_pop hx hb dL_law_763 rfl ?_
  refine lv_goto (tgt := 1492) hx hb dL_law_764 (by decide) ?_
  exact fin _ _ _ _ _ hJ hW hS (lv_sub hl [0, 1, 2, 3] rfl)
set_option maxHeartbeats 4000000 in
set_option maxRecDepth 100000 in
theorem lc_19 {p : Program} {l : Launch} {e : Env} {s : State} {m : MethodId} {below : List Frame} {meth : Method} {c : Code} {θ : Th} {b L i : Nat} {xs : Nat → Int32} {H : Heap} {locs : List Loc} {ls : Array Slot} {σ : Sg} {t : Int} {Q0 : State → Prop} (hx : p.tables.exec = Jvm.exec) (hb : c.code = code) (hml : c.maxLocals = 4) (hown : s.vm.findClass "SignalTableLaw" = some m.cls) (hts : ∀ w ∈ lwg, w.before #[Value.ref b] s = true) (hX : va_X b L xs s s.heap) (hbl : b < s.heap.size) (hL : L ≤ 384) (hK : va_K θ.1 vwCl (tysW θ) s) (hi : i + 6 ≤ L) (hW : Hw θ (fun a : Nat => s.heap.size ≤ a) σ H) (hJ : J7 t σ) (hS : va_S (fun a : Nat => s.heap.size ≤ a) s.heap H locs) (hl : lv_has ls 4 [(3, .int (nI i)), (2, .ref (θ.2.1 97)), (1, .ref (θ.2.1 0)), (0, .ref b)])
    (fin : ∀ (t : Int) (σ : Sg) (H : Heap) (locs : List Loc) (ls : Array Slot), J7 t σ → Hw θ (fun a : Nat => s.heap.size ≤ a) σ H → va_S (fun a : Nat => s.heap.size ≤ a) s.heap H locs → lv_has ls 4 [(3, .int (nI i)), (2, .ref (θ.2.1 97)), (1, .ref (θ.2.1 0)), (0, .ref b)] → W p l e room_1 s m #[Value.ref b] below meth c H locs 158 353581 Q0 (F0 m 1492 ls [])) : W p l e room_1 s m #[Value.ref b] below meth c H locs 158 353581 Q0 (F0 m 767 ls []) := by
  have hbA : ¬ (fun a : Nat => s.heap.size ≤ a) b := Nat.not_le.mpr hbl
  refine lv_aload_n hx hb dL_law_767 rfl (lv_at hl 2 rfl) ?_
  refine lv_aload_n hx hb dL_law_768 rfl (lv_at hl 3 rfl) ?_
  refine lv_iload_n hx hb dL_law_769 rfl (lv_at hl 0 rfl) ?_
  refine lv_iconst (v := 1) hx hb dL_law_770 (by decide) ?_
  refine lv_iadd hx hb dL_law_771 ?_
  refine z_i (v := (nI (i + 1))) (by exact nI_add _ 1) ?_
  refine va_sld hx hb hX hbl hbA hS (vp_in_nI (n := (i + 1)) (N := L) (by omega) (by omega)) dL_law_772 ?_
  refine lv_aload_n hx hb dL_law_773 rfl (lv_at hl 3 rfl) ?_
  refine lv_iload_n hx hb dL_law_774 rfl (lv_at hl 0 rfl) ?_
  refine lv_iconst (v := 2) hx hb dL_law_775 (by decide) ?_
  refine lv_iadd hx hb dL_law_776 ?_
  refine z_i (v := (nI (i + 2))) (by exact nI_add _ 2) ?_
  refine va_sld hx hb hX hbl hbA hS (vp_in_nI (n := (i + 2)) (N := L) (by omega) (by omega)) dL_law_777 ?_
  refine law_V (mj := 150) (n := 2) (q0 := 0) (ci := 11) (As := [.int (xs (nI (i + 1)).toNatClampNeg), .int (xs (nI (i + 2)).toNatClampNeg)]) (rest := []) caV_SignalTableLaw_98 hx hb hml hown hts rfl (k7x_19 hJ) rfl rfl rfl rfl (by decide) hK hW hS hl.1 (Nat.le_of_ble_eq_true rfl) dL_law_778 (by decide) rfl (fun v σ H locs hq hW hS => ?_)
  obtain ⟨w1, rfl, hJ⟩ := hq
  refine W.eq (g2 := F0 m 781 ls [.int w1]) rfl ?_
  refine lv_pop hx hb dL_law_781 rfl ?_
  refine lv_aload_n hx hb dL_law_782 rfl (lv_at hl 1 rfl) ?_
  refine lv_aload_n hx hb dL_law_783 rfl (lv_at hl 3 rfl) ?_
  refine lv_iload_n hx hb dL_law_784 rfl (lv_at hl 0 rfl) ?_
  refine lv_iconst (v := 1) hx hb dL_law_785 (by decide) ?_
  refine lv_iadd hx hb dL_law_786 ?_
  refine z_i (v := (nI (i + 1))) (by exact nI_add _ 1) ?_
  refine va_sld hx hb hX hbl hbA hS (vp_in_nI (n := (i + 1)) (N := L) (by omega) (by omega)) dL_law_787 ?_
  refine lv_aload_n hx hb dL_law_788 rfl (lv_at hl 3 rfl) ?_
  refine lv_iload_n hx hb dL_law_789 rfl (lv_at hl 0 rfl) ?_
  refine lv_iconst (v := 2) hx hb dL_law_790 (by decide) ?_
  refine lv_iadd hx hb dL_law_791 ?_
  refine z_i (v := (nI (i + 2))) (by exact nI_add _ 2) ?_
  refine va_sld hx hb hX hbl hbA hS (vp_in_nI (n := (i + 2)) (N := L) (by omega) (by omega)) dL_law_792 ?_
  refine law_V (mj := 269) (n := 2) (q0 := 97) (ci := 12) (As := [.int (xs (nI (i + 1)).toNatClampNeg), .int (xs (nI (i + 2)).toNatClampNeg)]) (rest := []) caV_SignalTableLaw_101 hx hb hml hown hts rfl (k7m_19 hJ) rfl rfl rfl rfl (by decide) hK hW hS hl.1 (Nat.le_of_ble_eq_true rfl) dL_law_793 (by decide) rfl (fun v σ H locs hq hW hS => ?_)
  obtain ⟨w2, rfl, hJ⟩ := hq
  refine W.eq (g2 := F0 m 796 ls [.int w2]) rfl ?_
  refine lv_pop hx hb dL_law_796 rfl ?_
  refine lv_goto (tgt := 1492) hx hb dL_law_797 (by decide) ?_
  exact fin _ _ _ _ _ hJ hW hS (lv_sub hl [0, 1, 2, 3] rfl)
set_option maxHeartbeats 4000000 in
set_option maxRecDepth 100000 in
theorem lc_20 {p : Program} {l : Launch} {e : Env} {s : State} {m : MethodId} {below : List Frame} {meth : Method} {c : Code} {θ : Th} {b L i : Nat} {xs : Nat → Int32} {H : Heap} {locs : List Loc} {ls : Array Slot} {σ : Sg} {t : Int} {Q0 : State → Prop} (hx : p.tables.exec = Jvm.exec) (hb : c.code = code) (hml : c.maxLocals = 4) (hown : s.vm.findClass "SignalTableLaw" = some m.cls) (hts : ∀ w ∈ lwg, w.before #[Value.ref b] s = true) (hX : va_X b L xs s s.heap) (hbl : b < s.heap.size) (hL : L ≤ 384) (hK : va_K θ.1 vwCl (tysW θ) s) (hi : i + 6 ≤ L) (hW : Hw θ (fun a : Nat => s.heap.size ≤ a) σ H) (hJ : J7 t σ) (hS : va_S (fun a : Nat => s.heap.size ≤ a) s.heap H locs) (hl : lv_has ls 4 [(3, .int (nI i)), (2, .ref (θ.2.1 97)), (1, .ref (θ.2.1 0)), (0, .ref b)])
    (fin : ∀ (t : Int) (σ : Sg) (H : Heap) (locs : List Loc) (ls : Array Slot), J7 t σ → Hw θ (fun a : Nat => s.heap.size ≤ a) σ H → va_S (fun a : Nat => s.heap.size ≤ a) s.heap H locs → lv_has ls 4 [(3, .int (nI i)), (2, .ref (θ.2.1 97)), (1, .ref (θ.2.1 0)), (0, .ref b)] → W p l e room_1 s m #[Value.ref b] below meth c H locs 158 353581 Q0 (F0 m 1492 ls [])) : W p l e room_1 s m #[Value.ref b] below meth c H locs 158 353581 Q0 (F0 m 800 ls []) := by
  have hbA : ¬ (fun a : Nat => s.heap.size ≤ a) b := Nat.not_le.mpr hbl
  refine lv_aload_n hx hb dL_law_800 rfl (lv_at hl 2 rfl) ?_
  refine lv_aload_n hx hb dL_law_801 rfl (lv_at hl 3 rfl) ?_
  refine lv_iload_n hx hb dL_law_802 rfl (lv_at hl 0 rfl) ?_
  refine lv_iconst (v := 1) hx hb dL_law_803 (by decide) ?_
  refine lv_iadd hx hb dL_law_804 ?_
  refine z_i (v := (nI (i + 1))) (by exact nI_add _ 1) ?_
  refine va_sld hx hb hX hbl hbA hS (vp_in_nI (n := (i + 1)) (N := L) (by omega) (by omega)) dL_law_805 ?_
  refine lv_aload_n hx hb dL_law_806 rfl (lv_at hl 3 rfl) ?_
  refine lv_iload_n hx hb dL_law_807 rfl (lv_at hl 0 rfl) ?_
  refine lv_iconst (v := 2) hx hb dL_law_808 (by decide) ?_
  refine lv_iadd hx hb dL_law_809 ?_
  refine z_i (v := (nI (i + 2))) (by exact nI_add _ 2) ?_
  refine va_sld hx hb hX hbl hbA hS (vp_in_nI (n := (i + 2)) (N := L) (by omega) (by omega)) dL_law_810 ?_
  refine lv_aload_n hx hb dL_law_811 rfl (lv_at hl 3 rfl) ?_
  refine lv_iload_n hx hb dL_law_812 rfl (lv_at hl 0 rfl) ?_
  refine lv_iconst (v := 3) hx hb dL_law_813 (by decide) ?_
  refine lv_iadd hx hb dL_law_814 ?_
  refine z_i (v := (nI (i + 3))) (by exact nI_add _ 3) ?_
  refine va_sld hx hb hX hbl hbA hS (vp_in_nI (n := (i + 3)) (N := L) (by omega) (by omega)) dL_law_815 ?_
  refine law_V (mj := 148) (n := 3) (q0 := 0) (ci := 11) (As := [.int (xs (nI (i + 1)).toNatClampNeg), .int (xs (nI (i + 2)).toNatClampNeg), .int (xs (nI (i + 3)).toNatClampNeg)]) (rest := []) caV_SignalTableLaw_102 hx hb hml hown hts rfl (k7x_20 hJ) rfl rfl rfl rfl (by decide) hK hW hS hl.1 (Nat.le_of_ble_eq_true rfl) dL_law_816 (by decide) rfl (fun v σ H locs hq hW hS => ?_)
  obtain ⟨w1, rfl, hJ⟩ := hq
  refine W.eq (g2 := F0 m 819 ls [.int w1]) rfl ?_
  refine lv_pop hx hb dL_law_819 rfl ?_
  refine lv_aload_n hx hb dL_law_820 rfl (lv_at hl 1 rfl) ?_
  refine lv_aload_n hx hb dL_law_821 rfl (lv_at hl 3 rfl) ?_
  refine lv_iload_n hx hb dL_law_822 rfl (lv_at hl 0 rfl) ?_
  refine lv_iconst (v := 1) hx hb dL_law_823 (by decide) ?_
  refine lv_iadd hx hb dL_law_824 ?_
  refine z_i (v := (nI (i + 1))) (by exact nI_add _ 1) ?_
  refine va_sld hx hb hX hbl hbA hS (vp_in_nI (n := (i + 1)) (N := L) (by omega) (by omega)) dL_law_825 ?_
  refine lv_aload_n hx hb dL_law_826 rfl (lv_at hl 3 rfl) ?_
  refine lv_iload_n hx hb dL_law_827 rfl (lv_at hl 0 rfl) ?_
  refine lv_iconst (v := 2) hx hb dL_law_828 (by decide) ?_
  refine lv_iadd hx hb dL_law_829 ?_
  refine z_i (v := (nI (i + 2))) (by exact nI_add _ 2) ?_
  refine va_sld hx hb hX hbl hbA hS (vp_in_nI (n := (i + 2)) (N := L) (by omega) (by omega)) dL_law_830 ?_
  refine lv_aload_n hx hb dL_law_831 rfl (lv_at hl 3 rfl) ?_
  refine lv_iload_n hx hb dL_law_832 rfl (lv_at hl 0 rfl) ?_
  refine lv_iconst (v := 3) hx hb dL_law_833 (by decide) ?_
  refine lv_iadd hx hb dL_law_834 ?_
  refine z_i (v := (nI (i + 3))) (by exact nI_add _ 3) ?_
  refine va_sld hx hb hX hbl hbA hS (vp_in_nI (n := (i + 3)) (N := L) (by omega) (by omega)) dL_law_835 ?_
  refine law_V (mj := 266) (n := 3) (q0 := 97) (ci := 12) (As := [.int (xs (nI (i + 1)).toNatClampNeg), .int (xs (nI (i + 2)).toNatClampNeg), .int (xs (nI (i + 3)).toNatClampNeg)]) (rest := []) caV_SignalTableLaw_105 hx hb hml hown hts rfl (k7m_20 hJ) rfl rfl rfl rfl (by decide) hK hW hS hl.1 (Nat.le_of_ble_eq_true rfl) dL_law_836 (by decide) rfl (fun v σ H locs hq hW hS => ?_)
  obtain ⟨w2, rfl, hJ⟩ := hq
  refine W.eq (g2 := F0 m 839 ls [.int w2]) rfl ?_
  refine lv_pop hx hb dL_law_839 rfl ?_
  refine lv_goto (tgt := 1492) hx hb dL_law_840 (by decide) ?_
  exact fin _ _ _ _ _ hJ hW hS (lv_sub hl [0, 1, 2, 3] rfl)
set_option maxHeartbeats 4000000 in
set_option maxRecDepth 100000 in
theorem lc_21 {p : Program} {l : Launch} {e : Env} {s : State} {m : MethodId} {below : List Frame} {meth : Method} {c : Code} {θ : Th} {b L i : Nat} {xs : Nat → Int32} {H : Heap} {locs : List Loc} {ls : Array Slot} {σ : Sg} {t : Int} {Q0 : State → Prop} (hx : p.tables.exec = Jvm.exec) (hb : c.code = code) (hml : c.maxLocals = 4) (hown : s.vm.findClass "SignalTableLaw" = some m.cls) (hts : ∀ w ∈ lwg, w.before #[Value.ref b] s = true) (hX : va_X b L xs s s.heap) (hbl : b < s.heap.size) (hL : L ≤ 384) (hK : va_K θ.1 vwCl (tysW θ) s) (hi : i + 6 ≤ L) (hW : Hw θ (fun a : Nat => s.heap.size ≤ a) σ H) (hJ : J7 t σ) (hS : va_S (fun a : Nat => s.heap.size ≤ a) s.heap H locs) (hl : lv_has ls 4 [(3, .int (nI i)), (2, .ref (θ.2.1 97)), (1, .ref (θ.2.1 0)), (0, .ref b)])
    (fin : ∀ (t : Int) (σ : Sg) (H : Heap) (locs : List Loc) (ls : Array Slot), J7 t σ → Hw θ (fun a : Nat => s.heap.size ≤ a) σ H → va_S (fun a : Nat => s.heap.size ≤ a) s.heap H locs → lv_has ls 4 [(3, .int (nI i)), (2, .ref (θ.2.1 97)), (1, .ref (θ.2.1 0)), (0, .ref b)] → W p l e room_1 s m #[Value.ref b] below meth c H locs 158 353581 Q0 (F0 m 1492 ls [])) : W p l e room_1 s m #[Value.ref b] below meth c H locs 158 353581 Q0 (F0 m 843 ls []) := by
  have hbA : ¬ (fun a : Nat => s.heap.size ≤ a) b := Nat.not_le.mpr hbl
  refine lv_aload_n hx hb dL_law_843 rfl (lv_at hl 2 rfl) ?_
  refine lv_aload_n hx hb dL_law_844 rfl (lv_at hl 3 rfl) ?_
  refine lv_iload_n hx hb dL_law_845 rfl (lv_at hl 0 rfl) ?_
  refine lv_iconst (v := 1) hx hb dL_law_846 (by decide) ?_
  refine lv_iadd hx hb dL_law_847 ?_
  refine z_i (v := (nI (i + 1))) (by exact nI_add _ 1) ?_
  refine va_sld hx hb hX hbl hbA hS (vp_in_nI (n := (i + 1)) (N := L) (by omega) (by omega)) dL_law_848 ?_
  refine lv_aload_n hx hb dL_law_849 rfl (lv_at hl 3 rfl) ?_
  refine lv_iload_n hx hb dL_law_850 rfl (lv_at hl 0 rfl) ?_
  refine lv_iconst (v := 2) hx hb dL_law_851 (by decide) ?_
  refine lv_iadd hx hb dL_law_852 ?_
  refine z_i (v := (nI (i + 2))) (by exact nI_add _ 2) ?_
  refine va_sld hx hb hX hbl hbA hS (vp_in_nI (n := (i + 2)) (N := L) (by omega) (by omega)) dL_law_853 ?_
  refine lv_aload_n hx hb dL_law_854 rfl (lv_at hl 3 rfl) ?_
  refine lv_iload_n hx hb dL_law_855 rfl (lv_at hl 0 rfl) ?_
  refine lv_iconst (v := 3) hx hb dL_law_856 (by decide) ?_
  refine lv_iadd hx hb dL_law_857 ?_
  refine z_i (v := (nI (i + 3))) (by exact nI_add _ 3) ?_
  refine va_sld hx hb hX hbl hbA hS (vp_in_nI (n := (i + 3)) (N := L) (by omega) (by omega)) dL_law_858 ?_
  refine lv_aload_n hx hb dL_law_859 rfl (lv_at hl 3 rfl) ?_
  refine lv_iload_n hx hb dL_law_860 rfl (lv_at hl 0 rfl) ?_
  refine lv_iconst (v := 4) hx hb dL_law_861 (by decide) ?_
  refine lv_iadd hx hb dL_law_862 ?_
  refine z_i (v := (nI (i + 4))) (by exact nI_add _ 4) ?_
  refine va_sld hx hb hX hbl hbA hS (vp_in_nI (n := (i + 4)) (N := L) (by omega) (by omega)) dL_law_863 ?_
  refine law_V (mj := 151) (n := 4) (q0 := 0) (ci := 11) (As := [.int (xs (nI (i + 1)).toNatClampNeg), .int (xs (nI (i + 2)).toNatClampNeg), .int (xs (nI (i + 3)).toNatClampNeg), .int (xs (nI (i + 4)).toNatClampNeg)]) (rest := []) caV_SignalTableLaw_106 hx hb hml hown hts rfl (k7x_21 hJ) rfl rfl rfl rfl (by decide) hK hW hS hl.1 (Nat.le_of_ble_eq_true rfl) dL_law_864 (by decide) rfl (fun v σ H locs hq hW hS => ?_)
  obtain ⟨w1, rfl, hJ⟩ := hq
  refine W.eq (g2 := F0 m 867 ls [.int w1]) rfl ?_
  refine lv_pop hx hb dL_law_867 rfl ?_
  refine lv_aload_n hx hb dL_law_868 rfl (lv_at hl 1 rfl) ?_
  refine lv_aload_n hx hb dL_law_869 rfl (lv_at hl 3 rfl) ?_
  refine lv_iload_n hx hb dL_law_870 rfl (lv_at hl 0 rfl) ?_
  refine lv_iconst (v := 1) hx hb dL_law_871 (by decide) ?_
  refine lv_iadd hx hb dL_law_872 ?_
  refine z_i (v := (nI (i + 1))) (by exact nI_add _ 1) ?_
  refine va_sld hx hb hX hbl hbA hS (vp_in_nI (n := (i + 1)) (N := L) (by omega) (by omega)) dL_law_873 ?_
  refine lv_aload_n hx hb dL_law_874 rfl (lv_at hl 3 rfl) ?_
  refine lv_iload_n hx hb dL_law_875 rfl (lv_at hl 0 rfl) ?_
  refine lv_iconst (v := 2) hx hb dL_law_876 (by decide) ?_
  refine lv_iadd hx hb dL_law_877 ?_
  refine z_i (v := (nI (i + 2))) (by exact nI_add _ 2) ?_
  refine va_sld hx hb hX hbl hbA hS (vp_in_nI (n := (i + 2)) (N := L) (by omega) (by omega)) dL_law_878 ?_
  refine lv_aload_n hx hb dL_law_879 rfl (lv_at hl 3 rfl) ?_
  refine lv_iload_n hx hb dL_law_880 rfl (lv_at hl 0 rfl) ?_
  refine lv_iconst (v := 3) hx hb dL_law_881 (by decide) ?_
  refine lv_iadd hx hb dL_law_882 ?_
  refine z_i (v := (nI (i + 3))) (by exact nI_add _ 3) ?_
  refine va_sld hx hb hX hbl hbA hS (vp_in_nI (n := (i + 3)) (N := L) (by omega) (by omega)) dL_law_883 ?_
  refine lv_aload_n hx hb dL_law_884 rfl (lv_at hl 3 rfl) ?_
  refine lv_iload_n hx hb dL_law_885 rfl (lv_at hl 0 rfl) ?_
  refine lv_iconst (v := 4) hx hb dL_law_886 (by decide) ?_
  refine lv_iadd hx hb dL_law_887 ?_
  refine z_i (v := (nI (i + 4))) (by exact nI_add _ 4) ?_
  refine va_sld hx hb hX hbl hbA hS (vp_in_nI (n := (i + 4)) (N := L) (by omega) (by omega)) dL_law_888 ?_
  refine law_V (mj := 271) (n := 4) (q0 := 97) (ci := 12) (As := [.int (xs (nI (i + 1)).toNatClampNeg), .int (xs (nI (i + 2)).toNatClampNeg), .int (xs (nI (i + 3)).toNatClampNeg), .int (xs (nI (i + 4)).toNatClampNeg)]) (rest := []) caV_SignalTableLaw_109 hx hb hml hown hts rfl (k7m_21 hJ) rfl rfl rfl rfl (by decide) hK hW hS hl.1 (Nat.le_of_ble_eq_true rfl) dL_law_889 (by decide) rfl (fun v σ H locs hq hW hS => ?_)
  obtain ⟨w2, rfl, hJ⟩ := hq
  refine W.eq (g2 := F0 m 892 ls [.int w2]) rfl ?_
  refine lv_pop hx hb dL_law_892 rfl ?_
  refine lv_goto (tgt := 1492) hx hb dL_law_893 (by decide) ?_
  exact fin _ _ _ _ _ hJ hW hS (lv_sub hl [0, 1, 2, 3] rfl)
set_option maxHeartbeats 4000000 in
set_option maxRecDepth 100000 in
theorem lc_22 {p : Program} {l : Launch} {e : Env} {s : State} {m : MethodId} {below : List Frame} {meth : Method} {c : Code} {θ : Th} {b L i : Nat} {xs : Nat → Int32} {H : Heap} {locs : List Loc} {ls : Array Slot} {σ : Sg} {t : Int} {Q0 : State → Prop} (hx : p.tables.exec = Jvm.exec) (hb : c.code = code) (hml : c.maxLocals = 4) (hown : s.vm.findClass "SignalTableLaw" = some m.cls) (hts : ∀ w ∈ lwg, w.before #[Value.ref b] s = true) (hX : va_X b L xs s s.heap) (hbl : b < s.heap.size) (hL : L ≤ 384) (hK : va_K θ.1 vwCl (tysW θ) s) (hi : i + 6 ≤ L) (hW : Hw θ (fun a : Nat => s.heap.size ≤ a) σ H) (hJ : J7 t σ) (hS : va_S (fun a : Nat => s.heap.size ≤ a) s.heap H locs) (hl : lv_has ls 4 [(3, .int (nI i)), (2, .ref (θ.2.1 97)), (1, .ref (θ.2.1 0)), (0, .ref b)])
    (fin : ∀ (t : Int) (σ : Sg) (H : Heap) (locs : List Loc) (ls : Array Slot), J7 t σ → Hw θ (fun a : Nat => s.heap.size ≤ a) σ H → va_S (fun a : Nat => s.heap.size ≤ a) s.heap H locs → lv_has ls 4 [(3, .int (nI i)), (2, .ref (θ.2.1 97)), (1, .ref (θ.2.1 0)), (0, .ref b)] → W p l e room_1 s m #[Value.ref b] below meth c H locs 158 353581 Q0 (F0 m 1492 ls [])) : W p l e room_1 s m #[Value.ref b] below meth c H locs 158 353581 Q0 (F0 m 896 ls []) := by
  have hbA : ¬ (fun a : Nat => s.heap.size ≤ a) b := Nat.not_le.mpr hbl
  refine lv_aload_n hx hb dL_law_896 rfl (lv_at hl 2 rfl) ?_
  refine lv_aload_n hx hb dL_law_897 rfl (lv_at hl 3 rfl) ?_
  refine lv_iload_n hx hb dL_law_898 rfl (lv_at hl 0 rfl) ?_
  refine lv_iconst (v := 1) hx hb dL_law_899 (by decide) ?_
  refine lv_iadd hx hb dL_law_900 ?_
  refine z_i (v := (nI (i + 1))) (by exact nI_add _ 1) ?_
  refine va_sld hx hb hX hbl hbA hS (vp_in_nI (n := (i + 1)) (N := L) (by omega) (by omega)) dL_law_901 ?_
  refine law_V (mj := 142) (n := 1) (q0 := 0) (ci := 11) (As := [.int (xs (nI (i + 1)).toNatClampNeg)]) (rest := []) caV_SignalTableLaw_110 hx hb hml hown hts rfl (k7x_22 hJ) rfl rfl rfl rfl (by decide) hK hW hS hl.1 (Nat.le_of_ble_eq_true rfl) dL_law_902 (by decide) rfl (fun v σ H locs hq hW hS => ?_)
  obtain ⟨w1, rfl, hJ⟩ := hq
  refine W.eq (g2 := F0 m 905 ls [.int w1]) rfl ?_
  refine lv_pop hx hb dL_law_905 rfl ?_
  refine lv_aload_n hx hb dL_law_906 rfl (lv_at hl 1 rfl) ?_
  refine lv_aload_n hx hb dL_law_907 rfl (lv_at hl 3 rfl) ?_
  refine lv_iload_n hx hb dL_law_908 rfl (lv_at hl 0 rfl) ?_
  refine lv_iconst (v := 1) hx hb dL_law_909 (by decide) ?_
  refine lv_iadd hx hb dL_law_910 ?_
  refine z_i (v := (nI (i + 1))) (by exact nI_add _ 1) ?_
  refine va_sld hx hb hX hbl hbA hS (vp_in_nI (n := (i + 1)) (N := L) (by omega) (by omega)) dL_law_911 ?_
  refine law_V (mj := 247) (n := 1) (q0 := 97) (ci := 12) (As := [.int (xs (nI (i + 1)).toNatClampNeg)]) (rest := []) caV_SignalTableLaw_113 hx hb hml hown hts rfl (k7m_22 hJ) rfl rfl rfl rfl (by decide) hK hW hS hl.1 (Nat.le_of_ble_eq_true rfl) dL_law_912 (by decide) rfl (fun v σ H locs hq hW hS => ?_)
  obtain ⟨w2, rfl, ew, hJ⟩ := hq
  subst ew
  refine W.eq (g2 := F0 m 915 ls [.int w1]) rfl ?_
  refine lv_pop hx hb dL_law_915 rfl ?_
  refine lv_goto (tgt := 1492) hx hb dL_law_916 (by decide) ?_
  exact fin _ _ _ _ _ hJ hW hS (lv_sub hl [0, 1, 2, 3] rfl)
set_option maxHeartbeats 4000000 in
set_option maxRecDepth 100000 in
theorem lc_23 {p : Program} {l : Launch} {e : Env} {s : State} {m : MethodId} {below : List Frame} {meth : Method} {c : Code} {θ : Th} {b L i : Nat} {xs : Nat → Int32} {H : Heap} {locs : List Loc} {ls : Array Slot} {σ : Sg} {t : Int} {Q0 : State → Prop} (hx : p.tables.exec = Jvm.exec) (hb : c.code = code) (hml : c.maxLocals = 4) (hown : s.vm.findClass "SignalTableLaw" = some m.cls) (hts : ∀ w ∈ lwg, w.before #[Value.ref b] s = true) (hX : va_X b L xs s s.heap) (hbl : b < s.heap.size) (hL : L ≤ 384) (hK : va_K θ.1 vwCl (tysW θ) s) (hi : i + 6 ≤ L) (hW : Hw θ (fun a : Nat => s.heap.size ≤ a) σ H) (hJ : J7 t σ) (hS : va_S (fun a : Nat => s.heap.size ≤ a) s.heap H locs) (hl : lv_has ls 4 [(3, .int (nI i)), (2, .ref (θ.2.1 97)), (1, .ref (θ.2.1 0)), (0, .ref b)])
    (fin : ∀ (t : Int) (σ : Sg) (H : Heap) (locs : List Loc) (ls : Array Slot), J7 t σ → Hw θ (fun a : Nat => s.heap.size ≤ a) σ H → va_S (fun a : Nat => s.heap.size ≤ a) s.heap H locs → lv_has ls 4 [(3, .int (nI i)), (2, .ref (θ.2.1 97)), (1, .ref (θ.2.1 0)), (0, .ref b)] → W p l e room_1 s m #[Value.ref b] below meth c H locs 158 353581 Q0 (F0 m 1492 ls [])) : W p l e room_1 s m #[Value.ref b] below meth c H locs 158 353581 Q0 (F0 m 919 ls []) := by
  have hbA : ¬ (fun a : Nat => s.heap.size ≤ a) b := Nat.not_le.mpr hbl
  refine lv_aload_n hx hb dL_law_919 rfl (lv_at hl 2 rfl) ?_
  refine law_V (mj := 152) (n := 0) (q0 := 0) (ci := 11) (As := []) (rest := []) caV_SignalTableLaw_114 hx hb hml hown hts rfl (k7x_23 hJ) rfl rfl rfl rfl (by decide) hK hW hS hl.1 (Nat.le_of_ble_eq_true rfl) dL_law_920 (by decide) rfl (fun v σ H locs hq hW hS => ?_)
  obtain ⟨w1, rfl, hJ⟩ := hq
  refine W.eq (g2 := F0 m 923 ls [.int w1]) rfl ?_
  refine lv_pop hx hb dL_law_923 rfl ?_
  refine lv_aload_n hx hb dL_law_924 rfl (lv_at hl 1 rfl) ?_
  refine law_V (mj := 284) (n := 0) (q0 := 97) (ci := 12) (As := []) (rest := []) caV_SignalTableLaw_117 hx hb hml hown hts rfl (k7m_23 hJ) rfl rfl rfl rfl (by decide) hK hW hS hl.1 (Nat.le_of_ble_eq_true rfl) dL_law_925 (by decide) rfl (fun v σ H locs hq hW hS => ?_)
  obtain ⟨w2, rfl, hJ⟩ := hq
  refine W.eq (g2 := F0 m 928 ls [.int w2]) rfl ?_
  refine lv_pop hx hb dL_law_928 rfl ?_
  refine lv_goto (tgt := 1492) hx hb dL_law_929 (by decide) ?_
  exact fin _ _ _ _ _ hJ hW hS (lv_sub hl [0, 1, 2, 3] rfl)
set_option maxHeartbeats 4000000 in
set_option maxRecDepth 100000 in
theorem lc_24 {p : Program} {l : Launch} {e : Env} {s : State} {m : MethodId} {below : List Frame} {meth : Method} {c : Code} {θ : Th} {b L i : Nat} {xs : Nat → Int32} {H : Heap} {locs : List Loc} {ls : Array Slot} {σ : Sg} {t : Int} {Q0 : State → Prop} (hx : p.tables.exec = Jvm.exec) (hb : c.code = code) (hml : c.maxLocals = 4) (hown : s.vm.findClass "SignalTableLaw" = some m.cls) (hts : ∀ w ∈ lwg, w.before #[Value.ref b] s = true) (hX : va_X b L xs s s.heap) (hbl : b < s.heap.size) (hL : L ≤ 384) (hK : va_K θ.1 vwCl (tysW θ) s) (hi : i + 6 ≤ L) (hW : Hw θ (fun a : Nat => s.heap.size ≤ a) σ H) (hJ : J7 t σ) (hS : va_S (fun a : Nat => s.heap.size ≤ a) s.heap H locs) (hl : lv_has ls 4 [(3, .int (nI i)), (2, .ref (θ.2.1 97)), (1, .ref (θ.2.1 0)), (0, .ref b)])
    (fin : ∀ (t : Int) (σ : Sg) (H : Heap) (locs : List Loc) (ls : Array Slot), J7 t σ → Hw θ (fun a : Nat => s.heap.size ≤ a) σ H → va_S (fun a : Nat => s.heap.size ≤ a) s.heap H locs → lv_has ls 4 [(3, .int (nI i)), (2, .ref (θ.2.1 97)), (1, .ref (θ.2.1 0)), (0, .ref b)] → W p l e room_1 s m #[Value.ref b] below meth c H locs 158 353581 Q0 (F0 m 1492 ls [])) : W p l e room_1 s m #[Value.ref b] below meth c H locs 158 353581 Q0 (F0 m 932 ls []) := by
  have hbA : ¬ (fun a : Nat => s.heap.size ≤ a) b := Nat.not_le.mpr hbl
  refine lv_aload_n hx hb dL_law_932 rfl (lv_at hl 2 rfl) ?_
  refine lv_aload_n hx hb dL_law_933 rfl (lv_at hl 3 rfl) ?_
  refine lv_iload_n hx hb dL_law_934 rfl (lv_at hl 0 rfl) ?_
  refine lv_iconst (v := 1) hx hb dL_law_935 (by decide) ?_
  refine lv_iadd hx hb dL_law_936 ?_
  refine z_i (v := (nI (i + 1))) (by exact nI_add _ 1) ?_
  refine va_sld hx hb hX hbl hbA hS (vp_in_nI (n := (i + 1)) (N := L) (by omega) (by omega)) dL_law_937 ?_
  refine law_V (mj := 153) (n := 1) (q0 := 0) (ci := 11) (As := [.int (xs (nI (i + 1)).toNatClampNeg)]) (rest := []) caV_SignalTableLaw_118 hx hb hml hown hts rfl (k7x_24 hJ) rfl rfl rfl rfl (by decide) hK hW hS hl.1 (Nat.le_of_ble_eq_true rfl) dL_law_938 (by decide) rfl (fun v σ H locs hq hW hS => ?_)
  obtain ⟨w1, rfl, hJ⟩ := hq
  refine W.eq (g2 := F0 m 941 ls [.int w1]) rfl ?_
  refine lv_pop hx hb dL_law_941 rfl ?_
  refine lv_aload_n hx hb dL_law_942 rfl (lv_at hl 1 rfl) ?_
  refine lv_aload_n hx hb dL_law_943 rfl (lv_at hl 3 rfl) ?_
  refine lv_iload_n hx hb dL_law_944 rfl (lv_at hl 0 rfl) ?_
  refine lv_iconst (v := 1) hx hb dL_law_945 (by decide) ?_
  refine lv_iadd hx hb dL_law_946 ?_
  refine z_i (v := (nI (i + 1))) (by exact nI_add _ 1) ?_
  refine va_sld hx hb hX hbl hbA hS (vp_in_nI (n := (i + 1)) (N := L) (by omega) (by omega)) dL_law_947 ?_
  refine law_V (mj := 286) (n := 1) (q0 := 97) (ci := 12) (As := [.int (xs (nI (i + 1)).toNatClampNeg)]) (rest := []) caV_SignalTableLaw_121 hx hb hml hown hts rfl (k7m_24 hJ) rfl rfl rfl rfl (by decide) hK hW hS hl.1 (Nat.le_of_ble_eq_true rfl) dL_law_948 (by decide) rfl (fun v σ H locs hq hW hS => ?_)
  obtain ⟨w2, rfl, hJ⟩ := hq
  refine W.eq (g2 := F0 m 951 ls [.int w2]) rfl ?_
  refine lv_pop hx hb dL_law_951 rfl ?_
  refine lv_goto (tgt := 1492) hx hb dL_law_952 (by decide) ?_
  exact fin _ _ _ _ _ hJ hW hS (lv_sub hl [0, 1, 2, 3] rfl)
set_option maxHeartbeats 4000000 in
set_option maxRecDepth 100000 in
theorem lc_25 {p : Program} {l : Launch} {e : Env} {s : State} {m : MethodId} {below : List Frame} {meth : Method} {c : Code} {θ : Th} {b L i : Nat} {xs : Nat → Int32} {H : Heap} {locs : List Loc} {ls : Array Slot} {σ : Sg} {t : Int} {Q0 : State → Prop} (hx : p.tables.exec = Jvm.exec) (hb : c.code = code) (hml : c.maxLocals = 4) (hown : s.vm.findClass "SignalTableLaw" = some m.cls) (hts : ∀ w ∈ lwg, w.before #[Value.ref b] s = true) (hX : va_X b L xs s s.heap) (hbl : b < s.heap.size) (hL : L ≤ 384) (hK : va_K θ.1 vwCl (tysW θ) s) (hi : i + 6 ≤ L) (hW : Hw θ (fun a : Nat => s.heap.size ≤ a) σ H) (hJ : J7 t σ) (hS : va_S (fun a : Nat => s.heap.size ≤ a) s.heap H locs) (hl : lv_has ls 4 [(3, .int (nI i)), (2, .ref (θ.2.1 97)), (1, .ref (θ.2.1 0)), (0, .ref b)])
    (fin : ∀ (t : Int) (σ : Sg) (H : Heap) (locs : List Loc) (ls : Array Slot), J7 t σ → Hw θ (fun a : Nat => s.heap.size ≤ a) σ H → va_S (fun a : Nat => s.heap.size ≤ a) s.heap H locs → lv_has ls 4 [(3, .int (nI i)), (2, .ref (θ.2.1 97)), (1, .ref (θ.2.1 0)), (0, .ref b)] → W p l e room_1 s m #[Value.ref b] below meth c H locs 158 353581 Q0 (F0 m 1492 ls [])) : W p l e room_1 s m #[Value.ref b] below meth c H locs 158 353581 Q0 (F0 m 955 ls []) := by
  have hbA : ¬ (fun a : Nat => s.heap.size ≤ a) b := Nat.not_le.mpr hbl
  refine lv_aload_n hx hb dL_law_955 rfl (lv_at hl 2 rfl) ?_
  refine lv_aload_n hx hb dL_law_956 rfl (lv_at hl 3 rfl) ?_
  refine lv_iload_n hx hb dL_law_957 rfl (lv_at hl 0 rfl) ?_
  refine lv_iconst (v := 1) hx hb dL_law_958 (by decide) ?_
  refine lv_iadd hx hb dL_law_959 ?_
  refine z_i (v := (nI (i + 1))) (by exact nI_add _ 1) ?_
  refine va_sld hx hb hX hbl hbA hS (vp_in_nI (n := (i + 1)) (N := L) (by omega) (by omega)) dL_law_960 ?_
  refine lv_aload_n hx hb dL_law_961 rfl (lv_at hl 3 rfl) ?_
  refine lv_iload_n hx hb dL_law_962 rfl (lv_at hl 0 rfl) ?_
  refine lv_iconst (v := 2) hx hb dL_law_963 (by decide) ?_
  refine lv_iadd hx hb dL_law_964 ?_
  refine z_i (v := (nI (i + 2))) (by exact nI_add _ 2) ?_
  refine va_sld hx hb hX hbl hbA hS (vp_in_nI (n := (i + 2)) (N := L) (by omega) (by omega)) dL_law_965 ?_
  refine law_V (mj := 156) (n := 2) (q0 := 0) (ci := 11) (As := [.int (xs (nI (i + 1)).toNatClampNeg), .int (xs (nI (i + 2)).toNatClampNeg)]) (rest := []) caV_SignalTableLaw_122 hx hb hml hown hts rfl (k7x_25 hJ) rfl rfl rfl rfl (by decide) hK hW hS hl.1 (Nat.le_of_ble_eq_true rfl) dL_law_966 (by decide) rfl (fun v σ H locs hq hW hS => ?_)
  obtain ⟨w1, rfl, hJ⟩ := hq
  refine W.eq (g2 := F0 m 969 ls [.long w1]) rfl ?_
  refine lv_pop2_2 hx hb dL_law_969 rfl ?_
  refine lv_aload_n hx hb dL_law_970 rfl (lv_at hl 1 rfl) ?_
  refine lv_aload_n hx hb dL_law_971 rfl (lv_at hl 3 rfl) ?_
  refine lv_iload_n hx hb dL_law_972 rfl (lv_at hl 0 rfl) ?_
  refine lv_iconst (v := 1) hx hb dL_law_973 (by decide) ?_
  refine lv_iadd hx hb dL_law_974 ?_
  refine z_i (v := (nI (i + 1))) (by exact nI_add _ 1) ?_
  refine va_sld hx hb hX hbl hbA hS (vp_in_nI (n := (i + 1)) (N := L) (by omega) (by omega)) dL_law_975 ?_
  refine lv_aload_n hx hb dL_law_976 rfl (lv_at hl 3 rfl) ?_
  refine lv_iload_n hx hb dL_law_977 rfl (lv_at hl 0 rfl) ?_
  refine lv_iconst (v := 2) hx hb dL_law_978 (by decide) ?_
  refine lv_iadd hx hb dL_law_979 ?_
  refine z_i (v := (nI (i + 2))) (by exact nI_add _ 2) ?_
  refine va_sld hx hb hX hbl hbA hS (vp_in_nI (n := (i + 2)) (N := L) (by omega) (by omega)) dL_law_980 ?_
  refine law_V (mj := 292) (n := 2) (q0 := 97) (ci := 12) (As := [.int (xs (nI (i + 1)).toNatClampNeg), .int (xs (nI (i + 2)).toNatClampNeg)]) (rest := []) caV_SignalTableLaw_126 hx hb hml hown hts rfl (k7m_25 hJ) rfl rfl rfl rfl (by decide) hK hW hS hl.1 (Nat.le_of_ble_eq_true rfl) dL_law_981 (by decide) rfl (fun v σ H locs hq hW hS => ?_)
  obtain ⟨w2, rfl, hJ⟩ := hq
  refine W.eq (g2 := F0 m 984 ls [.long w2]) rfl ?_
  refine lv_pop2_2 hx hb dL_law_984 rfl ?_
  refine lv_goto (tgt := 1492) hx hb dL_law_985 (by decide) ?_
  exact fin _ _ _ _ _ hJ hW hS (lv_sub hl [0, 1, 2, 3] rfl)
set_option maxHeartbeats 4000000 in
set_option maxRecDepth 100000 in
theorem lc_26 {p : Program} {l : Launch} {e : Env} {s : State} {m : MethodId} {below : List Frame} {meth : Method} {c : Code} {θ : Th} {b L i : Nat} {xs : Nat → Int32} {H : Heap} {locs : List Loc} {ls : Array Slot} {σ : Sg} {t : Int} {Q0 : State → Prop} (hx : p.tables.exec = Jvm.exec) (hb : c.code = code) (hml : c.maxLocals = 4) (hown : s.vm.findClass "SignalTableLaw" = some m.cls) (hts : ∀ w ∈ lwg, w.before #[Value.ref b] s = true) (hX : va_X b L xs s s.heap) (hbl : b < s.heap.size) (hL : L ≤ 384) (hK : va_K θ.1 vwCl (tysW θ) s) (hi : i + 6 ≤ L) (hW : Hw θ (fun a : Nat => s.heap.size ≤ a) σ H) (hJ : J7 t σ) (hS : va_S (fun a : Nat => s.heap.size ≤ a) s.heap H locs) (hl : lv_has ls 4 [(3, .int (nI i)), (2, .ref (θ.2.1 97)), (1, .ref (θ.2.1 0)), (0, .ref b)])
    (fin : ∀ (t : Int) (σ : Sg) (H : Heap) (locs : List Loc) (ls : Array Slot), J7 t σ → Hw θ (fun a : Nat => s.heap.size ≤ a) σ H → va_S (fun a : Nat => s.heap.size ≤ a) s.heap H locs → lv_has ls 4 [(3, .int (nI i)), (2, .ref (θ.2.1 97)), (1, .ref (θ.2.1 0)), (0, .ref b)] → W p l e room_1 s m #[Value.ref b] below meth c H locs 158 353581 Q0 (F0 m 1492 ls [])) : W p l e room_1 s m #[Value.ref b] below meth c H locs 158 353581 Q0 (F0 m 988 ls []) := by
  have hbA : ¬ (fun a : Nat => s.heap.size ≤ a) b := Nat.not_le.mpr hbl
  refine lv_aload_n hx hb dL_law_988 rfl (lv_at hl 2 rfl) ?_
  refine lv_aload_n hx hb dL_law_989 rfl (lv_at hl 3 rfl) ?_
  refine lv_iload_n hx hb dL_law_990 rfl (lv_at hl 0 rfl) ?_
  refine lv_iconst (v := 1) hx hb dL_law_991 (by decide) ?_
  refine lv_iadd hx hb dL_law_992 ?_
  refine z_i (v := (nI (i + 1))) (by exact nI_add _ 1) ?_
  refine va_sld hx hb hX hbl hbA hS (vp_in_nI (n := (i + 1)) (N := L) (by omega) (by omega)) dL_law_993 ?_
  refine law_V (mj := 157) (n := 1) (q0 := 0) (ci := 11) (As := [.int (xs (nI (i + 1)).toNatClampNeg)]) (rest := []) caV_SignalTableLaw_127 hx hb hml hown hts rfl (k7x_26 hJ) rfl rfl rfl rfl (by decide) hK hW hS hl.1 (Nat.le_of_ble_eq_true rfl) dL_law_994 (by decide) rfl (fun v σ H locs hq hW hS => ?_)
  obtain ⟨w1, rfl, hJ⟩ := hq
  refine W.eq (g2 := F0 m 997 ls [.int w1]) rfl ?_
  refine lv_pop hx hb dL_law_997 rfl ?_
  refine lv_aload_n hx hb dL_law_998 rfl (lv_at hl 1 rfl) ?_
  refine lv_aload_n hx hb dL_law_999 rfl (lv_at hl 3 rfl) ?_
  refine lv_iload_n hx hb dL_law_1000 rfl (lv_at hl 0 rfl) ?_
  refine lv_iconst (v := 1) hx hb dL_law_1001 (by decide) ?_
  refine lv_iadd hx hb dL_law_1002 ?_
  refine z_i (v := (nI (i + 1))) (by exact nI_add _ 1) ?_
  refine va_sld hx hb hX hbl hbA hS (vp_in_nI (n := (i + 1)) (N := L) (by omega) (by omega)) dL_law_1003 ?_
  refine law_V (mj := 294) (n := 1) (q0 := 97) (ci := 12) (As := [.int (xs (nI (i + 1)).toNatClampNeg)]) (rest := []) caV_SignalTableLaw_130 hx hb hml hown hts rfl (k7m_26 hJ) rfl rfl rfl rfl (by decide) hK hW hS hl.1 (Nat.le_of_ble_eq_true rfl) dL_law_1004 (by decide) rfl (fun v σ H locs hq hW hS => ?_)
  obtain ⟨w2, rfl, hJ⟩ := hq
  refine W.eq (g2 := F0 m 1007 ls [.int w2]) rfl ?_
  refine lv_pop hx hb dL_law_1007 rfl ?_
  refine lv_goto (tgt := 1492) hx hb dL_law_1008 (by decide) ?_
  exact fin _ _ _ _ _ hJ hW hS (lv_sub hl [0, 1, 2, 3] rfl)
set_option maxHeartbeats 4000000 in
set_option maxRecDepth 100000 in
theorem lc_27 {p : Program} {l : Launch} {e : Env} {s : State} {m : MethodId} {below : List Frame} {meth : Method} {c : Code} {θ : Th} {b L i : Nat} {xs : Nat → Int32} {H : Heap} {locs : List Loc} {ls : Array Slot} {σ : Sg} {t : Int} {Q0 : State → Prop} (hx : p.tables.exec = Jvm.exec) (hb : c.code = code) (hml : c.maxLocals = 4) (hown : s.vm.findClass "SignalTableLaw" = some m.cls) (hts : ∀ w ∈ lwg, w.before #[Value.ref b] s = true) (hX : va_X b L xs s s.heap) (hbl : b < s.heap.size) (hL : L ≤ 384) (hK : va_K θ.1 vwCl (tysW θ) s) (hi : i + 6 ≤ L) (hW : Hw θ (fun a : Nat => s.heap.size ≤ a) σ H) (hJ : J7 t σ) (hS : va_S (fun a : Nat => s.heap.size ≤ a) s.heap H locs) (hl : lv_has ls 4 [(3, .int (nI i)), (2, .ref (θ.2.1 97)), (1, .ref (θ.2.1 0)), (0, .ref b)])
    (fin : ∀ (t : Int) (σ : Sg) (H : Heap) (locs : List Loc) (ls : Array Slot), J7 t σ → Hw θ (fun a : Nat => s.heap.size ≤ a) σ H → va_S (fun a : Nat => s.heap.size ≤ a) s.heap H locs → lv_has ls 4 [(3, .int (nI i)), (2, .ref (θ.2.1 97)), (1, .ref (θ.2.1 0)), (0, .ref b)] → W p l e room_1 s m #[Value.ref b] below meth c H locs 158 353581 Q0 (F0 m 1492 ls [])) : W p l e room_1 s m #[Value.ref b] below meth c H locs 158 353581 Q0 (F0 m 1011 ls []) := by
  have hbA : ¬ (fun a : Nat => s.heap.size ≤ a) b := Nat.not_le.mpr hbl
  refine lv_aload_n hx hb dL_law_1011 rfl (lv_at hl 2 rfl) ?_
  refine lv_aload_n hx hb dL_law_1012 rfl (lv_at hl 3 rfl) ?_
  refine lv_iload_n hx hb dL_law_1013 rfl (lv_at hl 0 rfl) ?_
  refine lv_iconst (v := 1) hx hb dL_law_1014 (by decide) ?_
  refine lv_iadd hx hb dL_law_1015 ?_
  refine z_i (v := (nI (i + 1))) (by exact nI_add _ 1) ?_
  refine va_sld hx hb hX hbl hbA hS (vp_in_nI (n := (i + 1)) (N := L) (by omega) (by omega)) dL_law_1016 ?_
  refine lv_aload_n hx hb dL_law_1017 rfl (lv_at hl 3 rfl) ?_
  refine lv_iload_n hx hb dL_law_1018 rfl (lv_at hl 0 rfl) ?_
  refine lv_iconst (v := 2) hx hb dL_law_1019 (by decide) ?_
  refine lv_iadd hx hb dL_law_1020 ?_
  refine z_i (v := (nI (i + 2))) (by exact nI_add _ 2) ?_
  refine va_sld hx hb hX hbl hbA hS (vp_in_nI (n := (i + 2)) (N := L) (by omega) (by omega)) dL_law_1021 ?_
  refine lv_aload_n hx hb dL_law_1022 rfl (lv_at hl 3 rfl) ?_
  refine lv_iload_n hx hb dL_law_1023 rfl (lv_at hl 0 rfl) ?_
  refine lv_iconst (v := 3) hx hb dL_law_1024 (by decide) ?_
  refine lv_iadd hx hb dL_law_1025 ?_
  refine z_i (v := (nI (i + 3))) (by exact nI_add _ 3) ?_
  refine va_sld hx hb hX hbl hbA hS (vp_in_nI (n := (i + 3)) (N := L) (by omega) (by omega)) dL_law_1026 ?_
  refine law_V (mj := 158) (n := 3) (q0 := 0) (ci := 11) (As := [.int (xs (nI (i + 1)).toNatClampNeg), .int (xs (nI (i + 2)).toNatClampNeg), .int (xs (nI (i + 3)).toNatClampNeg)]) (rest := []) caV_SignalTableLaw_131 hx hb hml hown hts rfl (k7x_27 hJ) rfl rfl rfl rfl (by decide) hK hW hS hl.1 (Nat.le_of_ble_eq_true rfl) dL_law_1027 (by decide) rfl (fun v σ H locs hq hW hS => ?_)
  obtain ⟨w1, rfl, hJ⟩ := hq
  refine W.eq (g2 := F0 m 1030 ls [.int w1]) rfl ?_
  refine lv_pop hx hb dL_law_1030 rfl ?_
  refine lv_aload_n hx hb dL_law_1031 rfl (lv_at hl 1 rfl) ?_
  refine lv_aload_n hx hb dL_law_1032 rfl (lv_at hl 3 rfl) ?_
  refine lv_iload_n hx hb dL_law_1033 rfl (lv_at hl 0 rfl) ?_
  refine lv_iconst (v := 1) hx hb dL_law_1034 (by decide) ?_
  refine lv_iadd hx hb dL_law_1035 ?_
  refine z_i (v := (nI (i + 1))) (by exact nI_add _ 1) ?_
  refine va_sld hx hb hX hbl hbA hS (vp_in_nI (n := (i + 1)) (N := L) (by omega) (by omega)) dL_law_1036 ?_
  refine lv_aload_n hx hb dL_law_1037 rfl (lv_at hl 3 rfl) ?_
  refine lv_iload_n hx hb dL_law_1038 rfl (lv_at hl 0 rfl) ?_
  refine lv_iconst (v := 2) hx hb dL_law_1039 (by decide) ?_
  refine lv_iadd hx hb dL_law_1040 ?_
  refine z_i (v := (nI (i + 2))) (by exact nI_add _ 2) ?_
  refine va_sld hx hb hX hbl hbA hS (vp_in_nI (n := (i + 2)) (N := L) (by omega) (by omega)) dL_law_1041 ?_
  refine lv_aload_n hx hb dL_law_1042 rfl (lv_at hl 3 rfl) ?_
  refine lv_iload_n hx hb dL_law_1043 rfl (lv_at hl 0 rfl) ?_
  refine lv_iconst (v := 3) hx hb dL_law_1044 (by decide) ?_
  refine lv_iadd hx hb dL_law_1045 ?_
  refine z_i (v := (nI (i + 3))) (by exact nI_add _ 3) ?_
  refine va_sld hx hb hX hbl hbA hS (vp_in_nI (n := (i + 3)) (N := L) (by omega) (by omega)) dL_law_1046 ?_
  refine law_V (mj := 295) (n := 3) (q0 := 97) (ci := 12) (As := [.int (xs (nI (i + 1)).toNatClampNeg), .int (xs (nI (i + 2)).toNatClampNeg), .int (xs (nI (i + 3)).toNatClampNeg)]) (rest := []) caV_SignalTableLaw_134 hx hb hml hown hts rfl (k7m_27 hJ) rfl rfl rfl rfl (by decide) hK hW hS hl.1 (Nat.le_of_ble_eq_true rfl) dL_law_1047 (by decide) rfl (fun v σ H locs hq hW hS => ?_)
  obtain ⟨w2, rfl, hJ⟩ := hq
  refine W.eq (g2 := F0 m 1050 ls [.int w2]) rfl ?_
  refine lv_pop hx hb dL_law_1050 rfl ?_
  refine lv_goto (tgt := 1492) hx hb dL_law_1051 (by decide) ?_
  exact fin _ _ _ _ _ hJ hW hS (lv_sub hl [0, 1, 2, 3] rfl)
set_option maxHeartbeats 4000000 in
set_option maxRecDepth 100000 in
theorem lc_28 {p : Program} {l : Launch} {e : Env} {s : State} {m : MethodId} {below : List Frame} {meth : Method} {c : Code} {θ : Th} {b L i : Nat} {xs : Nat → Int32} {H : Heap} {locs : List Loc} {ls : Array Slot} {σ : Sg} {t : Int} {Q0 : State → Prop} (hx : p.tables.exec = Jvm.exec) (hb : c.code = code) (hml : c.maxLocals = 4) (hown : s.vm.findClass "SignalTableLaw" = some m.cls) (hts : ∀ w ∈ lwg, w.before #[Value.ref b] s = true) (hX : va_X b L xs s s.heap) (hbl : b < s.heap.size) (hL : L ≤ 384) (hK : va_K θ.1 vwCl (tysW θ) s) (hi : i + 6 ≤ L) (hW : Hw θ (fun a : Nat => s.heap.size ≤ a) σ H) (hJ : J7 t σ) (hS : va_S (fun a : Nat => s.heap.size ≤ a) s.heap H locs) (hl : lv_has ls 4 [(3, .int (nI i)), (2, .ref (θ.2.1 97)), (1, .ref (θ.2.1 0)), (0, .ref b)])
    (fin : ∀ (t : Int) (σ : Sg) (H : Heap) (locs : List Loc) (ls : Array Slot), J7 t σ → Hw θ (fun a : Nat => s.heap.size ≤ a) σ H → va_S (fun a : Nat => s.heap.size ≤ a) s.heap H locs → lv_has ls 4 [(3, .int (nI i)), (2, .ref (θ.2.1 97)), (1, .ref (θ.2.1 0)), (0, .ref b)] → W p l e room_1 s m #[Value.ref b] below meth c H locs 158 353581 Q0 (F0 m 1492 ls [])) : W p l e room_1 s m #[Value.ref b] below meth c H locs 158 353581 Q0 (F0 m 1054 ls []) := by
  have hbA : ¬ (fun a : Nat => s.heap.size ≤ a) b := Nat.not_le.mpr hbl
  refine lv_aload_n hx hb dL_law_1054 rfl (lv_at hl 2 rfl) ?_
  refine lv_aload_n hx hb dL_law_1055 rfl (lv_at hl 3 rfl) ?_
  refine lv_iload_n hx hb dL_law_1056 rfl (lv_at hl 0 rfl) ?_
  refine lv_iconst (v := 1) hx hb dL_law_1057 (by decide) ?_
  refine lv_iadd hx hb dL_law_1058 ?_
  refine z_i (v := (nI (i + 1))) (by exact nI_add _ 1) ?_
  refine va_sld hx hb hX hbl hbA hS (vp_in_nI (n := (i + 1)) (N := L) (by omega) (by omega)) dL_law_1059 ?_
  refine lv_aload_n hx hb dL_law_1060 rfl (lv_at hl 3 rfl) ?_
  refine lv_iload_n hx hb dL_law_1061 rfl (lv_at hl 0 rfl) ?_
  refine lv_iconst (v := 2) hx hb dL_law_1062 (by decide) ?_
  refine lv_iadd hx hb dL_law_1063 ?_
  refine z_i (v := (nI (i + 2))) (by exact nI_add _ 2) ?_
  refine va_sld hx hb hX hbl hbA hS (vp_in_nI (n := (i + 2)) (N := L) (by omega) (by omega)) dL_law_1064 ?_
  refine law_V (mj := 159) (n := 2) (q0 := 0) (ci := 11) (As := [.int (xs (nI (i + 1)).toNatClampNeg), .int (xs (nI (i + 2)).toNatClampNeg)]) (rest := []) caV_SignalTableLaw_135 hx hb hml hown hts rfl (k7x_28 hJ) rfl rfl rfl rfl (by decide) hK hW hS hl.1 (Nat.le_of_ble_eq_true rfl) dL_law_1065 (by decide) rfl (fun v σ H locs hq hW hS => ?_)
  obtain ⟨w1, rfl, hJ⟩ := hq
  refine W.eq (g2 := F0 m 1068 ls [.int w1]) rfl ?_
  refine lv_pop hx hb dL_law_1068 rfl ?_
  refine lv_aload_n hx hb dL_law_1069 rfl (lv_at hl 1 rfl) ?_
  refine lv_aload_n hx hb dL_law_1070 rfl (lv_at hl 3 rfl) ?_
  refine lv_iload_n hx hb dL_law_1071 rfl (lv_at hl 0 rfl) ?_
  refine lv_iconst (v := 1) hx hb dL_law_1072 (by decide) ?_
  refine lv_iadd hx hb dL_law_1073 ?_
  refine z_i (v := (nI (i + 1))) (by exact nI_add _ 1) ?_
  refine va_sld hx hb hX hbl hbA hS (vp_in_nI (n := (i + 1)) (N := L) (by omega) (by omega)) dL_law_1074 ?_
  refine lv_aload_n hx hb dL_law_1075 rfl (lv_at hl 3 rfl) ?_
  refine lv_iload_n hx hb dL_law_1076 rfl (lv_at hl 0 rfl) ?_
  refine lv_iconst (v := 2) hx hb dL_law_1077 (by decide) ?_
  refine lv_iadd hx hb dL_law_1078 ?_
  refine z_i (v := (nI (i + 2))) (by exact nI_add _ 2) ?_
  refine va_sld hx hb hX hbl hbA hS (vp_in_nI (n := (i + 2)) (N := L) (by omega) (by omega)) dL_law_1079 ?_
  refine law_V (mj := 296) (n := 2) (q0 := 97) (ci := 12) (As := [.int (xs (nI (i + 1)).toNatClampNeg), .int (xs (nI (i + 2)).toNatClampNeg)]) (rest := []) caV_SignalTableLaw_138 hx hb hml hown hts rfl (k7m_28 hJ) rfl rfl rfl rfl (by decide) hK hW hS hl.1 (Nat.le_of_ble_eq_true rfl) dL_law_1080 (by decide) rfl (fun v σ H locs hq hW hS => ?_)
  obtain ⟨w2, rfl, hJ⟩ := hq
  refine W.eq (g2 := F0 m 1083 ls [.int w2]) rfl ?_
  refine lv_pop hx hb dL_law_1083 rfl ?_
  refine lv_goto (tgt := 1492) hx hb dL_law_1084 (by decide) ?_
  exact fin _ _ _ _ _ hJ hW hS (lv_sub hl [0, 1, 2, 3] rfl)
set_option maxHeartbeats 4000000 in
set_option maxRecDepth 100000 in
theorem lc_29 {p : Program} {l : Launch} {e : Env} {s : State} {m : MethodId} {below : List Frame} {meth : Method} {c : Code} {θ : Th} {b L i : Nat} {xs : Nat → Int32} {H : Heap} {locs : List Loc} {ls : Array Slot} {σ : Sg} {t : Int} {Q0 : State → Prop} (hx : p.tables.exec = Jvm.exec) (hb : c.code = code) (hml : c.maxLocals = 4) (hown : s.vm.findClass "SignalTableLaw" = some m.cls) (hts : ∀ w ∈ lwg, w.before #[Value.ref b] s = true) (hX : va_X b L xs s s.heap) (hbl : b < s.heap.size) (hL : L ≤ 384) (hK : va_K θ.1 vwCl (tysW θ) s) (hi : i + 6 ≤ L) (hW : Hw θ (fun a : Nat => s.heap.size ≤ a) σ H) (hJ : J7 t σ) (hS : va_S (fun a : Nat => s.heap.size ≤ a) s.heap H locs) (hl : lv_has ls 4 [(3, .int (nI i)), (2, .ref (θ.2.1 97)), (1, .ref (θ.2.1 0)), (0, .ref b)])
    (fin : ∀ (t : Int) (σ : Sg) (H : Heap) (locs : List Loc) (ls : Array Slot), J7 t σ → Hw θ (fun a : Nat => s.heap.size ≤ a) σ H → va_S (fun a : Nat => s.heap.size ≤ a) s.heap H locs → lv_has ls 4 [(3, .int (nI i)), (2, .ref (θ.2.1 97)), (1, .ref (θ.2.1 0)), (0, .ref b)] → W p l e room_1 s m #[Value.ref b] below meth c H locs 158 353581 Q0 (F0 m 1492 ls [])) : W p l e room_1 s m #[Value.ref b] below meth c H locs 158 353581 Q0 (F0 m 1087 ls []) := by
  have hbA : ¬ (fun a : Nat => s.heap.size ≤ a) b := Nat.not_le.mpr hbl
  refine lv_aload_n hx hb dL_law_1087 rfl (lv_at hl 2 rfl) ?_
  refine lv_aload_n hx hb dL_law_1088 rfl (lv_at hl 3 rfl) ?_
  refine lv_iload_n hx hb dL_law_1089 rfl (lv_at hl 0 rfl) ?_
  refine lv_iconst (v := 1) hx hb dL_law_1090 (by decide) ?_
  refine lv_iadd hx hb dL_law_1091 ?_
  refine z_i (v := (nI (i + 1))) (by exact nI_add _ 1) ?_
  refine va_sld hx hb hX hbl hbA hS (vp_in_nI (n := (i + 1)) (N := L) (by omega) (by omega)) dL_law_1092 ?_
  refine law_V (mj := 160) (n := 1) (q0 := 0) (ci := 11) (As := [.int (xs (nI (i + 1)).toNatClampNeg)]) (rest := []) caV_SignalTableLaw_139 hx hb hml hown hts rfl (k7x_29 hJ) rfl rfl rfl rfl (by decide) hK hW hS hl.1 (Nat.le_of_ble_eq_true rfl) dL_law_1093 (by decide) rfl (fun v σ H locs hq hW hS => ?_)
  obtain ⟨w1, rfl, hJ⟩ := hq
  refine W.eq (g2 := F0 m 1096 ls [.int w1]) rfl ?_
  refine lv_pop hx hb dL_law_1096 rfl ?_
  refine lv_aload_n hx hb dL_law_1097 rfl (lv_at hl 1 rfl) ?_
  refine lv_aload_n hx hb dL_law_1098 rfl (lv_at hl 3 rfl) ?_
  refine lv_iload_n hx hb dL_law_1099 rfl (lv_at hl 0 rfl) ?_
  refine lv_iconst (v := 1) hx hb dL_law_1100 (by decide) ?_
  refine lv_iadd hx hb dL_law_1101 ?_
  refine z_i (v := (nI (i + 1))) (by exact nI_add _ 1) ?_
  refine va_sld hx hb hX hbl hbA hS (vp_in_nI (n := (i + 1)) (N := L) (by omega) (by omega)) dL_law_1102 ?_
  refine law_V (mj := 298) (n := 1) (q0 := 97) (ci := 12) (As := [.int (xs (nI (i + 1)).toNatClampNeg)]) (rest := []) caV_SignalTableLaw_142 hx hb hml hown hts rfl (k7m_29 hJ) rfl rfl rfl rfl (by decide) hK hW hS hl.1 (Nat.le_of_ble_eq_true rfl) dL_law_1103 (by decide) rfl (fun v σ H locs hq hW hS => ?_)
  obtain ⟨w2, rfl, hJ⟩ := hq
  refine W.eq (g2 := F0 m 1106 ls [.int w2]) rfl ?_
  refine lv_pop hx hb dL_law_1106 rfl ?_
  refine lv_goto (tgt := 1492) hx hb dL_law_1107 (by decide) ?_
  exact fin _ _ _ _ _ hJ hW hS (lv_sub hl [0, 1, 2, 3] rfl)
set_option maxHeartbeats 4000000 in
set_option maxRecDepth 100000 in
theorem lc_30 {p : Program} {l : Launch} {e : Env} {s : State} {m : MethodId} {below : List Frame} {meth : Method} {c : Code} {θ : Th} {b L i : Nat} {xs : Nat → Int32} {H : Heap} {locs : List Loc} {ls : Array Slot} {σ : Sg} {t : Int} {Q0 : State → Prop} (hx : p.tables.exec = Jvm.exec) (hb : c.code = code) (hml : c.maxLocals = 4) (hown : s.vm.findClass "SignalTableLaw" = some m.cls) (hts : ∀ w ∈ lwg, w.before #[Value.ref b] s = true) (hX : va_X b L xs s s.heap) (hbl : b < s.heap.size) (hL : L ≤ 384) (hK : va_K θ.1 vwCl (tysW θ) s) (hi : i + 6 ≤ L) (hW : Hw θ (fun a : Nat => s.heap.size ≤ a) σ H) (hJ : J7 t σ) (hS : va_S (fun a : Nat => s.heap.size ≤ a) s.heap H locs) (hl : lv_has ls 4 [(3, .int (nI i)), (2, .ref (θ.2.1 97)), (1, .ref (θ.2.1 0)), (0, .ref b)])
    (fin : ∀ (t : Int) (σ : Sg) (H : Heap) (locs : List Loc) (ls : Array Slot), J7 t σ → Hw θ (fun a : Nat => s.heap.size ≤ a) σ H → va_S (fun a : Nat => s.heap.size ≤ a) s.heap H locs → lv_has ls 4 [(3, .int (nI i)), (2, .ref (θ.2.1 97)), (1, .ref (θ.2.1 0)), (0, .ref b)] → W p l e room_1 s m #[Value.ref b] below meth c H locs 158 353581 Q0 (F0 m 1492 ls [])) : W p l e room_1 s m #[Value.ref b] below meth c H locs 158 353581 Q0 (F0 m 1110 ls []) := by
  have hbA : ¬ (fun a : Nat => s.heap.size ≤ a) b := Nat.not_le.mpr hbl
  refine lv_aload_n hx hb dL_law_1110 rfl (lv_at hl 2 rfl) ?_
  refine lv_aload_n hx hb dL_law_1111 rfl (lv_at hl 3 rfl) ?_
  refine lv_iload_n hx hb dL_law_1112 rfl (lv_at hl 0 rfl) ?_
  refine lv_iconst (v := 1) hx hb dL_law_1113 (by decide) ?_
  refine lv_iadd hx hb dL_law_1114 ?_
  refine z_i (v := (nI (i + 1))) (by exact nI_add _ 1) ?_
  refine va_sld hx hb hX hbl hbA hS (vp_in_nI (n := (i + 1)) (N := L) (by omega) (by omega)) dL_law_1115 ?_
  refine law_V (mj := 161) (n := 1) (q0 := 0) (ci := 11) (As := [.int (xs (nI (i + 1)).toNatClampNeg)]) (rest := []) caV_SignalTableLaw_143 hx hb hml hown hts rfl (k7x_30 hJ) rfl rfl rfl rfl (by decide) hK hW hS hl.1 (Nat.le_of_ble_eq_true rfl) dL_law_1116 (by decide) rfl (fun v σ H locs hq hW hS => ?_)
  obtain ⟨w1, rfl, hJ⟩ := hq
  refine W.eq (g2 := F0 m 1119 ls [.int w1]) rfl ?_
  refine lv_pop hx hb dL_law_1119 rfl ?_
  refine lv_aload_n hx hb dL_law_1120 rfl (lv_at hl 1 rfl) ?_
  refine lv_aload_n hx hb dL_law_1121 rfl (lv_at hl 3 rfl) ?_
  refine lv_iload_n hx hb dL_law_1122 rfl (lv_at hl 0 rfl) ?_
  refine lv_iconst (v := 1) hx hb dL_law_1123 (by decide) ?_
  refine lv_iadd hx hb dL_law_1124 ?_
  refine z_i (v := (nI (i + 1))) (by exact nI_add _ 1) ?_
  refine va_sld hx hb hX hbl hbA hS (vp_in_nI (n := (i + 1)) (N := L) (by omega) (by omega)) dL_law_1125 ?_
  refine law_V (mj := 299) (n := 1) (q0 := 97) (ci := 12) (As := [.int (xs (nI (i + 1)).toNatClampNeg)]) (rest := []) caV_SignalTableLaw_146 hx hb hml hown hts rfl (k7m_30 hJ) rfl rfl rfl rfl (by decide) hK hW hS hl.1 (Nat.le_of_ble_eq_true rfl) dL_law_1126 (by decide) rfl (fun v σ H locs hq hW hS => ?_)
  obtain ⟨w2, rfl, hJ⟩ := hq
  refine W.eq (g2 := F0 m 1129 ls [.int w2]) rfl ?_
  refine lv_pop hx hb dL_law_1129 rfl ?_
  refine lv_goto (tgt := 1492) hx hb dL_law_1130 (by decide) ?_
  exact fin _ _ _ _ _ hJ hW hS (lv_sub hl [0, 1, 2, 3] rfl)
set_option maxHeartbeats 4000000 in
set_option maxRecDepth 100000 in
theorem lc_31 {p : Program} {l : Launch} {e : Env} {s : State} {m : MethodId} {below : List Frame} {meth : Method} {c : Code} {θ : Th} {b L i : Nat} {xs : Nat → Int32} {H : Heap} {locs : List Loc} {ls : Array Slot} {σ : Sg} {t : Int} {Q0 : State → Prop} (hx : p.tables.exec = Jvm.exec) (hb : c.code = code) (hml : c.maxLocals = 4) (hown : s.vm.findClass "SignalTableLaw" = some m.cls) (hts : ∀ w ∈ lwg, w.before #[Value.ref b] s = true) (hX : va_X b L xs s s.heap) (hbl : b < s.heap.size) (hL : L ≤ 384) (hK : va_K θ.1 vwCl (tysW θ) s) (hi : i + 6 ≤ L) (hW : Hw θ (fun a : Nat => s.heap.size ≤ a) σ H) (hJ : J7 t σ) (hS : va_S (fun a : Nat => s.heap.size ≤ a) s.heap H locs) (hl : lv_has ls 4 [(3, .int (nI i)), (2, .ref (θ.2.1 97)), (1, .ref (θ.2.1 0)), (0, .ref b)])
    (fin : ∀ (t : Int) (σ : Sg) (H : Heap) (locs : List Loc) (ls : Array Slot), J7 t σ → Hw θ (fun a : Nat => s.heap.size ≤ a) σ H → va_S (fun a : Nat => s.heap.size ≤ a) s.heap H locs → lv_has ls 4 [(3, .int (nI i)), (2, .ref (θ.2.1 97)), (1, .ref (θ.2.1 0)), (0, .ref b)] → W p l e room_1 s m #[Value.ref b] below meth c H locs 158 353581 Q0 (F0 m 1492 ls [])) : W p l e room_1 s m #[Value.ref b] below meth c H locs 158 353581 Q0 (F0 m 1133 ls []) := by
  have hbA : ¬ (fun a : Nat => s.heap.size ≤ a) b := Nat.not_le.mpr hbl
  refine lv_aload_n hx hb dL_law_1133 rfl (lv_at hl 2 rfl) ?_
  refine lv_aload_n hx hb dL_law_1134 rfl (lv_at hl 3 rfl) ?_
  refine lv_iload_n hx hb dL_law_1135 rfl (lv_at hl 0 rfl) ?_
  refine lv_iconst (v := 1) hx hb dL_law_1136 (by decide) ?_
  refine lv_iadd hx hb dL_law_1137 ?_
  refine z_i (v := (nI (i + 1))) (by exact nI_add _ 1) ?_
  refine va_sld hx hb hX hbl hbA hS (vp_in_nI (n := (i + 1)) (N := L) (by omega) (by omega)) dL_law_1138 ?_
  refine law_V (mj := 162) (n := 1) (q0 := 0) (ci := 11) (As := [.int (xs (nI (i + 1)).toNatClampNeg)]) (rest := []) caV_SignalTableLaw_147 hx hb hml hown hts rfl (k7x_31 hJ) rfl rfl rfl rfl (by decide) hK hW hS hl.1 (Nat.le_of_ble_eq_true rfl) dL_law_1139 (by decide) rfl (fun v σ H locs hq hW hS => ?_)
  obtain ⟨w1, rfl, hJ⟩ := hq
  refine W.eq (g2 := F0 m 1142 ls [.int w1]) rfl ?_
  refine lv_pop hx hb dL_law_1142 rfl ?_
  refine lv_aload_n hx hb dL_law_1143 rfl (lv_at hl 1 rfl) ?_
  refine lv_aload_n hx hb dL_law_1144 rfl (lv_at hl 3 rfl) ?_
  refine lv_iload_n hx hb dL_law_1145 rfl (lv_at hl 0 rfl) ?_
  refine lv_iconst (v := 1) hx hb dL_law_1146 (by decide) ?_
  refine lv_iadd hx hb dL_law_1147 ?_
  refine z_i (v := (nI (i + 1))) (by exact nI_add _ 1) ?_
  refine va_sld hx hb hX hbl hbA hS (vp_in_nI (n := (i + 1)) (N := L) (by omega) (by omega)) dL_law_1148 ?_
  refine law_V (mj := 301) (n := 1) (q0 := 97) (ci := 12) (As := [.int (xs (nI (i + 1)).toNatClampNeg)]) (rest := []) caV_SignalTableLaw_150 hx hb hml hown hts rfl (k7m_31 hJ) rfl rfl rfl rfl (by decide) hK hW hS hl.1 (Nat.le_of_ble_eq_true rfl) dL_law_1149 (by decide) rfl (fun v σ H locs hq hW hS => ?_)
  obtain ⟨w2, rfl, hJ⟩ := hq
  refine W.eq (g2 := F0 m 1152 ls [.int w2]) rfl ?_
  refine lv_pop hx hb dL_law_1152 rfl ?_
  refine lv_goto (tgt := 1492) hx hb dL_law_1153 (by decide) ?_
  exact fin _ _ _ _ _ hJ hW hS (lv_sub hl [0, 1, 2, 3] rfl)
set_option maxHeartbeats 4000000 in
set_option maxRecDepth 100000 in
theorem lc_32 {p : Program} {l : Launch} {e : Env} {s : State} {m : MethodId} {below : List Frame} {meth : Method} {c : Code} {θ : Th} {b L i : Nat} {xs : Nat → Int32} {H : Heap} {locs : List Loc} {ls : Array Slot} {σ : Sg} {t : Int} {Q0 : State → Prop} (hx : p.tables.exec = Jvm.exec) (hb : c.code = code) (hml : c.maxLocals = 4) (hown : s.vm.findClass "SignalTableLaw" = some m.cls) (hts : ∀ w ∈ lwg, w.before #[Value.ref b] s = true) (hX : va_X b L xs s s.heap) (hbl : b < s.heap.size) (hL : L ≤ 384) (hK : va_K θ.1 vwCl (tysW θ) s) (hi : i + 6 ≤ L) (hW : Hw θ (fun a : Nat => s.heap.size ≤ a) σ H) (hJ : J7 t σ) (hS : va_S (fun a : Nat => s.heap.size ≤ a) s.heap H locs) (hl : lv_has ls 4 [(3, .int (nI i)), (2, .ref (θ.2.1 97)), (1, .ref (θ.2.1 0)), (0, .ref b)])
    (fin : ∀ (t : Int) (σ : Sg) (H : Heap) (locs : List Loc) (ls : Array Slot), J7 t σ → Hw θ (fun a : Nat => s.heap.size ≤ a) σ H → va_S (fun a : Nat => s.heap.size ≤ a) s.heap H locs → lv_has ls 4 [(3, .int (nI i)), (2, .ref (θ.2.1 97)), (1, .ref (θ.2.1 0)), (0, .ref b)] → W p l e room_1 s m #[Value.ref b] below meth c H locs 158 353581 Q0 (F0 m 1492 ls [])) : W p l e room_1 s m #[Value.ref b] below meth c H locs 158 353581 Q0 (F0 m 1156 ls []) := by
  have hbA : ¬ (fun a : Nat => s.heap.size ≤ a) b := Nat.not_le.mpr hbl
  refine lv_aload_n hx hb dL_law_1156 rfl (lv_at hl 2 rfl) ?_
  refine lv_aload_n hx hb dL_law_1157 rfl (lv_at hl 3 rfl) ?_
  refine lv_iload_n hx hb dL_law_1158 rfl (lv_at hl 0 rfl) ?_
  refine lv_iconst (v := 1) hx hb dL_law_1159 (by decide) ?_
  refine lv_iadd hx hb dL_law_1160 ?_
  refine z_i (v := (nI (i + 1))) (by exact nI_add _ 1) ?_
  refine va_sld hx hb hX hbl hbA hS (vp_in_nI (n := (i + 1)) (N := L) (by omega) (by omega)) dL_law_1161 ?_
  refine law_V (mj := 163) (n := 1) (q0 := 0) (ci := 11) (As := [.int (xs (nI (i + 1)).toNatClampNeg)]) (rest := []) caV_SignalTableLaw_151 hx hb hml hown hts rfl (k7x_32 hJ) rfl rfl rfl rfl (by decide) hK hW hS hl.1 (Nat.le_of_ble_eq_true rfl) dL_law_1162 (by decide) rfl (fun v σ H locs hq hW hS => ?_)
  obtain ⟨w1, rfl, hJ⟩ := hq
  refine W.eq (g2 := F0 m 1165 ls [.long w1]) rfl ?_
  refine lv_pop2_2 hx hb dL_law_1165 rfl ?_
  refine lv_aload_n hx hb dL_law_1166 rfl (lv_at hl 1 rfl) ?_
  refine lv_aload_n hx hb dL_law_1167 rfl (lv_at hl 3 rfl) ?_
  refine lv_iload_n hx hb dL_law_1168 rfl (lv_at hl 0 rfl) ?_
  refine lv_iconst (v := 1) hx hb dL_law_1169 (by decide) ?_
  refine lv_iadd hx hb dL_law_1170 ?_
  refine z_i (v := (nI (i + 1))) (by exact nI_add _ 1) ?_
  refine va_sld hx hb hX hbl hbA hS (vp_in_nI (n := (i + 1)) (N := L) (by omega) (by omega)) dL_law_1171 ?_
  refine law_V (mj := 302) (n := 1) (q0 := 97) (ci := 12) (As := [.int (xs (nI (i + 1)).toNatClampNeg)]) (rest := []) caV_SignalTableLaw_155 hx hb hml hown hts rfl (k7m_32 hJ) rfl rfl rfl rfl (by decide) hK hW hS hl.1 (Nat.le_of_ble_eq_true rfl) dL_law_1172 (by decide) rfl (fun v σ H locs hq hW hS => ?_)
  obtain ⟨w2, rfl, hJ⟩ := hq
  refine W.eq (g2 := F0 m 1175 ls [.long w2]) rfl ?_
  refine lv_pop2_2 hx hb dL_law_1175 rfl ?_
  refine lv_goto (tgt := 1492) hx hb dL_law_1176 (by decide) ?_
  exact fin _ _ _ _ _ hJ hW hS (lv_sub hl [0, 1, 2, 3] rfl)
set_option maxHeartbeats 4000000 in
set_option maxRecDepth 100000 in
theorem lc_33 {p : Program} {l : Launch} {e : Env} {s : State} {m : MethodId} {below : List Frame} {meth : Method} {c : Code} {θ : Th} {b L i : Nat} {xs : Nat → Int32} {H : Heap} {locs : List Loc} {ls : Array Slot} {σ : Sg} {t : Int} {Q0 : State → Prop} (hx : p.tables.exec = Jvm.exec) (hb : c.code = code) (hml : c.maxLocals = 4) (hown : s.vm.findClass "SignalTableLaw" = some m.cls) (hts : ∀ w ∈ lwg, w.before #[Value.ref b] s = true) (hX : va_X b L xs s s.heap) (hbl : b < s.heap.size) (hL : L ≤ 384) (hK : va_K θ.1 vwCl (tysW θ) s) (hi : i + 6 ≤ L) (hW : Hw θ (fun a : Nat => s.heap.size ≤ a) σ H) (hJ : J7 t σ) (hS : va_S (fun a : Nat => s.heap.size ≤ a) s.heap H locs) (hl : lv_has ls 4 [(3, .int (nI i)), (2, .ref (θ.2.1 97)), (1, .ref (θ.2.1 0)), (0, .ref b)])
    (fin : ∀ (t : Int) (σ : Sg) (H : Heap) (locs : List Loc) (ls : Array Slot), J7 t σ → Hw θ (fun a : Nat => s.heap.size ≤ a) σ H → va_S (fun a : Nat => s.heap.size ≤ a) s.heap H locs → lv_has ls 4 [(3, .int (nI i)), (2, .ref (θ.2.1 97)), (1, .ref (θ.2.1 0)), (0, .ref b)] → W p l e room_1 s m #[Value.ref b] below meth c H locs 158 353581 Q0 (F0 m 1492 ls [])) : W p l e room_1 s m #[Value.ref b] below meth c H locs 158 353581 Q0 (F0 m 1179 ls []) := by
  have hbA : ¬ (fun a : Nat => s.heap.size ≤ a) b := Nat.not_le.mpr hbl
  refine lv_aload_n hx hb dL_law_1179 rfl (lv_at hl 2 rfl) ?_
  refine lv_aload_n hx hb dL_law_1180 rfl (lv_at hl 3 rfl) ?_
  refine lv_iload_n hx hb dL_law_1181 rfl (lv_at hl 0 rfl) ?_
  refine lv_iconst (v := 1) hx hb dL_law_1182 (by decide) ?_
  refine lv_iadd hx hb dL_law_1183 ?_
  refine z_i (v := (nI (i + 1))) (by exact nI_add _ 1) ?_
  refine va_sld hx hb hX hbl hbA hS (vp_in_nI (n := (i + 1)) (N := L) (by omega) (by omega)) dL_law_1184 ?_
  refine lv_aload_n hx hb dL_law_1185 rfl (lv_at hl 3 rfl) ?_
  refine lv_iload_n hx hb dL_law_1186 rfl (lv_at hl 0 rfl) ?_
  refine lv_iconst (v := 2) hx hb dL_law_1187 (by decide) ?_
  refine lv_iadd hx hb dL_law_1188 ?_
  refine z_i (v := (nI (i + 2))) (by exact nI_add _ 2) ?_
  refine va_sld hx hb hX hbl hbA hS (vp_in_nI (n := (i + 2)) (N := L) (by omega) (by omega)) dL_law_1189 ?_
  refine lv_aload_n hx hb dL_law_1190 rfl (lv_at hl 3 rfl) ?_
  refine lv_iload_n hx hb dL_law_1191 rfl (lv_at hl 0 rfl) ?_
  refine lv_iconst (v := 3) hx hb dL_law_1192 (by decide) ?_
  refine lv_iadd hx hb dL_law_1193 ?_
  refine z_i (v := (nI (i + 3))) (by exact nI_add _ 3) ?_
  refine va_sld hx hb hX hbl hbA hS (vp_in_nI (n := (i + 3)) (N := L) (by omega) (by omega)) dL_law_1194 ?_
  refine law_V (mj := 165) (n := 3) (q0 := 0) (ci := 11) (As := [.int (xs (nI (i + 1)).toNatClampNeg), .int (xs (nI (i + 2)).toNatClampNeg), .int (xs (nI (i + 3)).toNatClampNeg)]) (rest := []) caV_SignalTableLaw_156 hx hb hml hown hts rfl (k7x_33 hJ) rfl rfl rfl rfl (by decide) hK hW hS hl.1 (Nat.le_of_ble_eq_true rfl) dL_law_1195 (by decide) rfl (fun v σ H locs hq hW hS => ?_)
  obtain ⟨w1, rfl, hJ⟩ := hq
  refine W.eq (g2 := F0 m 1198 ls [.int w1]) rfl ?_
  refine lv_pop hx hb dL_law_1198 rfl ?_
  refine lv_aload_n hx hb dL_law_1199 rfl (lv_at hl 1 rfl) ?_
  refine lv_aload_n hx hb dL_law_1200 rfl (lv_at hl 3 rfl) ?_
  refine lv_iload_n hx hb dL_law_1201 rfl (lv_at hl 0 rfl) ?_
  refine lv_iconst (v := 1) hx hb dL_law_1202 (by decide) ?_
  refine lv_iadd hx hb dL_law_1203 ?_
  refine z_i (v := (nI (i + 1))) (by exact nI_add _ 1) ?_
  refine va_sld hx hb hX hbl hbA hS (vp_in_nI (n := (i + 1)) (N := L) (by omega) (by omega)) dL_law_1204 ?_
  refine lv_aload_n hx hb dL_law_1205 rfl (lv_at hl 3 rfl) ?_
  refine lv_iload_n hx hb dL_law_1206 rfl (lv_at hl 0 rfl) ?_
  refine lv_iconst (v := 2) hx hb dL_law_1207 (by decide) ?_
  refine lv_iadd hx hb dL_law_1208 ?_
  refine z_i (v := (nI (i + 2))) (by exact nI_add _ 2) ?_
  refine va_sld hx hb hX hbl hbA hS (vp_in_nI (n := (i + 2)) (N := L) (by omega) (by omega)) dL_law_1209 ?_
  refine lv_aload_n hx hb dL_law_1210 rfl (lv_at hl 3 rfl) ?_
  refine lv_iload_n hx hb dL_law_1211 rfl (lv_at hl 0 rfl) ?_
  refine lv_iconst (v := 3) hx hb dL_law_1212 (by decide) ?_
  refine lv_iadd hx hb dL_law_1213 ?_
  refine z_i (v := (nI (i + 3))) (by exact nI_add _ 3) ?_
  refine va_sld hx hb hX hbl hbA hS (vp_in_nI (n := (i + 3)) (N := L) (by omega) (by omega)) dL_law_1214 ?_
  refine law_V (mj := 308) (n := 3) (q0 := 97) (ci := 12) (As := [.int (xs (nI (i + 1)).toNatClampNeg), .int (xs (nI (i + 2)).toNatClampNeg), .int (xs (nI (i + 3)).toNatClampNeg)]) (rest := []) caV_SignalTableLaw_159 hx hb hml hown hts rfl (k7m_33 hJ) rfl rfl rfl rfl (by decide) hK hW hS hl.1 (Nat.le_of_ble_eq_true rfl) dL_law_1215 (by decide) rfl (fun v σ H locs hq hW hS => ?_)
  obtain ⟨w2, rfl, hJ⟩ := hq
  refine W.eq (g2 := F0 m 1218 ls [.int w2]) rfl ?_
  refine lv_pop hx hb dL_law_1218 rfl ?_
  refine lv_goto (tgt := 1492) hx hb dL_law_1219 (by decide) ?_
  exact fin _ _ _ _ _ hJ hW hS (lv_sub hl [0, 1, 2, 3] rfl)
set_option maxHeartbeats 4000000 in
set_option maxRecDepth 100000 in
theorem lc_34 {p : Program} {l : Launch} {e : Env} {s : State} {m : MethodId} {below : List Frame} {meth : Method} {c : Code} {θ : Th} {b L i : Nat} {xs : Nat → Int32} {H : Heap} {locs : List Loc} {ls : Array Slot} {σ : Sg} {t : Int} {Q0 : State → Prop} (hx : p.tables.exec = Jvm.exec) (hb : c.code = code) (hml : c.maxLocals = 4) (hown : s.vm.findClass "SignalTableLaw" = some m.cls) (hts : ∀ w ∈ lwg, w.before #[Value.ref b] s = true) (hX : va_X b L xs s s.heap) (hbl : b < s.heap.size) (hL : L ≤ 384) (hK : va_K θ.1 vwCl (tysW θ) s) (hi : i + 6 ≤ L) (hW : Hw θ (fun a : Nat => s.heap.size ≤ a) σ H) (hJ : J7 t σ) (hS : va_S (fun a : Nat => s.heap.size ≤ a) s.heap H locs) (hl : lv_has ls 4 [(3, .int (nI i)), (2, .ref (θ.2.1 97)), (1, .ref (θ.2.1 0)), (0, .ref b)])
    (fin : ∀ (t : Int) (σ : Sg) (H : Heap) (locs : List Loc) (ls : Array Slot), J7 t σ → Hw θ (fun a : Nat => s.heap.size ≤ a) σ H → va_S (fun a : Nat => s.heap.size ≤ a) s.heap H locs → lv_has ls 4 [(3, .int (nI i)), (2, .ref (θ.2.1 97)), (1, .ref (θ.2.1 0)), (0, .ref b)] → W p l e room_1 s m #[Value.ref b] below meth c H locs 158 353581 Q0 (F0 m 1492 ls [])) : W p l e room_1 s m #[Value.ref b] below meth c H locs 158 353581 Q0 (F0 m 1222 ls []) := by
  have hbA : ¬ (fun a : Nat => s.heap.size ≤ a) b := Nat.not_le.mpr hbl
  refine lv_aload_n hx hb dL_law_1222 rfl (lv_at hl 2 rfl) ?_
  refine lv_aload_n hx hb dL_law_1223 rfl (lv_at hl 3 rfl) ?_
  refine lv_iload_n hx hb dL_law_1224 rfl (lv_at hl 0 rfl) ?_
  refine lv_iconst (v := 1) hx hb dL_law_1225 (by decide) ?_
  refine lv_iadd hx hb dL_law_1226 ?_
  refine z_i (v := (nI (i + 1))) (by exact nI_add _ 1) ?_
  refine va_sld hx hb hX hbl hbA hS (vp_in_nI (n := (i + 1)) (N := L) (by omega) (by omega)) dL_law_1227 ?_
  refine lv_aload_n hx hb dL_law_1228 rfl (lv_at hl 3 rfl) ?_
  refine lv_iload_n hx hb dL_law_1229 rfl (lv_at hl 0 rfl) ?_
  refine lv_iconst (v := 2) hx hb dL_law_1230 (by decide) ?_
  refine lv_iadd hx hb dL_law_1231 ?_
  refine z_i (v := (nI (i + 2))) (by exact nI_add _ 2) ?_
  refine va_sld hx hb hX hbl hbA hS (vp_in_nI (n := (i + 2)) (N := L) (by omega) (by omega)) dL_law_1232 ?_
  refine lv_aload_n hx hb dL_law_1233 rfl (lv_at hl 3 rfl) ?_
  refine lv_iload_n hx hb dL_law_1234 rfl (lv_at hl 0 rfl) ?_
  refine lv_iconst (v := 3) hx hb dL_law_1235 (by decide) ?_
  refine lv_iadd hx hb dL_law_1236 ?_
  refine z_i (v := (nI (i + 3))) (by exact nI_add _ 3) ?_
  refine va_sld hx hb hX hbl hbA hS (vp_in_nI (n := (i + 3)) (N := L) (by omega) (by omega)) dL_law_1237 ?_
  refine law_V (mj := 166) (n := 3) (q0 := 0) (ci := 11) (As := [.int (xs (nI (i + 1)).toNatClampNeg), .int (xs (nI (i + 2)).toNatClampNeg), .int (xs (nI (i + 3)).toNatClampNeg)]) (rest := []) caV_SignalTableLaw_160 hx hb hml hown hts rfl (k7x_34 hJ) rfl rfl rfl rfl (by decide) hK hW hS hl.1 (Nat.le_of_ble_eq_true rfl) dL_law_1238 (by decide) rfl (fun v σ H locs hq hW hS => ?_)
  obtain ⟨w1, rfl, hJ⟩ := hq
  refine W.eq (g2 := F0 m 1241 ls [.int w1]) rfl ?_
  refine lv_pop hx hb dL_law_1241 rfl ?_
  refine lv_aload_n hx hb dL_law_1242 rfl (lv_at hl 1 rfl) ?_
  refine lv_aload_n hx hb dL_law_1243 rfl (lv_at hl 3 rfl) ?_
  refine lv_iload_n hx hb dL_law_1244 rfl (lv_at hl 0 rfl) ?_
  refine lv_iconst (v := 1) hx hb dL_law_1245 (by decide) ?_
  refine lv_iadd hx hb dL_law_1246 ?_
  refine z_i (v := (nI (i + 1))) (by exact nI_add _ 1) ?_
  refine va_sld hx hb hX hbl hbA hS (vp_in_nI (n := (i + 1)) (N := L) (by omega) (by omega)) dL_law_1247 ?_
  refine lv_aload_n hx hb dL_law_1248 rfl (lv_at hl 3 rfl) ?_
  refine lv_iload_n hx hb dL_law_1249 rfl (lv_at hl 0 rfl) ?_
  refine lv_iconst (v := 2) hx hb dL_law_1250 (by decide) ?_
  refine lv_iadd hx hb dL_law_1251 ?_
  refine z_i (v := (nI (i + 2))) (by exact nI_add _ 2) ?_
  refine va_sld hx hb hX hbl hbA hS (vp_in_nI (n := (i + 2)) (N := L) (by omega) (by omega)) dL_law_1252 ?_
  refine lv_aload_n hx hb dL_law_1253 rfl (lv_at hl 3 rfl) ?_
  refine lv_iload_n hx hb dL_law_1254 rfl (lv_at hl 0 rfl) ?_
  refine lv_iconst (v := 3) hx hb dL_law_1255 (by decide) ?_
  refine lv_iadd hx hb dL_law_1256 ?_
  refine z_i (v := (nI (i + 3))) (by exact nI_add _ 3) ?_
  refine va_sld hx hb hX hbl hbA hS (vp_in_nI (n := (i + 3)) (N := L) (by omega) (by omega)) dL_law_1257 ?_
  refine law_V (mj := 309) (n := 3) (q0 := 97) (ci := 12) (As := [.int (xs (nI (i + 1)).toNatClampNeg), .int (xs (nI (i + 2)).toNatClampNeg), .int (xs (nI (i + 3)).toNatClampNeg)]) (rest := []) caV_SignalTableLaw_163 hx hb hml hown hts rfl (k7m_34 hJ) rfl rfl rfl rfl (by decide) hK hW hS hl.1 (Nat.le_of_ble_eq_true rfl) dL_law_1258 (by decide) rfl (fun v σ H locs hq hW hS => ?_)
  obtain ⟨w2, rfl, hJ⟩ := hq
  refine W.eq (g2 := F0 m 1261 ls [.int w2]) rfl ?_
  refine lv_pop hx hb dL_law_1261 rfl ?_
  refine lv_goto (tgt := 1492) hx hb dL_law_1262 (by decide) ?_
  exact fin _ _ _ _ _ hJ hW hS (lv_sub hl [0, 1, 2, 3] rfl)
set_option maxHeartbeats 4000000 in
set_option maxRecDepth 100000 in
theorem lc_35 {p : Program} {l : Launch} {e : Env} {s : State} {m : MethodId} {below : List Frame} {meth : Method} {c : Code} {θ : Th} {b L i : Nat} {xs : Nat → Int32} {H : Heap} {locs : List Loc} {ls : Array Slot} {σ : Sg} {t : Int} {Q0 : State → Prop} (hx : p.tables.exec = Jvm.exec) (hb : c.code = code) (hml : c.maxLocals = 4) (hown : s.vm.findClass "SignalTableLaw" = some m.cls) (hts : ∀ w ∈ lwg, w.before #[Value.ref b] s = true) (hX : va_X b L xs s s.heap) (hbl : b < s.heap.size) (hL : L ≤ 384) (hK : va_K θ.1 vwCl (tysW θ) s) (hi : i + 6 ≤ L) (hW : Hw θ (fun a : Nat => s.heap.size ≤ a) σ H) (hJ : J7 t σ) (hS : va_S (fun a : Nat => s.heap.size ≤ a) s.heap H locs) (hl : lv_has ls 4 [(3, .int (nI i)), (2, .ref (θ.2.1 97)), (1, .ref (θ.2.1 0)), (0, .ref b)])
    (fin : ∀ (t : Int) (σ : Sg) (H : Heap) (locs : List Loc) (ls : Array Slot), J7 t σ → Hw θ (fun a : Nat => s.heap.size ≤ a) σ H → va_S (fun a : Nat => s.heap.size ≤ a) s.heap H locs → lv_has ls 4 [(3, .int (nI i)), (2, .ref (θ.2.1 97)), (1, .ref (θ.2.1 0)), (0, .ref b)] → W p l e room_1 s m #[Value.ref b] below meth c H locs 158 353581 Q0 (F0 m 1492 ls [])) : W p l e room_1 s m #[Value.ref b] below meth c H locs 158 353581 Q0 (F0 m 1265 ls []) := by
  have hbA : ¬ (fun a : Nat => s.heap.size ≤ a) b := Nat.not_le.mpr hbl
  refine lv_aload_n hx hb dL_law_1265 rfl (lv_at hl 2 rfl) ?_
  refine law_V (mj := 167) (n := 0) (q0 := 0) (ci := 11) (As := []) (rest := []) caV_SignalTableLaw_164 hx hb hml hown hts rfl (k7x_35 hJ) rfl rfl rfl rfl (by decide) hK hW hS hl.1 (Nat.le_of_ble_eq_true rfl) dL_law_1266 (by decide) rfl (fun v σ H locs hq hW hS => ?_)
  obtain ⟨w1, rfl, hJ⟩ := hq
  refine W.eq (g2 := F0 m 1269 ls [.int w1]) rfl ?_
  refine lv_pop hx hb dL_law_1269 rfl ?_
  refine lv_aload_n hx hb dL_law_1270 rfl (lv_at hl 1 rfl) ?_
  refine law_V (mj := 310) (n := 0) (q0 := 97) (ci := 12) (As := []) (rest := []) caV_SignalTableLaw_167 hx hb hml hown hts rfl (k7m_35 hJ) rfl rfl rfl rfl (by decide) hK hW hS hl.1 (Nat.le_of_ble_eq_true rfl) dL_law_1271 (by decide) rfl (fun v σ H locs hq hW hS => ?_)
  obtain ⟨w2, rfl, ew, hJ⟩ := hq
  subst ew
  refine W.eq (g2 := F0 m 1274 ls [.int w1]) rfl ?_
  refine lv_pop hx hb dL_law_1274 rfl ?_
  refine lv_goto (tgt := 1492) hx hb dL_law_1275 (by decide) ?_
  exact fin _ _ _ _ _ hJ hW hS (lv_sub hl [0, 1, 2, 3] rfl)
set_option maxHeartbeats 4000000 in
set_option maxRecDepth 100000 in
theorem lc_36 {p : Program} {l : Launch} {e : Env} {s : State} {m : MethodId} {below : List Frame} {meth : Method} {c : Code} {θ : Th} {b L i : Nat} {xs : Nat → Int32} {H : Heap} {locs : List Loc} {ls : Array Slot} {σ : Sg} {t : Int} {Q0 : State → Prop} (hx : p.tables.exec = Jvm.exec) (hb : c.code = code) (hml : c.maxLocals = 4) (hown : s.vm.findClass "SignalTableLaw" = some m.cls) (hts : ∀ w ∈ lwg, w.before #[Value.ref b] s = true) (hX : va_X b L xs s s.heap) (hbl : b < s.heap.size) (hL : L ≤ 384) (hK : va_K θ.1 vwCl (tysW θ) s) (hi : i + 6 ≤ L) (hW : Hw θ (fun a : Nat => s.heap.size ≤ a) σ H) (hJ : J7 t σ) (hS : va_S (fun a : Nat => s.heap.size ≤ a) s.heap H locs) (hl : lv_has ls 4 [(3, .int (nI i)), (2, .ref (θ.2.1 97)), (1, .ref (θ.2.1 0)), (0, .ref b)])
    (fin : ∀ (t : Int) (σ : Sg) (H : Heap) (locs : List Loc) (ls : Array Slot), J7 t σ → Hw θ (fun a : Nat => s.heap.size ≤ a) σ H → va_S (fun a : Nat => s.heap.size ≤ a) s.heap H locs → lv_has ls 4 [(3, .int (nI i)), (2, .ref (θ.2.1 97)), (1, .ref (θ.2.1 0)), (0, .ref b)] → W p l e room_1 s m #[Value.ref b] below meth c H locs 158 353581 Q0 (F0 m 1492 ls [])) : W p l e room_1 s m #[Value.ref b] below meth c H locs 158 353581 Q0 (F0 m 1278 ls []) := by
  have hbA : ¬ (fun a : Nat => s.heap.size ≤ a) b := Nat.not_le.mpr hbl
  refine lv_aload_n hx hb dL_law_1278 rfl (lv_at hl 2 rfl) ?_
  refine lv_aload_n hx hb dL_law_1279 rfl (lv_at hl 3 rfl) ?_
  refine lv_iload_n hx hb dL_law_1280 rfl (lv_at hl 0 rfl) ?_
  refine lv_iconst (v := 1) hx hb dL_law_1281 (by decide) ?_
  refine lv_iadd hx hb dL_law_1282 ?_
  refine z_i (v := (nI (i + 1))) (by exact nI_add _ 1) ?_
  refine va_sld hx hb hX hbl hbA hS (vp_in_nI (n := (i + 1)) (N := L) (by omega) (by omega)) dL_law_1283 ?_
  refine law_V (mj := 168) (n := 1) (q0 := 0) (ci := 11) (As := [.int (xs (nI (i + 1)).toNatClampNeg)]) (rest := []) caV_SignalTableLaw_168 hx hb hml hown hts rfl (k7x_36 hJ) rfl rfl rfl rfl (by decide) hK hW hS hl.1 (Nat.le_of_ble_eq_true rfl) dL_law_1284 (by decide) rfl (fun v σ H locs hq hW hS => ?_)
  obtain ⟨w1, rfl, hJ⟩ := hq
  refine W.eq (g2 := F0 m 1287 ls [.int w1]) rfl ?_
  refine lv_pop hx hb dL_law_1287 rfl ?_
  refine lv_aload_n hx hb dL_law_1288 rfl (lv_at hl 1 rfl) ?_
  refine lv_aload_n hx hb dL_law_1289 rfl (lv_at hl 3 rfl) ?_
  refine lv_iload_n hx hb dL_law_1290 rfl (lv_at hl 0 rfl) ?_
  refine lv_iconst (v := 1) hx hb dL_law_1291 (by decide) ?_
  refine lv_iadd hx hb dL_law_1292 ?_
  refine z_i (v := (nI (i + 1))) (by exact nI_add _ 1) ?_
  refine va_sld hx hb hX hbl hbA hS (vp_in_nI (n := (i + 1)) (N := L) (by omega) (by omega)) dL_law_1293 ?_
  refine law_V (mj := 312) (n := 1) (q0 := 97) (ci := 12) (As := [.int (xs (nI (i + 1)).toNatClampNeg)]) (rest := []) caV_SignalTableLaw_171 hx hb hml hown hts rfl (k7m_36 hJ) rfl rfl rfl rfl (by decide) hK hW hS hl.1 (Nat.le_of_ble_eq_true rfl) dL_law_1294 (by decide) rfl (fun v σ H locs hq hW hS => ?_)
  obtain ⟨w2, rfl, hJ⟩ := hq
  refine W.eq (g2 := F0 m 1297 ls [.int w2]) rfl ?_
  refine lv_pop hx hb dL_law_1297 rfl ?_
  refine lv_goto (tgt := 1492) hx hb dL_law_1298 (by decide) ?_
  exact fin _ _ _ _ _ hJ hW hS (lv_sub hl [0, 1, 2, 3] rfl)
set_option maxHeartbeats 4000000 in
set_option maxRecDepth 100000 in
theorem lc_37 {p : Program} {l : Launch} {e : Env} {s : State} {m : MethodId} {below : List Frame} {meth : Method} {c : Code} {θ : Th} {b L i : Nat} {xs : Nat → Int32} {H : Heap} {locs : List Loc} {ls : Array Slot} {σ : Sg} {t : Int} {Q0 : State → Prop} (hx : p.tables.exec = Jvm.exec) (hb : c.code = code) (hml : c.maxLocals = 4) (hown : s.vm.findClass "SignalTableLaw" = some m.cls) (hts : ∀ w ∈ lwg, w.before #[Value.ref b] s = true) (hX : va_X b L xs s s.heap) (hbl : b < s.heap.size) (hL : L ≤ 384) (hK : va_K θ.1 vwCl (tysW θ) s) (hi : i + 6 ≤ L) (hW : Hw θ (fun a : Nat => s.heap.size ≤ a) σ H) (hJ : J7 t σ) (hS : va_S (fun a : Nat => s.heap.size ≤ a) s.heap H locs) (hl : lv_has ls 4 [(3, .int (nI i)), (2, .ref (θ.2.1 97)), (1, .ref (θ.2.1 0)), (0, .ref b)])
    (fin : ∀ (t : Int) (σ : Sg) (H : Heap) (locs : List Loc) (ls : Array Slot), J7 t σ → Hw θ (fun a : Nat => s.heap.size ≤ a) σ H → va_S (fun a : Nat => s.heap.size ≤ a) s.heap H locs → lv_has ls 4 [(3, .int (nI i)), (2, .ref (θ.2.1 97)), (1, .ref (θ.2.1 0)), (0, .ref b)] → W p l e room_1 s m #[Value.ref b] below meth c H locs 158 353581 Q0 (F0 m 1492 ls [])) : W p l e room_1 s m #[Value.ref b] below meth c H locs 158 353581 Q0 (F0 m 1301 ls []) := by
  have hbA : ¬ (fun a : Nat => s.heap.size ≤ a) b := Nat.not_le.mpr hbl
  refine lv_aload_n hx hb dL_law_1301 rfl (lv_at hl 2 rfl) ?_
  refine lv_aload_n hx hb dL_law_1302 rfl (lv_at hl 3 rfl) ?_
  refine lv_iload_n hx hb dL_law_1303 rfl (lv_at hl 0 rfl) ?_
  refine lv_iconst (v := 1) hx hb dL_law_1304 (by decide) ?_
  refine lv_iadd hx hb dL_law_1305 ?_
  refine z_i (v := (nI (i + 1))) (by exact nI_add _ 1) ?_
  refine va_sld hx hb hX hbl hbA hS (vp_in_nI (n := (i + 1)) (N := L) (by omega) (by omega)) dL_law_1306 ?_
  refine lv_aload_n hx hb dL_law_1307 rfl (lv_at hl 3 rfl) ?_
  refine lv_iload_n hx hb dL_law_1308 rfl (lv_at hl 0 rfl) ?_
  refine lv_iconst (v := 2) hx hb dL_law_1309 (by decide) ?_
  refine lv_iadd hx hb dL_law_1310 ?_
  refine z_i (v := (nI (i + 2))) (by exact nI_add _ 2) ?_
  refine va_sld hx hb hX hbl hbA hS (vp_in_nI (n := (i + 2)) (N := L) (by omega) (by omega)) dL_law_1311 ?_
  refine lv_aload_n hx hb dL_law_1312 rfl (lv_at hl 3 rfl) ?_
  refine lv_iload_n hx hb dL_law_1313 rfl (lv_at hl 0 rfl) ?_
  refine lv_iconst (v := 3) hx hb dL_law_1314 (by decide) ?_
  refine lv_iadd hx hb dL_law_1315 ?_
  refine z_i (v := (nI (i + 3))) (by exact nI_add _ 3) ?_
  refine va_sld hx hb hX hbl hbA hS (vp_in_nI (n := (i + 3)) (N := L) (by omega) (by omega)) dL_law_1316 ?_
  refine law_V (mj := 170) (n := 3) (q0 := 0) (ci := 11) (As := [.int (xs (nI (i + 1)).toNatClampNeg), .int (xs (nI (i + 2)).toNatClampNeg), .int (xs (nI (i + 3)).toNatClampNeg)]) (rest := []) caV_SignalTableLaw_172 hx hb hml hown hts rfl (k7x_37 hJ) rfl rfl rfl rfl (by decide) hK hW hS hl.1 (Nat.le_of_ble_eq_true rfl) dL_law_1317 (by decide) rfl (fun v σ H locs hq hW hS => ?_)
  obtain ⟨w1, rfl, hJ⟩ := hq
  refine W.eq (g2 := F0 m 1320 ls [.int w1]) rfl ?_
  refine lv_pop hx hb dL_law_1320 rfl ?_
  refine lv_aload_n hx hb dL_law_1321 rfl (lv_at hl 1 rfl) ?_
  refine lv_aload_n hx hb dL_law_1322 rfl (lv_at hl 3 rfl) ?_
  refine lv_iload_n hx hb dL_law_1323 rfl (lv_at hl 0 rfl) ?_
  refine lv_iconst (v := 1) hx hb dL_law_1324 (by decide) ?_
  refine lv_iadd hx hb dL_law_1325 ?_
  refine z_i (v := (nI (i + 1))) (by exact nI_add _ 1) ?_
  refine va_sld hx hb hX hbl hbA hS (vp_in_nI (n := (i + 1)) (N := L) (by omega) (by omega)) dL_law_1326 ?_
  refine lv_aload_n hx hb dL_law_1327 rfl (lv_at hl 3 rfl) ?_
  refine lv_iload_n hx hb dL_law_1328 rfl (lv_at hl 0 rfl) ?_
  refine lv_iconst (v := 2) hx hb dL_law_1329 (by decide) ?_
  refine lv_iadd hx hb dL_law_1330 ?_
  refine z_i (v := (nI (i + 2))) (by exact nI_add _ 2) ?_
  refine va_sld hx hb hX hbl hbA hS (vp_in_nI (n := (i + 2)) (N := L) (by omega) (by omega)) dL_law_1331 ?_
  refine lv_aload_n hx hb dL_law_1332 rfl (lv_at hl 3 rfl) ?_
  refine lv_iload_n hx hb dL_law_1333 rfl (lv_at hl 0 rfl) ?_
  refine lv_iconst (v := 3) hx hb dL_law_1334 (by decide) ?_
  refine lv_iadd hx hb dL_law_1335 ?_
  refine z_i (v := (nI (i + 3))) (by exact nI_add _ 3) ?_
  refine va_sld hx hb hX hbl hbA hS (vp_in_nI (n := (i + 3)) (N := L) (by omega) (by omega)) dL_law_1336 ?_
  refine law_V (mj := 314) (n := 3) (q0 := 97) (ci := 12) (As := [.int (xs (nI (i + 1)).toNatClampNeg), .int (xs (nI (i + 2)).toNatClampNeg), .int (xs (nI (i + 3)).toNatClampNeg)]) (rest := []) caV_SignalTableLaw_175 hx hb hml hown hts rfl (k7m_37 hJ) rfl rfl rfl rfl (by decide) hK hW hS hl.1 (Nat.le_of_ble_eq_true rfl) dL_law_1337 (by decide) rfl (fun v σ H locs hq hW hS => ?_)
  obtain ⟨w2, rfl, hJ⟩ := hq
  refine W.eq (g2 := F0 m 1340 ls [.int w2]) rfl ?_
  refine lv_pop hx hb dL_law_1340 rfl ?_
  refine lv_goto (tgt := 1492) hx hb dL_law_1341 (by decide) ?_
  exact fin _ _ _ _ _ hJ hW hS (lv_sub hl [0, 1, 2, 3] rfl)
set_option maxHeartbeats 4000000 in
set_option maxRecDepth 100000 in
theorem lc_38 {p : Program} {l : Launch} {e : Env} {s : State} {m : MethodId} {below : List Frame} {meth : Method} {c : Code} {θ : Th} {b L i : Nat} {xs : Nat → Int32} {H : Heap} {locs : List Loc} {ls : Array Slot} {σ : Sg} {t : Int} {Q0 : State → Prop} (hx : p.tables.exec = Jvm.exec) (hb : c.code = code) (hml : c.maxLocals = 4) (hown : s.vm.findClass "SignalTableLaw" = some m.cls) (hts : ∀ w ∈ lwg, w.before #[Value.ref b] s = true) (hX : va_X b L xs s s.heap) (hbl : b < s.heap.size) (hL : L ≤ 384) (hK : va_K θ.1 vwCl (tysW θ) s) (hi : i + 6 ≤ L) (hW : Hw θ (fun a : Nat => s.heap.size ≤ a) σ H) (hJ : J7 t σ) (hS : va_S (fun a : Nat => s.heap.size ≤ a) s.heap H locs) (hl : lv_has ls 4 [(3, .int (nI i)), (2, .ref (θ.2.1 97)), (1, .ref (θ.2.1 0)), (0, .ref b)])
    (fin : ∀ (t : Int) (σ : Sg) (H : Heap) (locs : List Loc) (ls : Array Slot), J7 t σ → Hw θ (fun a : Nat => s.heap.size ≤ a) σ H → va_S (fun a : Nat => s.heap.size ≤ a) s.heap H locs → lv_has ls 4 [(3, .int (nI i)), (2, .ref (θ.2.1 97)), (1, .ref (θ.2.1 0)), (0, .ref b)] → W p l e room_1 s m #[Value.ref b] below meth c H locs 158 353581 Q0 (F0 m 1492 ls [])) : W p l e room_1 s m #[Value.ref b] below meth c H locs 158 353581 Q0 (F0 m 1344 ls []) := by
  have hbA : ¬ (fun a : Nat => s.heap.size ≤ a) b := Nat.not_le.mpr hbl
  refine lv_aload_n hx hb dL_law_1344 rfl (lv_at hl 2 rfl) ?_
  refine lv_aload_n hx hb dL_law_1345 rfl (lv_at hl 3 rfl) ?_
  refine lv_iload_n hx hb dL_law_1346 rfl (lv_at hl 0 rfl) ?_
  refine lv_iconst (v := 1) hx hb dL_law_1347 (by decide) ?_
  refine lv_iadd hx hb dL_law_1348 ?_
  refine z_i (v := (nI (i + 1))) (by exact nI_add _ 1) ?_
  refine va_sld hx hb hX hbl hbA hS (vp_in_nI (n := (i + 1)) (N := L) (by omega) (by omega)) dL_law_1349 ?_
  refine lv_aload_n hx hb dL_law_1350 rfl (lv_at hl 3 rfl) ?_
  refine lv_iload_n hx hb dL_law_1351 rfl (lv_at hl 0 rfl) ?_
  refine lv_iconst (v := 2) hx hb dL_law_1352 (by decide) ?_
  refine lv_iadd hx hb dL_law_1353 ?_
  refine z_i (v := (nI (i + 2))) (by exact nI_add _ 2) ?_
  refine va_sld hx hb hX hbl hbA hS (vp_in_nI (n := (i + 2)) (N := L) (by omega) (by omega)) dL_law_1354 ?_
  refine law_V (mj := 171) (n := 2) (q0 := 0) (ci := 11) (As := [.int (xs (nI (i + 1)).toNatClampNeg), .int (xs (nI (i + 2)).toNatClampNeg)]) (rest := []) caV_SignalTableLaw_176 hx hb hml hown hts rfl (k7x_38 hJ) rfl rfl rfl rfl (by decide) hK hW hS hl.1 (Nat.le_of_ble_eq_true rfl) dL_law_1355 (by decide) rfl (fun v σ H locs hq hW hS => ?_)
  obtain ⟨w1, rfl, hJ⟩ := hq
  refine W.eq (g2 := F0 m 1358 ls [.int w1]) rfl ?_
  refine lv_pop hx hb dL_law_1358 rfl ?_
  refine lv_aload_n hx hb dL_law_1359 rfl (lv_at hl 1 rfl) ?_
  refine lv_aload_n hx hb dL_law_1360 rfl (lv_at hl 3 rfl) ?_
  refine lv_iload_n hx hb dL_law_1361 rfl (lv_at hl 0 rfl) ?_
  refine lv_iconst (v := 1) hx hb dL_law_1362 (by decide) ?_
  refine lv_iadd hx hb dL_law_1363 ?_
  refine z_i (v := (nI (i + 1))) (by exact nI_add _ 1) ?_
  refine va_sld hx hb hX hbl hbA hS (vp_in_nI (n := (i + 1)) (N := L) (by omega) (by omega)) dL_law_1364 ?_
  refine lv_aload_n hx hb dL_law_1365 rfl (lv_at hl 3 rfl) ?_
  refine lv_iload_n hx hb dL_law_1366 rfl (lv_at hl 0 rfl) ?_
  refine lv_iconst (v := 2) hx hb dL_law_1367 (by decide) ?_
  refine lv_iadd hx hb dL_law_1368 ?_
  refine z_i (v := (nI (i + 2))) (by exact nI_add _ 2) ?_
  refine va_sld hx hb hX hbl hbA hS (vp_in_nI (n := (i + 2)) (N := L) (by omega) (by omega)) dL_law_1369 ?_
  refine law_V (mj := 318) (n := 2) (q0 := 97) (ci := 12) (As := [.int (xs (nI (i + 1)).toNatClampNeg), .int (xs (nI (i + 2)).toNatClampNeg)]) (rest := []) caV_SignalTableLaw_179 hx hb hml hown hts rfl (k7m_38 hJ) rfl rfl rfl rfl (by decide) hK hW hS hl.1 (Nat.le_of_ble_eq_true rfl) dL_law_1370 (by decide) rfl (fun v σ H locs hq hW hS => ?_)
  obtain ⟨w2, rfl, hJ⟩ := hq
  refine W.eq (g2 := F0 m 1373 ls [.int w2]) rfl ?_
  refine lv_pop hx hb dL_law_1373 rfl ?_
  refine lv_goto (tgt := 1492) hx hb dL_law_1374 (by decide) ?_
  exact fin _ _ _ _ _ hJ hW hS (lv_sub hl [0, 1, 2, 3] rfl)
set_option maxHeartbeats 4000000 in
set_option maxRecDepth 100000 in
theorem lc_39 {p : Program} {l : Launch} {e : Env} {s : State} {m : MethodId} {below : List Frame} {meth : Method} {c : Code} {θ : Th} {b L i : Nat} {xs : Nat → Int32} {H : Heap} {locs : List Loc} {ls : Array Slot} {σ : Sg} {t : Int} {Q0 : State → Prop} (hx : p.tables.exec = Jvm.exec) (hb : c.code = code) (hml : c.maxLocals = 4) (hown : s.vm.findClass "SignalTableLaw" = some m.cls) (hts : ∀ w ∈ lwg, w.before #[Value.ref b] s = true) (hX : va_X b L xs s s.heap) (hbl : b < s.heap.size) (hL : L ≤ 384) (hK : va_K θ.1 vwCl (tysW θ) s) (hi : i + 6 ≤ L) (hW : Hw θ (fun a : Nat => s.heap.size ≤ a) σ H) (hJ : J7 t σ) (hS : va_S (fun a : Nat => s.heap.size ≤ a) s.heap H locs) (hl : lv_has ls 4 [(3, .int (nI i)), (2, .ref (θ.2.1 97)), (1, .ref (θ.2.1 0)), (0, .ref b)])
    (fin : ∀ (t : Int) (σ : Sg) (H : Heap) (locs : List Loc) (ls : Array Slot), J7 t σ → Hw θ (fun a : Nat => s.heap.size ≤ a) σ H → va_S (fun a : Nat => s.heap.size ≤ a) s.heap H locs → lv_has ls 4 [(3, .int (nI i)), (2, .ref (θ.2.1 97)), (1, .ref (θ.2.1 0)), (0, .ref b)] → W p l e room_1 s m #[Value.ref b] below meth c H locs 158 353581 Q0 (F0 m 1492 ls [])) : W p l e room_1 s m #[Value.ref b] below meth c H locs 158 353581 Q0 (F0 m 1377 ls []) := by
  have hbA : ¬ (fun a : Nat => s.heap.size ≤ a) b := Nat.not_le.mpr hbl
  refine lv_aload_n hx hb dL_law_1377 rfl (lv_at hl 2 rfl) ?_
  refine lv_aload_n hx hb dL_law_1378 rfl (lv_at hl 3 rfl) ?_
  refine lv_iload_n hx hb dL_law_1379 rfl (lv_at hl 0 rfl) ?_
  refine lv_iconst (v := 1) hx hb dL_law_1380 (by decide) ?_
  refine lv_iadd hx hb dL_law_1381 ?_
  refine z_i (v := (nI (i + 1))) (by exact nI_add _ 1) ?_
  refine va_sld hx hb hX hbl hbA hS (vp_in_nI (n := (i + 1)) (N := L) (by omega) (by omega)) dL_law_1382 ?_
  refine lv_aload_n hx hb dL_law_1383 rfl (lv_at hl 3 rfl) ?_
  refine lv_iload_n hx hb dL_law_1384 rfl (lv_at hl 0 rfl) ?_
  refine lv_iconst (v := 2) hx hb dL_law_1385 (by decide) ?_
  refine lv_iadd hx hb dL_law_1386 ?_
  refine z_i (v := (nI (i + 2))) (by exact nI_add _ 2) ?_
  refine va_sld hx hb hX hbl hbA hS (vp_in_nI (n := (i + 2)) (N := L) (by omega) (by omega)) dL_law_1387 ?_
  refine law_V (mj := 172) (n := 2) (q0 := 0) (ci := 11) (As := [.int (xs (nI (i + 1)).toNatClampNeg), .int (xs (nI (i + 2)).toNatClampNeg)]) (rest := []) caV_SignalTableLaw_180 hx hb hml hown hts rfl (k7x_39 hJ) rfl rfl rfl rfl (by decide) hK hW hS hl.1 (Nat.le_of_ble_eq_true rfl) dL_law_1388 (by decide) rfl (fun v σ H locs hq hW hS => ?_)
  obtain ⟨w1, rfl, hJ⟩ := hq
  refine W.eq (g2 := F0 m 1391 ls [.int w1]) rfl ?_
  refine lv_pop hx hb dL_law_1391 rfl ?_
  refine lv_aload_n hx hb dL_law_1392 rfl (lv_at hl 1 rfl) ?_
  refine lv_aload_n hx hb dL_law_1393 rfl (lv_at hl 3 rfl) ?_
  refine lv_iload_n hx hb dL_law_1394 rfl (lv_at hl 0 rfl) ?_
  refine lv_iconst (v := 1) hx hb dL_law_1395 (by decide) ?_
  refine lv_iadd hx hb dL_law_1396 ?_
  refine z_i (v := (nI (i + 1))) (by exact nI_add _ 1) ?_
  refine va_sld hx hb hX hbl hbA hS (vp_in_nI (n := (i + 1)) (N := L) (by omega) (by omega)) dL_law_1397 ?_
  refine lv_aload_n hx hb dL_law_1398 rfl (lv_at hl 3 rfl) ?_
  refine lv_iload_n hx hb dL_law_1399 rfl (lv_at hl 0 rfl) ?_
  refine lv_iconst (v := 2) hx hb dL_law_1400 (by decide) ?_
  refine lv_iadd hx hb dL_law_1401 ?_
  refine z_i (v := (nI (i + 2))) (by exact nI_add _ 2) ?_
  refine va_sld hx hb hX hbl hbA hS (vp_in_nI (n := (i + 2)) (N := L) (by omega) (by omega)) dL_law_1402 ?_
  refine law_V (mj := 319) (n := 2) (q0 := 97) (ci := 12) (As := [.int (xs (nI (i + 1)).toNatClampNeg), .int (xs (nI (i + 2)).toNatClampNeg)]) (rest := []) caV_SignalTableLaw_183 hx hb hml hown hts rfl (k7m_39 hJ) rfl rfl rfl rfl (by decide) hK hW hS hl.1 (Nat.le_of_ble_eq_true rfl) dL_law_1403 (by decide) rfl (fun v σ H locs hq hW hS => ?_)
  obtain ⟨w2, rfl, hJ⟩ := hq
  refine W.eq (g2 := F0 m 1406 ls [.int w2]) rfl ?_
  refine lv_pop hx hb dL_law_1406 rfl ?_
  refine lv_goto (tgt := 1492) hx hb dL_law_1407 (by decide) ?_
  exact fin _ _ _ _ _ hJ hW hS (lv_sub hl [0, 1, 2, 3] rfl)
set_option maxHeartbeats 4000000 in
set_option maxRecDepth 100000 in
theorem lc_40 {p : Program} {l : Launch} {e : Env} {s : State} {m : MethodId} {below : List Frame} {meth : Method} {c : Code} {θ : Th} {b L i : Nat} {xs : Nat → Int32} {H : Heap} {locs : List Loc} {ls : Array Slot} {σ : Sg} {t : Int} {Q0 : State → Prop} (hx : p.tables.exec = Jvm.exec) (hb : c.code = code) (hml : c.maxLocals = 4) (hown : s.vm.findClass "SignalTableLaw" = some m.cls) (hts : ∀ w ∈ lwg, w.before #[Value.ref b] s = true) (hX : va_X b L xs s s.heap) (hbl : b < s.heap.size) (hL : L ≤ 384) (hK : va_K θ.1 vwCl (tysW θ) s) (hi : i + 6 ≤ L) (hW : Hw θ (fun a : Nat => s.heap.size ≤ a) σ H) (hJ : J7 t σ) (hS : va_S (fun a : Nat => s.heap.size ≤ a) s.heap H locs) (hl : lv_has ls 4 [(3, .int (nI i)), (2, .ref (θ.2.1 97)), (1, .ref (θ.2.1 0)), (0, .ref b)])
    (fin : ∀ (t : Int) (σ : Sg) (H : Heap) (locs : List Loc) (ls : Array Slot), J7 t σ → Hw θ (fun a : Nat => s.heap.size ≤ a) σ H → va_S (fun a : Nat => s.heap.size ≤ a) s.heap H locs → lv_has ls 4 [(3, .int (nI i)), (2, .ref (θ.2.1 97)), (1, .ref (θ.2.1 0)), (0, .ref b)] → W p l e room_1 s m #[Value.ref b] below meth c H locs 158 353581 Q0 (F0 m 1492 ls [])) : W p l e room_1 s m #[Value.ref b] below meth c H locs 158 353581 Q0 (F0 m 1410 ls []) := by
  have hbA : ¬ (fun a : Nat => s.heap.size ≤ a) b := Nat.not_le.mpr hbl
  refine lv_aload_n hx hb dL_law_1410 rfl (lv_at hl 2 rfl) ?_
  refine law_V (mj := 173) (n := 0) (q0 := 0) (ci := 11) (As := []) (rest := []) caV_SignalTableLaw_184 hx hb hml hown hts rfl (k7x_40 hJ) rfl rfl rfl rfl (by decide) hK hW hS hl.1 (Nat.le_of_ble_eq_true rfl) dL_law_1411 (by decide) rfl (fun v σ H locs hq hW hS => ?_)
  obtain ⟨w1, rfl, hJ⟩ := hq
  refine W.eq (g2 := F0 m 1414 ls [.int w1]) rfl ?_
  refine lv_pop hx hb dL_law_1414 rfl ?_
  refine lv_aload_n hx hb dL_law_1415 rfl (lv_at hl 1 rfl) ?_
  refine law_V (mj := 320) (n := 0) (q0 := 97) (ci := 12) (As := []) (rest := []) caV_SignalTableLaw_187 hx hb hml hown hts rfl (k7m_40 hJ) rfl rfl rfl rfl (by decide) hK hW hS hl.1 (Nat.le_of_ble_eq_true rfl) dL_law_1416 (by decide) rfl (fun v σ H locs hq hW hS => ?_)
  obtain ⟨w2, rfl, hJ⟩ := hq
  refine W.eq (g2 := F0 m 1419 ls [.int w2]) rfl ?_
  refine lv_pop hx hb dL_law_1419 rfl ?_
  refine lv_goto (tgt := 1492) hx hb dL_law_1420 (by decide) ?_
  exact fin _ _ _ _ _ hJ hW hS (lv_sub hl [0, 1, 2, 3] rfl)
set_option maxHeartbeats 4000000 in
set_option maxRecDepth 100000 in
theorem lc_41 {p : Program} {l : Launch} {e : Env} {s : State} {m : MethodId} {below : List Frame} {meth : Method} {c : Code} {θ : Th} {b L i : Nat} {xs : Nat → Int32} {H : Heap} {locs : List Loc} {ls : Array Slot} {σ : Sg} {t : Int} {Q0 : State → Prop} (hx : p.tables.exec = Jvm.exec) (hb : c.code = code) (hml : c.maxLocals = 4) (hown : s.vm.findClass "SignalTableLaw" = some m.cls) (hts : ∀ w ∈ lwg, w.before #[Value.ref b] s = true) (hX : va_X b L xs s s.heap) (hbl : b < s.heap.size) (hL : L ≤ 384) (hK : va_K θ.1 vwCl (tysW θ) s) (hi : i + 6 ≤ L) (hW : Hw θ (fun a : Nat => s.heap.size ≤ a) σ H) (hJ : J7 t σ) (hS : va_S (fun a : Nat => s.heap.size ≤ a) s.heap H locs) (hl : lv_has ls 4 [(3, .int (nI i)), (2, .ref (θ.2.1 97)), (1, .ref (θ.2.1 0)), (0, .ref b)])
    (fin : ∀ (t : Int) (σ : Sg) (H : Heap) (locs : List Loc) (ls : Array Slot), J7 t σ → Hw θ (fun a : Nat => s.heap.size ≤ a) σ H → va_S (fun a : Nat => s.heap.size ≤ a) s.heap H locs → lv_has ls 4 [(3, .int (nI i)), (2, .ref (θ.2.1 97)), (1, .ref (θ.2.1 0)), (0, .ref b)] → W p l e room_1 s m #[Value.ref b] below meth c H locs 158 353581 Q0 (F0 m 1492 ls [])) : W p l e room_1 s m #[Value.ref b] below meth c H locs 158 353581 Q0 (F0 m 1423 ls []) := by
  have hbA : ¬ (fun a : Nat => s.heap.size ≤ a) b := Nat.not_le.mpr hbl
  refine lv_aload_n hx hb dL_law_1423 rfl (lv_at hl 2 rfl) ?_
  refine lv_aload_n hx hb dL_law_1424 rfl (lv_at hl 3 rfl) ?_
  refine lv_iload_n hx hb dL_law_1425 rfl (lv_at hl 0 rfl) ?_
  refine lv_iconst (v := 1) hx hb dL_law_1426 (by decide) ?_
  refine lv_iadd hx hb dL_law_1427 ?_
  refine z_i (v := (nI (i + 1))) (by exact nI_add _ 1) ?_
  refine va_sld hx hb hX hbl hbA hS (vp_in_nI (n := (i + 1)) (N := L) (by omega) (by omega)) dL_law_1428 ?_
  refine law_V (mj := 174) (n := 1) (q0 := 0) (ci := 11) (As := [.int (xs (nI (i + 1)).toNatClampNeg)]) (rest := []) caV_SignalTableLaw_188 hx hb hml hown hts rfl (k7x_41 hJ) rfl rfl rfl rfl (by decide) hK hW hS hl.1 (Nat.le_of_ble_eq_true rfl) dL_law_1429 (by decide) rfl (fun v σ H locs hq hW hS => ?_)
  obtain ⟨w1, rfl, hJ⟩ := hq
  refine W.eq (g2 := F0 m 1432 ls [.int w1]) rfl ?_
  refine lv_pop hx hb dL_law_1432 rfl ?_
  refine lv_aload_n hx hb dL_law_1433 rfl (lv_at hl 1 rfl) ?_
  refine lv_aload_n hx hb dL_law_1434 rfl (lv_at hl 3 rfl) ?_
  refine lv_iload_n hx hb dL_law_1435 rfl (lv_at hl 0 rfl) ?_
  refine lv_iconst (v := 1) hx hb dL_law_1436 (by decide) ?_
  refine lv_iadd hx hb dL_law_1437 ?_
  refine z_i (v := (nI (i + 1))) (by exact nI_add _ 1) ?_
  refine va_sld hx hb hX hbl hbA hS (vp_in_nI (n := (i + 1)) (N := L) (by omega) (by omega)) dL_law_1438 ?_
  refine law_V (mj := 321) (n := 1) (q0 := 97) (ci := 12) (As := [.int (xs (nI (i + 1)).toNatClampNeg)]) (rest := []) caV_SignalTableLaw_191 hx hb hml hown hts rfl (k7m_41 hJ) rfl rfl rfl rfl (by decide) hK hW hS hl.1 (Nat.le_of_ble_eq_true rfl) dL_law_1439 (by decide) rfl (fun v σ H locs hq hW hS => ?_)
  obtain ⟨w2, rfl, ew, hJ⟩ := hq
  subst ew
  refine W.eq (g2 := F0 m 1442 ls [.int w1]) rfl ?_
  refine lv_pop hx hb dL_law_1442 rfl ?_
  refine lv_goto (tgt := 1492) hx hb dL_law_1443 (by decide) ?_
  exact fin _ _ _ _ _ hJ hW hS (lv_sub hl [0, 1, 2, 3] rfl)
set_option maxHeartbeats 4000000 in
set_option maxRecDepth 100000 in
theorem lc_42 {p : Program} {l : Launch} {e : Env} {s : State} {m : MethodId} {below : List Frame} {meth : Method} {c : Code} {θ : Th} {b L i : Nat} {xs : Nat → Int32} {H : Heap} {locs : List Loc} {ls : Array Slot} {σ : Sg} {t : Int} {Q0 : State → Prop} (hx : p.tables.exec = Jvm.exec) (hb : c.code = code) (hml : c.maxLocals = 4) (hown : s.vm.findClass "SignalTableLaw" = some m.cls) (hts : ∀ w ∈ lwg, w.before #[Value.ref b] s = true) (hX : va_X b L xs s s.heap) (hbl : b < s.heap.size) (hL : L ≤ 384) (hK : va_K θ.1 vwCl (tysW θ) s) (hi : i + 6 ≤ L) (hW : Hw θ (fun a : Nat => s.heap.size ≤ a) σ H) (hJ : J7 t σ) (hS : va_S (fun a : Nat => s.heap.size ≤ a) s.heap H locs) (hl : lv_has ls 4 [(3, .int (nI i)), (2, .ref (θ.2.1 97)), (1, .ref (θ.2.1 0)), (0, .ref b)])
    (fin : ∀ (t : Int) (σ : Sg) (H : Heap) (locs : List Loc) (ls : Array Slot), J7 t σ → Hw θ (fun a : Nat => s.heap.size ≤ a) σ H → va_S (fun a : Nat => s.heap.size ≤ a) s.heap H locs → lv_has ls 4 [(3, .int (nI i)), (2, .ref (θ.2.1 97)), (1, .ref (θ.2.1 0)), (0, .ref b)] → W p l e room_1 s m #[Value.ref b] below meth c H locs 158 353581 Q0 (F0 m 1492 ls [])) : W p l e room_1 s m #[Value.ref b] below meth c H locs 158 353581 Q0 (F0 m 1446 ls []) := by
  have hbA : ¬ (fun a : Nat => s.heap.size ≤ a) b := Nat.not_le.mpr hbl
  refine lv_aload_n hx hb dL_law_1446 rfl (lv_at hl 2 rfl) ?_
  refine lv_aload_n hx hb dL_law_1447 rfl (lv_at hl 3 rfl) ?_
  refine lv_iload_n hx hb dL_law_1448 rfl (lv_at hl 0 rfl) ?_
  refine lv_iconst (v := 1) hx hb dL_law_1449 (by decide) ?_
  refine lv_iadd hx hb dL_law_1450 ?_
  refine z_i (v := (nI (i + 1))) (by exact nI_add _ 1) ?_
  refine va_sld hx hb hX hbl hbA hS (vp_in_nI (n := (i + 1)) (N := L) (by omega) (by omega)) dL_law_1451 ?_
  refine law_V (mj := 175) (n := 1) (q0 := 0) (ci := 11) (As := [.int (xs (nI (i + 1)).toNatClampNeg)]) (rest := []) caV_SignalTableLaw_192 hx hb hml hown hts rfl (k7x_42 hJ) rfl rfl rfl rfl (by decide) hK hW hS hl.1 (Nat.le_of_ble_eq_true rfl) dL_law_1452 (by decide) rfl (fun v σ H locs hq hW hS => ?_)
  obtain ⟨w1, rfl, hJ⟩ := hq
  refine W.eq (g2 := F0 m 1455 ls [.int w1]) rfl ?_
  refine lv_pop hx hb dL_law_1455 rfl ?_
  refine lv_aload_n hx hb dL_law_1456 rfl (lv_at hl 1 rfl) ?_
  refine lv_aload_n hx hb dL_law_1457 rfl (lv_at hl 3 rfl) ?_
  refine lv_iload_n hx hb dL_law_1458 rfl (lv_at hl 0 rfl) ?_
  refine lv_iconst (v := 1) hx hb dL_law_1459 (by decide) ?_
  refine lv_iadd hx hb dL_law_1460 ?_
  refine z_i (v := (nI (i + 1))) (by exact nI_add _ 1) ?_
  refine va_sld hx hb hX hbl hbA hS (vp_in_nI (n := (i + 1)) (N := L) (by omega) (by omega)) dL_law_1461 ?_
  refine law_V (mj := 322) (n := 1) (q0 := 97) (ci := 12) (As := [.int (xs (nI (i + 1)).toNatClampNeg)]) (rest := []) caV_SignalTableLaw_195 hx hb hml hown hts rfl (k7m_42 hJ) rfl rfl rfl rfl (by decide) hK hW hS hl.1 (Nat.le_of_ble_eq_true rfl) dL_law_1462 (by decide) rfl (fun v σ H locs hq hW hS => ?_)
  obtain ⟨w2, rfl, ew, hJ⟩ := hq
  subst ew
  refine W.eq (g2 := F0 m 1465 ls [.int w1]) rfl ?_
  refine lv_pop hx hb dL_law_1465 rfl ?_
  refine lv_goto (tgt := 1492) hx hb dL_law_1466 (by decide) ?_
  exact fin _ _ _ _ _ hJ hW hS (lv_sub hl [0, 1, 2, 3] rfl)
set_option maxHeartbeats 4000000 in
set_option maxRecDepth 100000 in
theorem lc_43 {p : Program} {l : Launch} {e : Env} {s : State} {m : MethodId} {below : List Frame} {meth : Method} {c : Code} {θ : Th} {b L i : Nat} {xs : Nat → Int32} {H : Heap} {locs : List Loc} {ls : Array Slot} {σ : Sg} {t : Int} {Q0 : State → Prop} (hx : p.tables.exec = Jvm.exec) (hb : c.code = code) (hml : c.maxLocals = 4) (hown : s.vm.findClass "SignalTableLaw" = some m.cls) (hts : ∀ w ∈ lwg, w.before #[Value.ref b] s = true) (hX : va_X b L xs s s.heap) (hbl : b < s.heap.size) (hL : L ≤ 384) (hK : va_K θ.1 vwCl (tysW θ) s) (hi : i + 6 ≤ L) (hW : Hw θ (fun a : Nat => s.heap.size ≤ a) σ H) (hJ : J7 t σ) (hS : va_S (fun a : Nat => s.heap.size ≤ a) s.heap H locs) (hl : lv_has ls 4 [(3, .int (nI i)), (2, .ref (θ.2.1 97)), (1, .ref (θ.2.1 0)), (0, .ref b)])
    (fin : ∀ (t : Int) (σ : Sg) (H : Heap) (locs : List Loc) (ls : Array Slot), J7 t σ → Hw θ (fun a : Nat => s.heap.size ≤ a) σ H → va_S (fun a : Nat => s.heap.size ≤ a) s.heap H locs → lv_has ls 4 [(3, .int (nI i)), (2, .ref (θ.2.1 97)), (1, .ref (θ.2.1 0)), (0, .ref b)] → W p l e room_1 s m #[Value.ref b] below meth c H locs 158 353581 Q0 (F0 m 1492 ls [])) : W p l e room_1 s m #[Value.ref b] below meth c H locs 158 353581 Q0 (F0 m 1469 ls []) := by
  have hbA : ¬ (fun a : Nat => s.heap.size ≤ a) b := Nat.not_le.mpr hbl
  refine lv_aload_n hx hb dL_law_1469 rfl (lv_at hl 2 rfl) ?_
  refine lv_aload_n hx hb dL_law_1470 rfl (lv_at hl 3 rfl) ?_
  refine lv_iload_n hx hb dL_law_1471 rfl (lv_at hl 0 rfl) ?_
  refine lv_iconst (v := 1) hx hb dL_law_1472 (by decide) ?_
  refine lv_iadd hx hb dL_law_1473 ?_
  refine z_i (v := (nI (i + 1))) (by exact nI_add _ 1) ?_
  refine va_sld hx hb hX hbl hbA hS (vp_in_nI (n := (i + 1)) (N := L) (by omega) (by omega)) dL_law_1474 ?_
  refine law_V (mj := 177) (n := 1) (q0 := 0) (ci := 11) (As := [.int (xs (nI (i + 1)).toNatClampNeg)]) (rest := []) caV_SignalTableLaw_196 hx hb hml hown hts rfl (k7x_43 hJ) rfl rfl rfl rfl (by decide) hK hW hS hl.1 (Nat.le_of_ble_eq_true rfl) dL_law_1475 (by decide) rfl (fun v σ H locs hq hW hS => ?_)
  obtain ⟨w1, rfl, hJ⟩ := hq
  refine W.eq (g2 := F0 m 1478 ls [.int w1]) rfl ?_
  refine lv_pop hx hb dL_law_1478 rfl ?_
  refine lv_aload_n hx hb dL_law_1479 rfl (lv_at hl 1 rfl) ?_
  refine lv_aload_n hx hb dL_law_1480 rfl (lv_at hl 3 rfl) ?_
  refine lv_iload_n hx hb dL_law_1481 rfl (lv_at hl 0 rfl) ?_
  refine lv_iconst (v := 1) hx hb dL_law_1482 (by decide) ?_
  refine lv_iadd hx hb dL_law_1483 ?_
  refine z_i (v := (nI (i + 1))) (by exact nI_add _ 1) ?_
  refine va_sld hx hb hX hbl hbA hS (vp_in_nI (n := (i + 1)) (N := L) (by omega) (by omega)) dL_law_1484 ?_
  refine law_V (mj := 323) (n := 1) (q0 := 97) (ci := 12) (As := [.int (xs (nI (i + 1)).toNatClampNeg)]) (rest := []) caV_SignalTableLaw_199 hx hb hml hown hts rfl (k7m_43 hJ) rfl rfl rfl rfl (by decide) hK hW hS hl.1 (Nat.le_of_ble_eq_true rfl) dL_law_1485 (by decide) rfl (fun v σ H locs hq hW hS => ?_)
  obtain ⟨w2, rfl, ew, hJ⟩ := hq
  subst ew
  refine W.eq (g2 := F0 m 1488 ls [.int w1]) rfl ?_
  refine lv_pop hx hb dL_law_1488 rfl ?_
  refine lv_goto (tgt := 1492) hx hb dL_law_1489 (by decide) ?_
  exact fin _ _ _ _ _ hJ hW hS (lv_sub hl [0, 1, 2, 3] rfl)
