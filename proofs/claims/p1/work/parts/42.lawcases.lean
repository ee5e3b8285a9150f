-- ===== end of PART A; then your names; then what follows =====
/-! THE CLAIM OUT OF ONE WALK OF THE LAW'S BODY. Your part is whole_start (and what it stands on); all else here is the same for every law, but numbers. -/
def R_law : String := "SignalTableLaw"
def lw_P (b : Addr) (xs : List Int32) (args : Array Value) (s : State) : Prop := args = #[.ref b] ∧ s.IntsAt b xs ∧ xs.length ≤ 6 ∧ (Jvm.Cond.and given_1 narrow_1).before args s = true
def lw_Q (_ : Array Value) (s : State) (o : Outcome) (t : State) : Prop := o = .returned (some (.int 1)) ∧ Framed s o t [] 600000 7302250
def lw_Z (below : List Frame) (a : Array Value) (s : State) : State → Prop := fun t => ∃ o, t.status = .running ∧ Ended t below o ∧ lw_Q a s o t
/-- the law's own end, with 1 on the stack, nothing written that was there before, its room as the claim has it -/
theorem lw_ret {p : Program} {l : Launch} {e : Env} {s : State} {m : MethodId} {below : List Frame} {meth : Method} {c : Code} {b : Nat} (hx : p.tables.exec = Jvm.exec) (hb : c.code = code) (hr : meth.sig.returnType = ret) (hlocks : meth.locks = false) {pc : Nat} {H : Heap} {ls : Array Slot} (hdg : decode code pc = .ok (.ireturn, 1)) : W p l e room_1 s m #[Value.ref b] below meth c H [] 600000 7302250 (lw_Z below #[Value.ref b] s) (F0 m pc ls [.int 1]) := by
  intro T hT X
  obtain ⟨fs, hret, hrun, hended, hW, hframe⟩ := X.leave (v := some (.int 1)) (hlocks := hlocks) (fun h => by rw [hr] at h; cases h)
  have hmeth' : T.vm.method? m = some meth := X.method'
  refine ⟨T.setFrames fs, ?_, .returned (some (.int 1)), hrun, hended, rfl, ⟨_, rfl⟩, hW, hframe⟩
  jvm_step X.here [X.here.top, hx, hb, hdg, hmeth', hr, ret, narrow_b1]
  (try refine ⟨rfl, ?_⟩); (try refine ⟨rfl, ?_⟩)
  first | (intro acts; rw [hret _ acts rfl rfl rfl]) | rw [hret _ _ rfl rfl rfl]
  exact Steps.refl _
/-- what holds at the law's entry: the machine, the code, the tables' words (any of lw_tbl by 'hts w (by decide +kernel)'), the script of L ints xs at the cell b, what the Statement gives of the start (any of its parts by flat_of_before) -/
def lw_At (p : Program) (s : State) (m : MethodId) (meth : Method) (c : Code) (b L : Nat) (xs : Nat → Int32) : Prop :=
  p.tables.exec = Jvm.exec ∧ c.code = code ∧ meth.sig.returnType = ret ∧ c.maxLocals = 4 ∧ s.vm.findClass R_law = some m.cls ∧ (∀ w ∈ lw_tbl, w.before #[Value.ref b] s = true) ∧ va_X b L xs s s.heap ∧ b < s.heap.size ∧ meth.locks = false ∧ (Jvm.Cond.and given_1 narrow_1).before #[Value.ref b] s = true

set_option maxHeartbeats 4000000 in
set_option maxRecDepth 100000 in
theorem lc_0 {p : Program} {l : Launch} {e : Env} {s : State} {m : MethodId} {below : List Frame} {meth : Method} {c : Code} {D : va_G} {b : Nat} {xs : Nat → Int32} {H : Heap} {locs : List Loc} {ls : Array Slot} {Q0 : State → Prop} {q : Nat → Nat} {k : Nat → ClassId} {g : Nat → Nat → Int32} {gl : Nat → Nat → Int64} {q2 : Nat → Nat} {k2 : Nat → ClassId} {g2 : Nat → Nat → Int32} {gl2 : Nat → Nat → Int64} (hx : p.tables.exec = Jvm.exec) (hb : c.code = code) (hml : c.maxLocals = 4) (hown : s.vm.findClass "SignalTableLaw" = some m.cls) (hts : ∀ w ∈ lwg, w.before #[Value.ref b] s = true) (hX : va_X b 6 xs s s.heap) (hbl : b < s.heap.size) (hPx : va_P D vwCl (wX q k g gl) H) (hPm : va_P D vwCl (wM q2 k2 g2 gl2) H) (hKx : va_K D vwCl (tyX k) s) (hKm : va_K D vwCl (tyM k2) s) (hD : va_D (fun a : Nat => s.heap.size ≤ a) (wX q k g gl ++ wM q2 k2 g2 gl2)) (hS : va_S (fun a : Nat => s.heap.size ≤ a) s.heap H locs) (hl : lv_has ls 4 [(3, .int 0), (2, .ref (q2 0)), (1, .ref (q 0)), (0, .ref b)])
    (fin : ∀ (H : Heap) (locs : List Loc) (ls : Array Slot), va_S (fun a : Nat => s.heap.size ≤ a) s.heap H locs → lv_has ls 4 [(3, .int 0), (0, .ref b)] → W p l e room_1 s m #[Value.ref b] below meth c H locs 158 353581 Q0 (F0 m 1494 ls [])) : W p l e room_1 s m #[Value.ref b] below meth c H locs 158 353581 Q0 (F0 m 224 ls []) := by
  have hbA : ¬ (fun a : Nat => s.heap.size ≤ a) b := Nat.not_le.mpr hbl
  refine lv_aload_n hx hb dL_law_224 rfl (lv_at hl 2 rfl) ?_
  refine lv_aload_n hx hb dL_law_225 rfl (lv_at hl 3 rfl) ?_
  refine lv_iload_n hx hb dL_law_226 rfl (lv_at hl 0 rfl) ?_
  refine lv_iconst (v := 1) hx hb dL_law_227 (by decide) ?_
  refine lv_iadd hx hb dL_law_228 ?_
  refine z_i (v := 1) (by decide) ?_
  refine va_sld hx hb hX hbl hbA hS (z_in (by decide)) dL_law_229 ?_
  refine z_i (v := xs 1) (by rfl) ?_
  refine lv_aload_n hx hb dL_law_230 rfl (lv_at hl 3 rfl) ?_
  refine lv_iload_n hx hb dL_law_231 rfl (lv_at hl 0 rfl) ?_
  refine lv_iconst (v := 2) hx hb dL_law_232 (by decide) ?_
  refine lv_iadd hx hb dL_law_233 ?_
  refine z_i (v := 2) (by decide) ?_
  refine va_sld hx hb hX hbl hbA hS (z_in (by decide)) dL_law_234 ?_
  refine z_i (v := xs 2) (by rfl) ?_
  refine lv_aload_n hx hb dL_law_235 rfl (lv_at hl 3 rfl) ?_
  refine lv_iload_n hx hb dL_law_236 rfl (lv_at hl 0 rfl) ?_
  refine lv_iconst (v := 3) hx hb dL_law_237 (by decide) ?_
  refine lv_iadd hx hb dL_law_238 ?_
  refine z_i (v := 3) (by decide) ?_
  refine va_sld hx hb hX hbl hbA hS (z_in (by decide)) dL_law_239 ?_
  refine z_i (v := xs 3) (by rfl) ?_
  refine lv_aload_n hx hb dL_law_240 rfl (lv_at hl 3 rfl) ?_
  refine lv_iload_n hx hb dL_law_241 rfl (lv_at hl 0 rfl) ?_
  refine lv_iconst (v := 4) hx hb dL_law_242 (by decide) ?_
  refine lv_iadd hx hb dL_law_243 ?_
  refine z_i (v := 4) (by decide) ?_
  refine va_sld hx hb hX hbl hbA hS (z_in (by decide)) dL_law_244 ?_
  refine z_i (v := xs 4) (by rfl) ?_
  refine lv_aload_n hx hb dL_law_245 rfl (lv_at hl 3 rfl) ?_
  refine lv_iload_n hx hb dL_law_246 rfl (lv_at hl 0 rfl) ?_
  refine lv_iconst (v := 5) hx hb dL_law_247 (by decide) ?_
  refine lv_iadd hx hb dL_law_248 ?_
  refine z_i (v := 5) (by decide) ?_
  refine va_sld hx hb hX hbl hbA hS (z_in (by decide)) dL_law_249 ?_
  refine z_i (v := xs 5) (by rfl) ?_
  refine wr_Vi (As := [.int (xs 1), .int (xs 2), .int (xs 3), .int (xs 4), .int (xs 5)]) (rest := []) caV_SignalTableLaw_13 hx hb hml hown hts (hPx.app hPm) hD (hKx.app hKm) hS (fun _ h => h) (isC := [0, 1, 2, 3, 4, 5, 6, 7, 8, 9, 10, 11, 12, 13, 14, 15, 16, 17, 18, 19, 20, 21, 22, 23, 24, 25]) (isR := [26, 27, 28, 29, 30, 31, 32, 33, 34, 35, 36, 37, 38, 39]) (isT := [0, 1, 2, 3, 4, 5, 6, 7, 8, 9, 10, 11, 12]) (wr := wM q2 k2 g2 gl2) ⟨rfl, rfl, rfl, rfl, by decide⟩ rfl (wX11_feed q k g gl (xs 1) (xs 2) (xs 3) (xs 4) (xs 5)) bl_T (fun _ _ _ => trivial) (ci := 11) (q0 := 0) rfl rfl (by decide) rfl hl.1 (Nat.le_of_ble_eq_true rfl) (by decide) dL_law_250 rfl (fun _ _ _ _ H locs hP hD hK hS => ?_)
  have hPm : va_P D vwCl (wM q2 k2 g2 gl2) H := hP.sub [0, 1, 2, 3, 4, 5, 6, 7, 8, 9, 10, 11, 12, 13] rfl
  have hDm : va_D (fun a : Nat => s.heap.size ≤ a) (wM q2 k2 g2 gl2) := hD.sub [0, 1, 2, 3, 4, 5, 6, 7, 8, 9, 10, 11, 12, 13] (by decide) rfl
  refine W.cs (cells' := 158) (slots' := 353581) rfl rfl ?_
  refine lv_aload_n hx hb dL_law_253 rfl (lv_at hl 1 rfl) ?_
  refine lv_aload_n hx hb dL_law_254 rfl (lv_at hl 3 rfl) ?_
  refine lv_iload_n hx hb dL_law_255 rfl (lv_at hl 0 rfl) ?_
  refine lv_iconst (v := 1) hx hb dL_law_256 (by decide) ?_
  refine lv_iadd hx hb dL_law_257 ?_
  refine z_i (v := 1) (by decide) ?_
  refine va_sld hx hb hX hbl hbA hS (z_in (by decide)) dL_law_258 ?_
  refine z_i (v := xs 1) (by rfl) ?_
  refine lv_aload_n hx hb dL_law_259 rfl (lv_at hl 3 rfl) ?_
  refine lv_iload_n hx hb dL_law_260 rfl (lv_at hl 0 rfl) ?_
  refine lv_iconst (v := 2) hx hb dL_law_261 (by decide) ?_
  refine lv_iadd hx hb dL_law_262 ?_
  refine z_i (v := 2) (by decide) ?_
  refine va_sld hx hb hX hbl hbA hS (z_in (by decide)) dL_law_263 ?_
  refine z_i (v := xs 2) (by rfl) ?_
  refine lv_aload_n hx hb dL_law_264 rfl (lv_at hl 3 rfl) ?_
  refine lv_iload_n hx hb dL_law_265 rfl (lv_at hl 0 rfl) ?_
  refine lv_iconst (v := 3) hx hb dL_law_266 (by decide) ?_
  refine lv_iadd hx hb dL_law_267 ?_
  refine z_i (v := 3) (by decide) ?_
  refine va_sld hx hb hX hbl hbA hS (z_in (by decide)) dL_law_268 ?_
  refine z_i (v := xs 3) (by rfl) ?_
  refine lv_aload_n hx hb dL_law_269 rfl (lv_at hl 3 rfl) ?_
  refine lv_iload_n hx hb dL_law_270 rfl (lv_at hl 0 rfl) ?_
  refine lv_iconst (v := 4) hx hb dL_law_271 (by decide) ?_
  refine lv_iadd hx hb dL_law_272 ?_
  refine z_i (v := 4) (by decide) ?_
  refine va_sld hx hb hX hbl hbA hS (z_in (by decide)) dL_law_273 ?_
  refine z_i (v := xs 4) (by rfl) ?_
  refine lv_aload_n hx hb dL_law_274 rfl (lv_at hl 3 rfl) ?_
  refine lv_iload_n hx hb dL_law_275 rfl (lv_at hl 0 rfl) ?_
  refine lv_iconst (v := 5) hx hb dL_law_276 (by decide) ?_
  refine lv_iadd hx hb dL_law_277 ?_
  refine z_i (v := 5) (by decide) ?_
  refine va_sld hx hb hX hbl hbA hS (z_in (by decide)) dL_law_278 ?_
  refine z_i (v := xs 5) (by rfl) ?_
  refine wr_Vi (As := [.int (xs 1), .int (xs 2), .int (xs 3), .int (xs 4), .int (xs 5)]) (rest := [.int 20]) caV_SignalTableLaw_17 hx hb hml hown hts hPm hDm hKm hS (fun _ h => h) (isC := [0, 1, 2, 3, 4, 5, 6, 7, 8, 9, 10, 11, 12, 13]) (isR := []) (isT := [0, 1, 2, 3, 4, 5, 6, 7, 8, 9, 10, 11, 12]) (wr := []) ⟨rfl, rfl, rfl, rfl, by decide⟩ rfl (wX12_feed q2 k2 g2 gl2 (xs 1) (xs 2) (xs 3) (xs 4) (xs 5)) bl_T (fun _ _ _ => trivial) (ci := 12) (q0 := 0) rfl rfl (by decide) rfl hl.1 (Nat.le_of_ble_eq_true rfl) (by decide) dL_law_279 rfl (fun _ _ _ _ H locs hP hD hK hS => ?_)
  refine W.cs (cells' := 158) (slots' := 353581) rfl rfl ?_
  refine lv_icmp_eq (tgt := 1494) hx hb dL_law_282 (by decide) (fun _ => ?_) (fun h => absurd rfl h)
  exact fin _ _ _ hS (lv_sub hl [0, 3] rfl)
set_option maxHeartbeats 4000000 in
set_option maxRecDepth 100000 in
theorem lc_1 {p : Program} {l : Launch} {e : Env} {s : State} {m : MethodId} {below : List Frame} {meth : Method} {c : Code} {D : va_G} {b : Nat} {xs : Nat → Int32} {H : Heap} {locs : List Loc} {ls : Array Slot} {Q0 : State → Prop} {q : Nat → Nat} {k : Nat → ClassId} {g : Nat → Nat → Int32} {gl : Nat → Nat → Int64} {q2 : Nat → Nat} {k2 : Nat → ClassId} {g2 : Nat → Nat → Int32} {gl2 : Nat → Nat → Int64} (hx : p.tables.exec = Jvm.exec) (hb : c.code = code) (hml : c.maxLocals = 4) (hown : s.vm.findClass "SignalTableLaw" = some m.cls) (hts : ∀ w ∈ lwg, w.before #[Value.ref b] s = true) (hX : va_X b 6 xs s s.heap) (hbl : b < s.heap.size) (hPx : va_P D vwCl (wX q k g gl) H) (hPm : va_P D vwCl (wM q2 k2 g2 gl2) H) (hKx : va_K D vwCl (tyX k) s) (hKm : va_K D vwCl (tyM k2) s) (hD : va_D (fun a : Nat => s.heap.size ≤ a) (wX q k g gl ++ wM q2 k2 g2 gl2)) (hS : va_S (fun a : Nat => s.heap.size ≤ a) s.heap H locs) (hl : lv_has ls 4 [(3, .int 0), (2, .ref (q2 0)), (1, .ref (q 0)), (0, .ref b)])
    (fin : ∀ (H : Heap) (locs : List Loc) (ls : Array Slot), va_S (fun a : Nat => s.heap.size ≤ a) s.heap H locs → lv_has ls 4 [(3, .int 0), (0, .ref b)] → W p l e room_1 s m #[Value.ref b] below meth c H locs 158 353581 Q0 (F0 m 1494 ls [])) : W p l e room_1 s m #[Value.ref b] below meth c H locs 158 353581 Q0 (F0 m 287 ls []) := by
  have hbA : ¬ (fun a : Nat => s.heap.size ≤ a) b := Nat.not_le.mpr hbl
  refine lv_aload_n hx hb dL_law_287 rfl (lv_at hl 2 rfl) ?_
  refine lv_aload_n hx hb dL_law_288 rfl (lv_at hl 3 rfl) ?_
  refine lv_iload_n hx hb dL_law_289 rfl (lv_at hl 0 rfl) ?_
  refine lv_iconst (v := 1) hx hb dL_law_290 (by decide) ?_
  refine lv_iadd hx hb dL_law_291 ?_
  refine z_i (v := 1) (by decide) ?_
  refine va_sld hx hb hX hbl hbA hS (z_in (by decide)) dL_law_292 ?_
  refine z_i (v := xs 1) (by rfl) ?_
  refine wr_Vi (As := [.int (xs 1)]) (rest := []) caV_SignalTableLaw_18 hx hb hml hown hts (hPx.app hPm) hD (hKx.app hKm) hS (fun _ h => h) (isC := [0, 1, 2, 3, 4, 5, 6, 7, 8, 9, 10, 11, 12, 13, 14, 15, 16, 17, 18, 19, 20, 21, 22, 23, 24, 25]) (isR := [26, 27, 28, 29, 30, 31, 32, 33, 34, 35, 36, 37, 38, 39]) (isT := [0, 1, 2, 3, 4, 5, 6, 7, 8, 9, 10, 11, 12]) (wr := wM q2 k2 g2 gl2) ⟨rfl, rfl, rfl, rfl, by decide⟩ rfl (wX11_back q k g gl (xs 1)) bl_T (fun _ _ _ => trivial) (ci := 11) (q0 := 0) rfl rfl (by decide) rfl hl.1 (Nat.le_of_ble_eq_true rfl) (by decide) dL_law_293 rfl (fun _ _ _ _ H locs hP hD hK hS => ?_)
  have hPm : va_P D vwCl (wM q2 k2 g2 gl2) H := hP.sub [0, 1, 2, 3, 4, 5, 6, 7, 8, 9, 10, 11, 12, 13] rfl
  have hDm : va_D (fun a : Nat => s.heap.size ≤ a) (wM q2 k2 g2 gl2) := hD.sub [0, 1, 2, 3, 4, 5, 6, 7, 8, 9, 10, 11, 12, 13] (by decide) rfl
  refine W.cs (cells' := 158) (slots' := 353581) rfl rfl ?_
  refine lv_aload_n hx hb dL_law_296 rfl (lv_at hl 1 rfl) ?_
  refine lv_aload_n hx hb dL_law_297 rfl (lv_at hl 3 rfl) ?_
  refine lv_iload_n hx hb dL_law_298 rfl (lv_at hl 0 rfl) ?_
  refine lv_iconst (v := 1) hx hb dL_law_299 (by decide) ?_
  refine lv_iadd hx hb dL_law_300 ?_
  refine z_i (v := 1) (by decide) ?_
  refine va_sld hx hb hX hbl hbA hS (z_in (by decide)) dL_law_301 ?_
  refine z_i (v := xs 1) (by rfl) ?_
  refine wr_Vi (As := [.int (xs 1)]) (rest := [.int (if (xs 1) = 0 then 0 else -1)]) caV_SignalTableLaw_22 hx hb hml hown hts hPm hDm hKm hS (fun _ h => h) (isC := [0, 1, 2, 3, 4, 5, 6, 7, 8, 9, 10, 11, 12, 13]) (isR := []) (isT := [0, 1, 2, 3, 4, 5, 6, 7, 8, 9, 10, 11, 12]) (wr := []) ⟨rfl, rfl, rfl, rfl, by decide⟩ rfl (wX12_back q2 k2 g2 gl2 (xs 1)) bl_T (fun _ _ _ => trivial) (ci := 12) (q0 := 0) rfl rfl (by decide) rfl hl.1 (Nat.le_of_ble_eq_true rfl) (by decide) dL_law_302 rfl (fun _ _ _ _ H locs hP hD hK hS => ?_)
  refine W.cs (cells' := 158) (slots' := 353581) rfl rfl ?_
  refine lv_icmp_eq (tgt := 1494) hx hb dL_law_305 (by decide) (fun _ => ?_) (fun h => absurd rfl h)
  exact fin _ _ _ hS (lv_sub hl [0, 3] rfl)
set_option maxHeartbeats 4000000 in
set_option maxRecDepth 100000 in
theorem lc_2 {p : Program} {l : Launch} {e : Env} {s : State} {m : MethodId} {below : List Frame} {meth : Method} {c : Code} {D : va_G} {b : Nat} {xs : Nat → Int32} {H : Heap} {locs : List Loc} {ls : Array Slot} {Q0 : State → Prop} {q : Nat → Nat} {k : Nat → ClassId} {g : Nat → Nat → Int32} {gl : Nat → Nat → Int64} {q2 : Nat → Nat} {k2 : Nat → ClassId} {g2 : Nat → Nat → Int32} {gl2 : Nat → Nat → Int64} (hx : p.tables.exec = Jvm.exec) (hb : c.code = code) (hml : c.maxLocals = 4) (hown : s.vm.findClass "SignalTableLaw" = some m.cls) (hts : ∀ w ∈ lwg, w.before #[Value.ref b] s = true) (hX : va_X b 6 xs s s.heap) (hbl : b < s.heap.size) (hPx : va_P D vwCl (wX q k g gl) H) (hPm : va_P D vwCl (wM q2 k2 g2 gl2) H) (hKx : va_K D vwCl (tyX k) s) (hKm : va_K D vwCl (tyM k2) s) (hD : va_D (fun a : Nat => s.heap.size ≤ a) (wX q k g gl ++ wM q2 k2 g2 gl2)) (hS : va_S (fun a : Nat => s.heap.size ≤ a) s.heap H locs) (hl : lv_has ls 4 [(3, .int 0), (2, .ref (q2 0)), (1, .ref (q 0)), (0, .ref b)])
    (fin : ∀ (H : Heap) (locs : List Loc) (ls : Array Slot), va_S (fun a : Nat => s.heap.size ≤ a) s.heap H locs → lv_has ls 4 [(3, .int 0), (0, .ref b)] → W p l e room_1 s m #[Value.ref b] below meth c H locs 158 353581 Q0 (F0 m 1494 ls [])) : W p l e room_1 s m #[Value.ref b] below meth c H locs 158 353581 Q0 (F0 m 310 ls []) := by
  have hbA : ¬ (fun a : Nat => s.heap.size ≤ a) b := Nat.not_le.mpr hbl
  refine lv_aload_n hx hb dL_law_310 rfl (lv_at hl 2 rfl) ?_
  refine wr_Vi (As := []) (rest := []) caV_SignalTableLaw_23 hx hb hml hown hts (hPx.app hPm) hD (hKx.app hKm) hS (fun _ h => h) (isC := [0, 1, 2, 3, 4, 5, 6, 7, 8, 9, 10, 11, 12, 13, 14, 15, 16, 17, 18, 19, 20, 21, 22, 23, 24, 25]) (isR := [26, 27, 28, 29, 30, 31, 32, 33, 34, 35, 36, 37, 38, 39]) (isT := [0, 1, 2, 3, 4, 5, 6, 7, 8, 9, 10, 11, 12]) (wr := wM q2 k2 g2 gl2) ⟨rfl, rfl, rfl, rfl, by decide⟩ rfl (wX11_read q k g gl) bl_T (fun _ _ _ => trivial) (ci := 11) (q0 := 0) rfl rfl (by decide) rfl hl.1 (Nat.le_of_ble_eq_true rfl) (by decide) dL_law_311 rfl (fun _ _ _ _ H locs hP hD hK hS => ?_)
  have hPm : va_P D vwCl (wM q2 k2 g2 gl2) H := hP.sub [0, 1, 2, 3, 4, 5, 6, 7, 8, 9, 10, 11, 12, 13] rfl
  have hDm : va_D (fun a : Nat => s.heap.size ≤ a) (wM q2 k2 g2 gl2) := hD.sub [0, 1, 2, 3, 4, 5, 6, 7, 8, 9, 10, 11, 12, 13] (by decide) rfl
  refine W.cs (cells' := 158) (slots' := 353581) rfl rfl ?_
  refine lv_aload_n hx hb dL_law_314 rfl (lv_at hl 1 rfl) ?_
  refine wr_Vi (As := []) (rest := [.int 0]) caV_SignalTableLaw_27 hx hb hml hown hts hPm hDm hKm hS (fun _ h => h) (isC := [0, 1, 2, 3, 4, 5, 6, 7, 8, 9, 10, 11, 12, 13]) (isR := []) (isT := [0, 1, 2, 3, 4, 5, 6, 7, 8, 9, 10, 11, 12]) (wr := []) ⟨rfl, rfl, rfl, rfl, by decide⟩ rfl (wX12_read q2 k2 g2 gl2) bl_T (fun _ _ _ => trivial) (ci := 12) (q0 := 0) rfl rfl (by decide) rfl hl.1 (Nat.le_of_ble_eq_true rfl) (by decide) dL_law_315 rfl (fun _ _ _ _ H locs hP hD hK hS => ?_)
  refine W.cs (cells' := 158) (slots' := 353581) rfl rfl ?_
  refine lv_icmp_eq (tgt := 1494) hx hb dL_law_318 (by decide) (fun _ => ?_) (fun h => absurd rfl h)
  exact fin _ _ _ hS (lv_sub hl [0, 3] rfl)
set_option maxHeartbeats 4000000 in
set_option maxRecDepth 100000 in
theorem lc_3 {p : Program} {l : Launch} {e : Env} {s : State} {m : MethodId} {below : List Frame} {meth : Method} {c : Code} {D : va_G} {b : Nat} {xs : Nat → Int32} {H : Heap} {locs : List Loc} {ls : Array Slot} {Q0 : State → Prop} {q : Nat → Nat} {k : Nat → ClassId} {g : Nat → Nat → Int32} {gl : Nat → Nat → Int64} {q2 : Nat → Nat} {k2 : Nat → ClassId} {g2 : Nat → Nat → Int32} {gl2 : Nat → Nat → Int64} (hx : p.tables.exec = Jvm.exec) (hb : c.code = code) (hml : c.maxLocals = 4) (hown : s.vm.findClass "SignalTableLaw" = some m.cls) (hts : ∀ w ∈ lwg, w.before #[Value.ref b] s = true) (hX : va_X b 6 xs s s.heap) (hbl : b < s.heap.size) (hPx : va_P D vwCl (wX q k g gl) H) (hPm : va_P D vwCl (wM q2 k2 g2 gl2) H) (hKx : va_K D vwCl (tyX k) s) (hKm : va_K D vwCl (tyM k2) s) (hD : va_D (fun a : Nat => s.heap.size ≤ a) (wX q k g gl ++ wM q2 k2 g2 gl2)) (hS : va_S (fun a : Nat => s.heap.size ≤ a) s.heap H locs) (hl : lv_has ls 4 [(3, .int 0), (2, .ref (q2 0)), (1, .ref (q 0)), (0, .ref b)])
    (fin : ∀ (H : Heap) (locs : List Loc) (ls : Array Slot), va_S (fun a : Nat => s.heap.size ≤ a) s.heap H locs → lv_has ls 4 [(3, .int 0), (0, .ref b)] → W p l e room_1 s m #[Value.ref b] below meth c H locs 158 353581 Q0 (F0 m 1494 ls [])) : W p l e room_1 s m #[Value.ref b] below meth c H locs 158 353581 Q0 (F0 m 323 ls []) := by
  have hbA : ¬ (fun a : Nat => s.heap.size ≤ a) b := Nat.not_le.mpr hbl
  refine lv_aload_n hx hb dL_law_323 rfl (lv_at hl 2 rfl) ?_
  refine rd_V (As := []) (rest := []) (d := 0) caV_SignalTableLaw_28 hx hb hml hown hts hPx hKx (rX_X11_place) (ci := 11) (q0 := 0) rfl rfl (by decide) rfl hl.1 (Nat.le_of_ble_eq_true rfl) (by decide) dL_law_324 rfl ?_
  refine lv_aload_n hx hb dL_law_327 rfl (lv_at hl 1 rfl) ?_
  refine rd_V (As := []) (rest := [.int (-1)]) (d := 0) caV_SignalTableLaw_31 hx hb hml hown hts hPm hKm (rM_X12_place) (ci := 12) (q0 := 0) rfl rfl (by decide) rfl hl.1 (Nat.le_of_ble_eq_true rfl) (by decide) dL_law_328 rfl ?_
  refine lv_icmp_eq (tgt := 1494) hx hb dL_law_331 (by decide) (fun _ => ?_) (fun h => absurd rfl h)
  exact fin _ _ _ hS (lv_sub hl [0, 3] rfl)
set_option maxHeartbeats 4000000 in
set_option maxRecDepth 100000 in
theorem lc_4 {p : Program} {l : Launch} {e : Env} {s : State} {m : MethodId} {below : List Frame} {meth : Method} {c : Code} {D : va_G} {b : Nat} {xs : Nat → Int32} {H : Heap} {locs : List Loc} {ls : Array Slot} {Q0 : State → Prop} {q : Nat → Nat} {k : Nat → ClassId} {g : Nat → Nat → Int32} {gl : Nat → Nat → Int64} {q2 : Nat → Nat} {k2 : Nat → ClassId} {g2 : Nat → Nat → Int32} {gl2 : Nat → Nat → Int64} (hx : p.tables.exec = Jvm.exec) (hb : c.code = code) (hml : c.maxLocals = 4) (hown : s.vm.findClass "SignalTableLaw" = some m.cls) (hts : ∀ w ∈ lwg, w.before #[Value.ref b] s = true) (hX : va_X b 6 xs s s.heap) (hbl : b < s.heap.size) (hPx : va_P D vwCl (wX q k g gl) H) (hPm : va_P D vwCl (wM q2 k2 g2 gl2) H) (hKx : va_K D vwCl (tyX k) s) (hKm : va_K D vwCl (tyM k2) s) (hD : va_D (fun a : Nat => s.heap.size ≤ a) (wX q k g gl ++ wM q2 k2 g2 gl2)) (hS : va_S (fun a : Nat => s.heap.size ≤ a) s.heap H locs) (hl : lv_has ls 4 [(3, .int 0), (2, .ref (q2 0)), (1, .ref (q 0)), (0, .ref b)])
    (fin : ∀ (H : Heap) (locs : List Loc) (ls : Array Slot), va_S (fun a : Nat => s.heap.size ≤ a) s.heap H locs → lv_has ls 4 [(3, .int 0), (0, .ref b)] → W p l e room_1 s m #[Value.ref b] below meth c H locs 158 353581 Q0 (F0 m 1494 ls [])) : W p l e room_1 s m #[Value.ref b] below meth c H locs 158 353581 Q0 (F0 m 336 ls []) := by
  have hbA : ¬ (fun a : Nat => s.heap.size ≤ a) b := Nat.not_le.mpr hbl
  refine lv_aload_n hx hb dL_law_336 rfl (lv_at hl 2 rfl) ?_
  refine lv_aload_n hx hb dL_law_337 rfl (lv_at hl 3 rfl) ?_
  refine lv_iload_n hx hb dL_law_338 rfl (lv_at hl 0 rfl) ?_
  refine lv_iconst (v := 1) hx hb dL_law_339 (by decide) ?_
  refine lv_iadd hx hb dL_law_340 ?_
  refine z_i (v := 1) (by decide) ?_
  refine va_sld hx hb hX hbl hbA hS (z_in (by decide)) dL_law_341 ?_
  refine z_i (v := xs 1) (by rfl) ?_
  refine wr_Vi (As := [.int (xs 1)]) (rest := []) caV_SignalTableLaw_32 hx hb hml hown hts (hPx.app hPm) hD (hKx.app hKm) hS (fun _ h => h) (isC := [0, 1, 2, 3, 4, 5, 6, 7, 8, 9, 10, 11, 12, 13, 14, 15, 16, 17, 18, 19, 20, 21, 22, 23, 24, 25]) (isR := [26, 27, 28, 29, 30, 31, 32, 33, 34, 35, 36, 37, 38, 39]) (isT := [0, 1, 2, 3, 4, 5, 6, 7, 8, 9, 10, 11, 12]) (wr := wM q2 k2 g2 gl2) ⟨rfl, rfl, rfl, rfl, by decide⟩ rfl (wX11_deal q k g gl (xs 1)) bl_T (fun _ _ _ => trivial) (ci := 11) (q0 := 0) rfl rfl (by decide) rfl hl.1 (Nat.le_of_ble_eq_true rfl) (by decide) dL_law_342 rfl (fun _ _ _ _ H locs hP hD hK hS => ?_)
  have hPm : va_P D vwCl (wM q2 k2 g2 gl2) H := hP.sub [0, 1, 2, 3, 4, 5, 6, 7, 8, 9, 10, 11, 12, 13] rfl
  have hDm : va_D (fun a : Nat => s.heap.size ≤ a) (wM q2 k2 g2 gl2) := hD.sub [0, 1, 2, 3, 4, 5, 6, 7, 8, 9, 10, 11, 12, 13] (by decide) rfl
  refine W.cs (cells' := 158) (slots' := 353581) rfl rfl ?_
  refine lv_aload_n hx hb dL_law_345 rfl (lv_at hl 1 rfl) ?_
  refine lv_aload_n hx hb dL_law_346 rfl (lv_at hl 3 rfl) ?_
  refine lv_iload_n hx hb dL_law_347 rfl (lv_at hl 0 rfl) ?_
  refine lv_iconst (v := 1) hx hb dL_law_348 (by decide) ?_
  refine lv_iadd hx hb dL_law_349 ?_
  refine z_i (v := 1) (by decide) ?_
  refine va_sld hx hb hX hbl hbA hS (z_in (by decide)) dL_law_350 ?_
  refine z_i (v := xs 1) (by rfl) ?_
  refine wr_Vi (As := [.int (xs 1)]) (rest := [.int 1]) caV_SignalTableLaw_36 hx hb hml hown hts hPm hDm hKm hS (fun _ h => h) (isC := [0, 1, 2, 3, 4, 5, 6, 7, 8, 9, 10, 11, 12, 13]) (isR := []) (isT := [0, 1, 2, 3, 4, 5, 6, 7, 8, 9, 10, 11, 12]) (wr := []) ⟨rfl, rfl, rfl, rfl, by decide⟩ rfl (wX12_deal q2 k2 g2 gl2 (xs 1)) bl_T (fun _ _ _ => trivial) (ci := 12) (q0 := 0) rfl rfl (by decide) rfl hl.1 (Nat.le_of_ble_eq_true rfl) (by decide) dL_law_351 rfl (fun _ _ _ _ H locs hP hD hK hS => ?_)
  refine W.cs (cells' := 158) (slots' := 353581) rfl rfl ?_
  refine lv_icmp_eq (tgt := 1494) hx hb dL_law_354 (by decide) (fun _ => ?_) (fun h => absurd rfl h)
  exact fin _ _ _ hS (lv_sub hl [0, 3] rfl)
set_option maxHeartbeats 4000000 in
set_option maxRecDepth 100000 in
theorem lc_5 {p : Program} {l : Launch} {e : Env} {s : State} {m : MethodId} {below : List Frame} {meth : Method} {c : Code} {D : va_G} {b : Nat} {xs : Nat → Int32} {H : Heap} {locs : List Loc} {ls : Array Slot} {Q0 : State → Prop} {q : Nat → Nat} {k : Nat → ClassId} {g : Nat → Nat → Int32} {gl : Nat → Nat → Int64} {q2 : Nat → Nat} {k2 : Nat → ClassId} {g2 : Nat → Nat → Int32} {gl2 : Nat → Nat → Int64} (hx : p.tables.exec = Jvm.exec) (hb : c.code = code) (hml : c.maxLocals = 4) (hown : s.vm.findClass "SignalTableLaw" = some m.cls) (hts : ∀ w ∈ lwg, w.before #[Value.ref b] s = true) (hX : va_X b 6 xs s s.heap) (hbl : b < s.heap.size) (hPx : va_P D vwCl (wX q k g gl) H) (hPm : va_P D vwCl (wM q2 k2 g2 gl2) H) (hKx : va_K D vwCl (tyX k) s) (hKm : va_K D vwCl (tyM k2) s) (hD : va_D (fun a : Nat => s.heap.size ≤ a) (wX q k g gl ++ wM q2 k2 g2 gl2)) (hS : va_S (fun a : Nat => s.heap.size ≤ a) s.heap H locs) (hl : lv_has ls 4 [(3, .int 0), (2, .ref (q2 0)), (1, .ref (q 0)), (0, .ref b)])
    (fin : ∀ (H : Heap) (locs : List Loc) (ls : Array Slot), va_S (fun a : Nat => s.heap.size ≤ a) s.heap H locs → lv_has ls 4 [(3, .int 0), (0, .ref b)] → W p l e room_1 s m #[Value.ref b] below meth c H locs 158 353581 Q0 (F0 m 1494 ls [])) : W p l e room_1 s m #[Value.ref b] below meth c H locs 158 353581 Q0 (F0 m 359 ls []) := by
  have hbA : ¬ (fun a : Nat => s.heap.size ≤ a) b := Nat.not_le.mpr hbl
  refine lv_aload_n hx hb dL_law_359 rfl (lv_at hl 2 rfl) ?_
  refine lv_aload_n hx hb dL_law_360 rfl (lv_at hl 3 rfl) ?_
  refine lv_iload_n hx hb dL_law_361 rfl (lv_at hl 0 rfl) ?_
  refine lv_iconst (v := 1) hx hb dL_law_362 (by decide) ?_
  refine lv_iadd hx hb dL_law_363 ?_
  refine z_i (v := 1) (by decide) ?_
  refine va_sld hx hb hX hbl hbA hS (z_in (by decide)) dL_law_364 ?_
  refine z_i (v := xs 1) (by rfl) ?_
  refine lv_aload_n hx hb dL_law_365 rfl (lv_at hl 3 rfl) ?_
  refine lv_iload_n hx hb dL_law_366 rfl (lv_at hl 0 rfl) ?_
  refine lv_iconst (v := 2) hx hb dL_law_367 (by decide) ?_
  refine lv_iadd hx hb dL_law_368 ?_
  refine z_i (v := 2) (by decide) ?_
  refine va_sld hx hb hX hbl hbA hS (z_in (by decide)) dL_law_369 ?_
  refine z_i (v := xs 2) (by rfl) ?_
  refine lv_aload_n hx hb dL_law_370 rfl (lv_at hl 3 rfl) ?_
  refine lv_iload_n hx hb dL_law_371 rfl (lv_at hl 0 rfl) ?_
  refine lv_iconst (v := 3) hx hb dL_law_372 (by decide) ?_
  refine lv_iadd hx hb dL_law_373 ?_
  refine z_i (v := 3) (by decide) ?_
  refine va_sld hx hb hX hbl hbA hS (z_in (by decide)) dL_law_374 ?_
  refine z_i (v := xs 3) (by rfl) ?_
  refine wr_Vi (As := [.int (xs 1), .int (xs 2), .int (xs 3)]) (rest := []) caV_SignalTableLaw_37 hx hb hml hown hts (hPx.app hPm) hD (hKx.app hKm) hS (fun _ h => h) (isC := [0, 1, 2, 3, 4, 5, 6, 7, 8, 9, 10, 11, 12, 13, 14, 15, 16, 17, 18, 19, 20, 21, 22, 23, 24, 25]) (isR := [26, 27, 28, 29, 30, 31, 32, 33, 34, 35, 36, 37, 38, 39]) (isT := [0, 1, 2, 3, 4, 5, 6, 7, 8, 9, 10, 11, 12]) (wr := wM q2 k2 g2 gl2) ⟨rfl, rfl, rfl, rfl, by decide⟩ rfl (wX11_hands q k g gl (xs 1) (xs 2) (xs 3)) bl_T (fun _ _ _ => trivial) (ci := 11) (q0 := 0) rfl rfl (by decide) rfl hl.1 (Nat.le_of_ble_eq_true rfl) (by decide) dL_law_375 rfl (fun _ _ _ _ H locs hP hD hK hS => ?_)
  have hPm : va_P D vwCl (wM q2 k2 g2 gl2) H := hP.sub [0, 1, 2, 3, 4, 5, 6, 7, 8, 9, 10, 11, 12, 13] rfl
  have hDm : va_D (fun a : Nat => s.heap.size ≤ a) (wM q2 k2 g2 gl2) := hD.sub [0, 1, 2, 3, 4, 5, 6, 7, 8, 9, 10, 11, 12, 13] (by decide) rfl
  refine W.cs (cells' := 158) (slots' := 353581) rfl rfl ?_
  refine lv_aload_n hx hb dL_law_378 rfl (lv_at hl 1 rfl) ?_
  refine lv_aload_n hx hb dL_law_379 rfl (lv_at hl 3 rfl) ?_
  refine lv_iload_n hx hb dL_law_380 rfl (lv_at hl 0 rfl) ?_
  refine lv_iconst (v := 1) hx hb dL_law_381 (by decide) ?_
  refine lv_iadd hx hb dL_law_382 ?_
  refine z_i (v := 1) (by decide) ?_
  refine va_sld hx hb hX hbl hbA hS (z_in (by decide)) dL_law_383 ?_
  refine z_i (v := xs 1) (by rfl) ?_
  refine lv_aload_n hx hb dL_law_384 rfl (lv_at hl 3 rfl) ?_
  refine lv_iload_n hx hb dL_law_385 rfl (lv_at hl 0 rfl) ?_
  refine lv_iconst (v := 2) hx hb dL_law_386 (by decide) ?_
  refine lv_iadd hx hb dL_law_387 ?_
  refine z_i (v := 2) (by decide) ?_
  refine va_sld hx hb hX hbl hbA hS (z_in (by decide)) dL_law_388 ?_
  refine z_i (v := xs 2) (by rfl) ?_
  refine lv_aload_n hx hb dL_law_389 rfl (lv_at hl 3 rfl) ?_
  refine lv_iload_n hx hb dL_law_390 rfl (lv_at hl 0 rfl) ?_
  refine lv_iconst (v := 3) hx hb dL_law_391 (by decide) ?_
  refine lv_iadd hx hb dL_law_392 ?_
  refine z_i (v := 3) (by decide) ?_
  refine va_sld hx hb hX hbl hbA hS (z_in (by decide)) dL_law_393 ?_
  refine z_i (v := xs 3) (by rfl) ?_
  refine wr_Vi (As := [.int (xs 1), .int (xs 2), .int (xs 3)]) (rest := [.int (if hOK okX (xs 1) (xs 2) (xs 3) = true then 1 else 0)]) caV_SignalTableLaw_41 hx hb hml hown hts hPm hDm hKm hS (fun _ h => h) (isC := [0, 1, 2, 3, 4, 5, 6, 7, 8, 9, 10, 11, 12, 13]) (isR := []) (isT := [0, 1, 2, 3, 4, 5, 6, 7, 8, 9, 10, 11, 12]) (wr := []) ⟨rfl, rfl, rfl, rfl, by decide⟩ rfl (wX12_hands q2 k2 g2 gl2 (xs 1) (xs 2) (xs 3)) bl_T (fun _ _ _ => trivial) (ci := 12) (q0 := 0) rfl rfl (by decide) rfl hl.1 (Nat.le_of_ble_eq_true rfl) (by decide) dL_law_394 rfl (fun _ _ _ _ H locs hP hD hK hS => ?_)
  refine W.cs (cells' := 158) (slots' := 353581) rfl rfl ?_
  refine z_i (v := (if hOK okX (xs 1) (xs 2) (xs 3) = true then 1 else 0)) (by rw [hOK_eq]) ?_
  refine lv_icmp_eq (tgt := 1494) hx hb dL_law_397 (by decide) (fun _ => ?_) (fun h => absurd rfl h)
  exact fin _ _ _ hS (lv_sub hl [0, 3] rfl)
set_option maxHeartbeats 4000000 in
set_option maxRecDepth 100000 in
theorem lc_6 {p : Program} {l : Launch} {e : Env} {s : State} {m : MethodId} {below : List Frame} {meth : Method} {c : Code} {D : va_G} {b : Nat} {xs : Nat → Int32} {H : Heap} {locs : List Loc} {ls : Array Slot} {Q0 : State → Prop} {q : Nat → Nat} {k : Nat → ClassId} {g : Nat → Nat → Int32} {gl : Nat → Nat → Int64} {q2 : Nat → Nat} {k2 : Nat → ClassId} {g2 : Nat → Nat → Int32} {gl2 : Nat → Nat → Int64} (hx : p.tables.exec = Jvm.exec) (hb : c.code = code) (hml : c.maxLocals = 4) (hown : s.vm.findClass "SignalTableLaw" = some m.cls) (hts : ∀ w ∈ lwg, w.before #[Value.ref b] s = true) (hX : va_X b 6 xs s s.heap) (hbl : b < s.heap.size) (hPx : va_P D vwCl (wX q k g gl) H) (hPm : va_P D vwCl (wM q2 k2 g2 gl2) H) (hKx : va_K D vwCl (tyX k) s) (hKm : va_K D vwCl (tyM k2) s) (hD : va_D (fun a : Nat => s.heap.size ≤ a) (wX q k g gl ++ wM q2 k2 g2 gl2)) (hS : va_S (fun a : Nat => s.heap.size ≤ a) s.heap H locs) (hl : lv_has ls 4 [(3, .int 0), (2, .ref (q2 0)), (1, .ref (q 0)), (0, .ref b)])
    (fin : ∀ (H : Heap) (locs : List Loc) (ls : Array Slot), va_S (fun a : Nat => s.heap.size ≤ a) s.heap H locs → lv_has ls 4 [(3, .int 0), (0, .ref b)] → W p l e room_1 s m #[Value.ref b] below meth c H locs 158 353581 Q0 (F0 m 1494 ls [])) : W p l e room_1 s m #[Value.ref b] below meth c H locs 158 353581 Q0 (F0 m 402 ls []) := by
  have hbA : ¬ (fun a : Nat => s.heap.size ≤ a) b := Nat.not_le.mpr hbl
  refine lv_aload_n hx hb dL_law_402 rfl (lv_at hl 2 rfl) ?_
  refine lv_aload_n hx hb dL_law_403 rfl (lv_at hl 3 rfl) ?_
  refine lv_iload_n hx hb dL_law_404 rfl (lv_at hl 0 rfl) ?_
  refine lv_iconst (v := 1) hx hb dL_law_405 (by decide) ?_
  refine lv_iadd hx hb dL_law_406 ?_
  refine z_i (v := 1) (by decide) ?_
  refine va_sld hx hb hX hbl hbA hS (z_in (by decide)) dL_law_407 ?_
  refine z_i (v := xs 1) (by rfl) ?_
  refine rd_V (As := [.int (xs 1)]) (rest := []) (d := 0) caV_SignalTableLaw_42 hx hb hml hown hts hPx hKx (rX_X11_lead (xs 1)) (ci := 11) (q0 := 0) rfl rfl (by decide) rfl hl.1 (Nat.le_of_ble_eq_true rfl) (by decide) dL_law_408 rfl ?_
  refine lv_aload_n hx hb dL_law_411 rfl (lv_at hl 1 rfl) ?_
  refine lv_aload_n hx hb dL_law_412 rfl (lv_at hl 3 rfl) ?_
  refine lv_iload_n hx hb dL_law_413 rfl (lv_at hl 0 rfl) ?_
  refine lv_iconst (v := 1) hx hb dL_law_414 (by decide) ?_
  refine lv_iadd hx hb dL_law_415 ?_
  refine z_i (v := 1) (by decide) ?_
  refine va_sld hx hb hX hbl hbA hS (z_in (by decide)) dL_law_416 ?_
  refine z_i (v := xs 1) (by rfl) ?_
  refine rd_V (As := [.int (xs 1)]) (rest := [.int 0]) (d := 0) caV_SignalTableLaw_45 hx hb hml hown hts hPm hKm (rM_X12_lead (xs 1)) (ci := 12) (q0 := 0) rfl rfl (by decide) rfl hl.1 (Nat.le_of_ble_eq_true rfl) (by decide) dL_law_417 rfl ?_
  refine lv_icmp_eq (tgt := 1494) hx hb dL_law_420 (by decide) (fun _ => ?_) (fun h => absurd rfl h)
  exact fin _ _ _ hS (lv_sub hl [0, 3] rfl)
set_option maxHeartbeats 4000000 in
set_option maxRecDepth 100000 in
theorem lc_7 {p : Program} {l : Launch} {e : Env} {s : State} {m : MethodId} {below : List Frame} {meth : Method} {c : Code} {D : va_G} {b : Nat} {xs : Nat → Int32} {H : Heap} {locs : List Loc} {ls : Array Slot} {Q0 : State → Prop} {q : Nat → Nat} {k : Nat → ClassId} {g : Nat → Nat → Int32} {gl : Nat → Nat → Int64} {q2 : Nat → Nat} {k2 : Nat → ClassId} {g2 : Nat → Nat → Int32} {gl2 : Nat → Nat → Int64} (hx : p.tables.exec = Jvm.exec) (hb : c.code = code) (hml : c.maxLocals = 4) (hown : s.vm.findClass "SignalTableLaw" = some m.cls) (hts : ∀ w ∈ lwg, w.before #[Value.ref b] s = true) (hX : va_X b 6 xs s s.heap) (hbl : b < s.heap.size) (hPx : va_P D vwCl (wX q k g gl) H) (hPm : va_P D vwCl (wM q2 k2 g2 gl2) H) (hKx : va_K D vwCl (tyX k) s) (hKm : va_K D vwCl (tyM k2) s) (hD : va_D (fun a : Nat => s.heap.size ≤ a) (wX q k g gl ++ wM q2 k2 g2 gl2)) (hS : va_S (fun a : Nat => s.heap.size ≤ a) s.heap H locs) (hl : lv_has ls 4 [(3, .int 0), (2, .ref (q2 0)), (1, .ref (q 0)), (0, .ref b)])
    (fin : ∀ (H : Heap) (locs : List Loc) (ls : Array Slot), va_S (fun a : Nat => s.heap.size ≤ a) s.heap H locs → lv_has ls 4 [(3, .int 0), (0, .ref b)] → W p l e room_1 s m #[Value.ref b] below meth c H locs 158 353581 Q0 (F0 m 1494 ls [])) : W p l e room_1 s m #[Value.ref b] below meth c H locs 158 353581 Q0 (F0 m 425 ls []) := by
  have hbA : ¬ (fun a : Nat => s.heap.size ≤ a) b := Nat.not_le.mpr hbl
  refine lv_aload_n hx hb dL_law_425 rfl (lv_at hl 2 rfl) ?_
  refine lv_aload_n hx hb dL_law_426 rfl (lv_at hl 3 rfl) ?_
  refine lv_iload_n hx hb dL_law_427 rfl (lv_at hl 0 rfl) ?_
  refine lv_iconst (v := 1) hx hb dL_law_428 (by decide) ?_
  refine lv_iadd hx hb dL_law_429 ?_
  refine z_i (v := 1) (by decide) ?_
  refine va_sld hx hb hX hbl hbA hS (z_in (by decide)) dL_law_430 ?_
  refine z_i (v := xs 1) (by rfl) ?_
  refine lv_aload_n hx hb dL_law_431 rfl (lv_at hl 3 rfl) ?_
  refine lv_iload_n hx hb dL_law_432 rfl (lv_at hl 0 rfl) ?_
  refine lv_iconst (v := 2) hx hb dL_law_433 (by decide) ?_
  refine lv_iadd hx hb dL_law_434 ?_
  refine z_i (v := 2) (by decide) ?_
  refine va_sld hx hb hX hbl hbA hS (z_in (by decide)) dL_law_435 ?_
  refine z_i (v := xs 2) (by rfl) ?_
  refine lv_if_eq (tgt := 443) hx hb dL_law_436 (by decide) (fun c_1 => ?_) (fun c_1 => ?_)
  · skip
    refine lv_iconst (v := 0) hx hb dL_law_443 (by decide) ?_
    refine rd_V (As := [.int (xs 1), .int 0]) (rest := []) (d := 0) caV_SignalTableLaw_46 hx hb hml hown hts hPx hKx (rX_X11_hand (xs 1) 0) (ci := 11) (q0 := 0) rfl rfl (by decide) rfl hl.1 (Nat.le_of_ble_eq_true rfl) (by decide) dL_law_444 rfl ?_
    refine lv_aload_n hx hb dL_law_447 rfl (lv_at hl 1 rfl) ?_
    refine lv_aload_n hx hb dL_law_448 rfl (lv_at hl 3 rfl) ?_
    refine lv_iload_n hx hb dL_law_449 rfl (lv_at hl 0 rfl) ?_
    refine lv_iconst (v := 1) hx hb dL_law_450 (by decide) ?_
    refine lv_iadd hx hb dL_law_451 ?_
    refine z_i (v := 1) (by decide) ?_
    refine va_sld hx hb hX hbl hbA hS (z_in (by decide)) dL_law_452 ?_
    refine z_i (v := xs 1) (by rfl) ?_
    refine lv_aload_n hx hb dL_law_453 rfl (lv_at hl 3 rfl) ?_
    refine lv_iload_n hx hb dL_law_454 rfl (lv_at hl 0 rfl) ?_
    refine lv_iconst (v := 2) hx hb dL_law_455 (by decide) ?_
    refine lv_iadd hx hb dL_law_456 ?_
    refine z_i (v := 2) (by decide) ?_
    refine va_sld hx hb hX hbl hbA hS (z_in (by decide)) dL_law_457 ?_
    refine z_i (v := xs 2) (by rfl) ?_
    refine lv_if_eq (tgt := 465) hx hb dL_law_458 (by decide) (fun c_2 => ?_) (fun c_2 => ?_)
    · skip
      refine lv_iconst (v := 0) hx hb dL_law_465 (by decide) ?_
      refine rd_V (As := [.int (xs 1), .int 0]) (rest := [.int (-1)]) (d := 0) caV_SignalTableLaw_50 hx hb hml hown hts hPm hKm (rM_X12_hand (xs 1) 0) (ci := 12) (q0 := 0) rfl rfl (by decide) rfl hl.1 (Nat.le_of_ble_eq_true rfl) (by decide) dL_law_466 rfl ?_
      refine lv_icmp_eq (tgt := 1494) hx hb dL_law_469 (by decide) (fun _ => ?_) (fun h => absurd rfl h)
      exact fin _ _ _ hS (lv_sub hl [0, 3] rfl)
    · skip
      refine lv_iconst (v := 1) hx hb dL_law_461 (by decide) ?_
      refine lv_goto (tgt := 466) hx hb dL_law_462 (by decide) ?_
      refine rd_V (As := [.int (xs 1), .int 1]) (rest := [.int (-1)]) (d := 0) caV_SignalTableLaw_50 hx hb hml hown hts hPm hKm (rM_X12_hand (xs 1) 1) (ci := 12) (q0 := 0) rfl rfl (by decide) rfl hl.1 (Nat.le_of_ble_eq_true rfl) (by decide) dL_law_466 rfl ?_
      refine lv_icmp_eq (tgt := 1494) hx hb dL_law_469 (by decide) (fun _ => ?_) (fun h => absurd rfl h)
      exact fin _ _ _ hS (lv_sub hl [0, 3] rfl)
  · skip
    refine lv_iconst (v := 1) hx hb dL_law_439 (by decide) ?_
    refine lv_goto (tgt := 444) hx hb dL_law_440 (by decide) ?_
    refine rd_V (As := [.int (xs 1), .int 1]) (rest := []) (d := 0) caV_SignalTableLaw_46 hx hb hml hown hts hPx hKx (rX_X11_hand (xs 1) 1) (ci := 11) (q0 := 0) rfl rfl (by decide) rfl hl.1 (Nat.le_of_ble_eq_true rfl) (by decide) dL_law_444 rfl ?_
    refine lv_aload_n hx hb dL_law_447 rfl (lv_at hl 1 rfl) ?_
    refine lv_aload_n hx hb dL_law_448 rfl (lv_at hl 3 rfl) ?_
    refine lv_iload_n hx hb dL_law_449 rfl (lv_at hl 0 rfl) ?_
    refine lv_iconst (v := 1) hx hb dL_law_450 (by decide) ?_
    refine lv_iadd hx hb dL_law_451 ?_
    refine z_i (v := 1) (by decide) ?_
    refine va_sld hx hb hX hbl hbA hS (z_in (by decide)) dL_law_452 ?_
    refine z_i (v := xs 1) (by rfl) ?_
    refine lv_aload_n hx hb dL_law_453 rfl (lv_at hl 3 rfl) ?_
    refine lv_iload_n hx hb dL_law_454 rfl (lv_at hl 0 rfl) ?_
    refine lv_iconst (v := 2) hx hb dL_law_455 (by decide) ?_
    refine lv_iadd hx hb dL_law_456 ?_
    refine z_i (v := 2) (by decide) ?_
    refine va_sld hx hb hX hbl hbA hS (z_in (by decide)) dL_law_457 ?_
    refine z_i (v := xs 2) (by rfl) ?_
    refine lv_if_eq (tgt := 465) hx hb dL_law_458 (by decide) (fun c_3 => ?_) (fun c_3 => ?_)
    · skip
      refine lv_iconst (v := 0) hx hb dL_law_465 (by decide) ?_
      refine rd_V (As := [.int (xs 1), .int 0]) (rest := [.int (-1)]) (d := 0) caV_SignalTableLaw_50 hx hb hml hown hts hPm hKm (rM_X12_hand (xs 1) 0) (ci := 12) (q0 := 0) rfl rfl (by decide) rfl hl.1 (Nat.le_of_ble_eq_true rfl) (by decide) dL_law_466 rfl ?_
      refine lv_icmp_eq (tgt := 1494) hx hb dL_law_469 (by decide) (fun _ => ?_) (fun h => absurd rfl h)
      exact fin _ _ _ hS (lv_sub hl [0, 3] rfl)
    · skip
      refine lv_iconst (v := 1) hx hb dL_law_461 (by decide) ?_
      refine lv_goto (tgt := 466) hx hb dL_law_462 (by decide) ?_
      refine rd_V (As := [.int (xs 1), .int 1]) (rest := [.int (-1)]) (d := 0) caV_SignalTableLaw_50 hx hb hml hown hts hPm hKm (rM_X12_hand (xs 1) 1) (ci := 12) (q0 := 0) rfl rfl (by decide) rfl hl.1 (Nat.le_of_ble_eq_true rfl) (by decide) dL_law_466 rfl ?_
      refine lv_icmp_eq (tgt := 1494) hx hb dL_law_469 (by decide) (fun _ => ?_) (fun h => absurd rfl h)
      exact fin _ _ _ hS (lv_sub hl [0, 3] rfl)
set_option maxHeartbeats 4000000 in
set_option maxRecDepth 100000 in
theorem lc_8 {p : Program} {l : Launch} {e : Env} {s : State} {m : MethodId} {below : List Frame} {meth : Method} {c : Code} {D : va_G} {b : Nat} {xs : Nat → Int32} {H : Heap} {locs : List Loc} {ls : Array Slot} {Q0 : State → Prop} {q : Nat → Nat} {k : Nat → ClassId} {g : Nat → Nat → Int32} {gl : Nat → Nat → Int64} {q2 : Nat → Nat} {k2 : Nat → ClassId} {g2 : Nat → Nat → Int32} {gl2 : Nat → Nat → Int64} (hx : p.tables.exec = Jvm.exec) (hb : c.code = code) (hml : c.maxLocals = 4) (hown : s.vm.findClass "SignalTableLaw" = some m.cls) (hts : ∀ w ∈ lwg, w.before #[Value.ref b] s = true) (hX : va_X b 6 xs s s.heap) (hbl : b < s.heap.size) (hPx : va_P D vwCl (wX q k g gl) H) (hPm : va_P D vwCl (wM q2 k2 g2 gl2) H) (hKx : va_K D vwCl (tyX k) s) (hKm : va_K D vwCl (tyM k2) s) (hD : va_D (fun a : Nat => s.heap.size ≤ a) (wX q k g gl ++ wM q2 k2 g2 gl2)) (hS : va_S (fun a : Nat => s.heap.size ≤ a) s.heap H locs) (hl : lv_has ls 4 [(3, .int 0), (2, .ref (q2 0)), (1, .ref (q 0)), (0, .ref b)])
    (fin : ∀ (H : Heap) (locs : List Loc) (ls : Array Slot), va_S (fun a : Nat => s.heap.size ≤ a) s.heap H locs → lv_has ls 4 [(3, .int 0), (0, .ref b)] → W p l e room_1 s m #[Value.ref b] below meth c H locs 158 353581 Q0 (F0 m 1494 ls [])) : W p l e room_1 s m #[Value.ref b] below meth c H locs 158 353581 Q0 (F0 m 474 ls []) := by
  have hbA : ¬ (fun a : Nat => s.heap.size ≤ a) b := Nat.not_le.mpr hbl
  refine lv_aload_n hx hb dL_law_474 rfl (lv_at hl 2 rfl) ?_
  refine rd_V (As := []) (rest := []) (d := 0) caV_SignalTableLaw_51 hx hb hml hown hts hPx hKx (rX_X11_turn) (ci := 11) (q0 := 0) rfl rfl (by decide) rfl hl.1 (Nat.le_of_ble_eq_true rfl) (by decide) dL_law_475 rfl ?_
  refine lv_aload_n hx hb dL_law_478 rfl (lv_at hl 1 rfl) ?_
  refine rd_V (As := []) (rest := [.int (-2)]) (d := 1) caV_SignalTableLaw_54 hx hb hml hown hts hPm hKm (rM_X12_turn) (ci := 12) (q0 := 0) rfl rfl (by decide) rfl hl.1 (Nat.le_of_ble_eq_true rfl) (by decide) dL_law_479 rfl ?_
  refine lv_icmp_eq (tgt := 1494) hx hb dL_law_482 (by decide) (fun _ => ?_) (fun h => absurd rfl h)
  exact fin _ _ _ hS (lv_sub hl [0, 3] rfl)
set_option maxHeartbeats 4000000 in
set_option maxRecDepth 100000 in
theorem lc_9 {p : Program} {l : Launch} {e : Env} {s : State} {m : MethodId} {below : List Frame} {meth : Method} {c : Code} {D : va_G} {b : Nat} {xs : Nat → Int32} {H : Heap} {locs : List Loc} {ls : Array Slot} {Q0 : State → Prop} {q : Nat → Nat} {k : Nat → ClassId} {g : Nat → Nat → Int32} {gl : Nat → Nat → Int64} {q2 : Nat → Nat} {k2 : Nat → ClassId} {g2 : Nat → Nat → Int32} {gl2 : Nat → Nat → Int64} (hx : p.tables.exec = Jvm.exec) (hb : c.code = code) (hml : c.maxLocals = 4) (hown : s.vm.findClass "SignalTableLaw" = some m.cls) (hts : ∀ w ∈ lwg, w.before #[Value.ref b] s = true) (hX : va_X b 6 xs s s.heap) (hbl : b < s.heap.size) (hPx : va_P D vwCl (wX q k g gl) H) (hPm : va_P D vwCl (wM q2 k2 g2 gl2) H) (hKx : va_K D vwCl (tyX k) s) (hKm : va_K D vwCl (tyM k2) s) (hD : va_D (fun a : Nat => s.heap.size ≤ a) (wX q k g gl ++ wM q2 k2 g2 gl2)) (hS : va_S (fun a : Nat => s.heap.size ≤ a) s.heap H locs) (hl : lv_has ls 4 [(3, .int 0), (2, .ref (q2 0)), (1, .ref (q 0)), (0, .ref b)])
    (fin : ∀ (H : Heap) (locs : List Loc) (ls : Array Slot), va_S (fun a : Nat => s.heap.size ≤ a) s.heap H locs → lv_has ls 4 [(3, .int 0), (0, .ref b)] → W p l e room_1 s m #[Value.ref b] below meth c H locs 158 353581 Q0 (F0 m 1494 ls [])) : W p l e room_1 s m #[Value.ref b] below meth c H locs 158 353581 Q0 (F0 m 487 ls []) := by
  have hbA : ¬ (fun a : Nat => s.heap.size ≤ a) b := Nat.not_le.mpr hbl
  refine lv_aload_n hx hb dL_law_487 rfl (lv_at hl 2 rfl) ?_
  refine rd_V (As := []) (rest := []) (d := 1) caV_SignalTableLaw_55 hx hb hml hown hts hPx hKx (rX_X11_may) (ci := 11) (q0 := 0) rfl rfl (by decide) rfl hl.1 (Nat.le_of_ble_eq_true rfl) (by decide) dL_law_488 rfl ?_
  refine lv_aload_n hx hb dL_law_491 rfl (lv_at hl 1 rfl) ?_
  refine rd_V (As := []) (rest := [.int 0]) (d := 2) caV_SignalTableLaw_58 hx hb hml hown hts hPm hKm (rM_X12_may) (ci := 12) (q0 := 0) rfl rfl (by decide) rfl hl.1 (Nat.le_of_ble_eq_true rfl) (by decide) dL_law_492 rfl ?_
  refine lv_icmp_eq (tgt := 1494) hx hb dL_law_495 (by decide) (fun _ => ?_) (fun h => absurd rfl h)
  exact fin _ _ _ hS (lv_sub hl [0, 3] rfl)
set_option maxHeartbeats 4000000 in
set_option maxRecDepth 100000 in
theorem lc_10 {p : Program} {l : Launch} {e : Env} {s : State} {m : MethodId} {below : List Frame} {meth : Method} {c : Code} {D : va_G} {b : Nat} {xs : Nat → Int32} {H : Heap} {locs : List Loc} {ls : Array Slot} {Q0 : State → Prop} {q : Nat → Nat} {k : Nat → ClassId} {g : Nat → Nat → Int32} {gl : Nat → Nat → Int64} {q2 : Nat → Nat} {k2 : Nat → ClassId} {g2 : Nat → Nat → Int32} {gl2 : Nat → Nat → Int64} (hx : p.tables.exec = Jvm.exec) (hb : c.code = code) (hml : c.maxLocals = 4) (hown : s.vm.findClass "SignalTableLaw" = some m.cls) (hts : ∀ w ∈ lwg, w.before #[Value.ref b] s = true) (hX : va_X b 6 xs s s.heap) (hbl : b < s.heap.size) (hPx : va_P D vwCl (wX q k g gl) H) (hPm : va_P D vwCl (wM q2 k2 g2 gl2) H) (hKx : va_K D vwCl (tyX k) s) (hKm : va_K D vwCl (tyM k2) s) (hD : va_D (fun a : Nat => s.heap.size ≤ a) (wX q k g gl ++ wM q2 k2 g2 gl2)) (hS : va_S (fun a : Nat => s.heap.size ≤ a) s.heap H locs) (hl : lv_has ls 4 [(3, .int 0), (2, .ref (q2 0)), (1, .ref (q 0)), (0, .ref b)])
    (fin : ∀ (H : Heap) (locs : List Loc) (ls : Array Slot), va_S (fun a : Nat => s.heap.size ≤ a) s.heap H locs → lv_has ls 4 [(3, .int 0), (0, .ref b)] → W p l e room_1 s m #[Value.ref b] below meth c H locs 158 353581 Q0 (F0 m 1494 ls [])) : W p l e room_1 s m #[Value.ref b] below meth c H locs 158 353581 Q0 (F0 m 500 ls []) := by
  have hbA : ¬ (fun a : Nat => s.heap.size ≤ a) b := Nat.not_le.mpr hbl
  refine lv_aload_n hx hb dL_law_500 rfl (lv_at hl 2 rfl) ?_
  refine lv_aload_n hx hb dL_law_501 rfl (lv_at hl 3 rfl) ?_
  refine lv_iload_n hx hb dL_law_502 rfl (lv_at hl 0 rfl) ?_
  refine lv_iconst (v := 1) hx hb dL_law_503 (by decide) ?_
  refine lv_iadd hx hb dL_law_504 ?_
  refine z_i (v := 1) (by decide) ?_
  refine va_sld hx hb hX hbl hbA hS (z_in (by decide)) dL_law_505 ?_
  refine z_i (v := xs 1) (by rfl) ?_
  refine rd_V (As := [.int (xs 1)]) (rest := []) (d := 1) caV_SignalTableLaw_59 hx hb hml hown hts hPx hKx (rX_X11_play (xs 1)) (ci := 11) (q0 := 0) rfl rfl (by decide) rfl hl.1 (Nat.le_of_ble_eq_true rfl) (by decide) dL_law_506 rfl ?_
  refine lv_aload_n hx hb dL_law_509 rfl (lv_at hl 1 rfl) ?_
  refine lv_aload_n hx hb dL_law_510 rfl (lv_at hl 3 rfl) ?_
  refine lv_iload_n hx hb dL_law_511 rfl (lv_at hl 0 rfl) ?_
  refine lv_iconst (v := 1) hx hb dL_law_512 (by decide) ?_
  refine lv_iadd hx hb dL_law_513 ?_
  refine z_i (v := 1) (by decide) ?_
  refine va_sld hx hb hX hbl hbA hS (z_in (by decide)) dL_law_514 ?_
  refine z_i (v := xs 1) (by rfl) ?_
  refine rd_V (As := [.int (xs 1)]) (rest := [.int (-1)]) (d := 2) caV_SignalTableLaw_62 hx hb hml hown hts hPm hKm (rM_X12_play (xs 1)) (ci := 12) (q0 := 0) rfl rfl (by decide) rfl hl.1 (Nat.le_of_ble_eq_true rfl) (by decide) dL_law_515 rfl ?_
  refine lv_icmp_eq (tgt := 1494) hx hb dL_law_518 (by decide) (fun _ => ?_) (fun h => absurd rfl h)
  exact fin _ _ _ hS (lv_sub hl [0, 3] rfl)
set_option maxHeartbeats 4000000 in
set_option maxRecDepth 100000 in
theorem lc_11 {p : Program} {l : Launch} {e : Env} {s : State} {m : MethodId} {below : List Frame} {meth : Method} {c : Code} {D : va_G} {b : Nat} {xs : Nat → Int32} {H : Heap} {locs : List Loc} {ls : Array Slot} {Q0 : State → Prop} {q : Nat → Nat} {k : Nat → ClassId} {g : Nat → Nat → Int32} {gl : Nat → Nat → Int64} {q2 : Nat → Nat} {k2 : Nat → ClassId} {g2 : Nat → Nat → Int32} {gl2 : Nat → Nat → Int64} (hx : p.tables.exec = Jvm.exec) (hb : c.code = code) (hml : c.maxLocals = 4) (hown : s.vm.findClass "SignalTableLaw" = some m.cls) (hts : ∀ w ∈ lwg, w.before #[Value.ref b] s = true) (hX : va_X b 6 xs s s.heap) (hbl : b < s.heap.size) (hPx : va_P D vwCl (wX q k g gl) H) (hPm : va_P D vwCl (wM q2 k2 g2 gl2) H) (hKx : va_K D vwCl (tyX k) s) (hKm : va_K D vwCl (tyM k2) s) (hD : va_D (fun a : Nat => s.heap.size ≤ a) (wX q k g gl ++ wM q2 k2 g2 gl2)) (hS : va_S (fun a : Nat => s.heap.size ≤ a) s.heap H locs) (hl : lv_has ls 4 [(3, .int 0), (2, .ref (q2 0)), (1, .ref (q 0)), (0, .ref b)])
    (fin : ∀ (H : Heap) (locs : List Loc) (ls : Array Slot), va_S (fun a : Nat => s.heap.size ≤ a) s.heap H locs → lv_has ls 4 [(3, .int 0), (0, .ref b)] → W p l e room_1 s m #[Value.ref b] below meth c H locs 158 353581 Q0 (F0 m 1494 ls [])) : W p l e room_1 s m #[Value.ref b] below meth c H locs 158 353581 Q0 (F0 m 523 ls []) := by
  have hbA : ¬ (fun a : Nat => s.heap.size ≤ a) b := Nat.not_le.mpr hbl
  refine lv_aload_n hx hb dL_law_523 rfl (lv_at hl 2 rfl) ?_
  refine lv_aload_n hx hb dL_law_524 rfl (lv_at hl 3 rfl) ?_
  refine lv_iload_n hx hb dL_law_525 rfl (lv_at hl 0 rfl) ?_
  refine lv_iconst (v := 1) hx hb dL_law_526 (by decide) ?_
  refine lv_iadd hx hb dL_law_527 ?_
  refine z_i (v := 1) (by decide) ?_
  refine va_sld hx hb hX hbl hbA hS (z_in (by decide)) dL_law_528 ?_
  refine z_i (v := xs 1) (by rfl) ?_
  refine rd_V (As := [.int (xs 1)]) (rest := []) (d := 1) caV_SignalTableLaw_63 hx hb hml hown hts hPx hKx (rX_X11_revoke (xs 1)) (ci := 11) (q0 := 0) rfl rfl (by decide) rfl hl.1 (Nat.le_of_ble_eq_true rfl) (by decide) dL_law_529 rfl ?_
  refine lv_aload_n hx hb dL_law_532 rfl (lv_at hl 1 rfl) ?_
  refine lv_aload_n hx hb dL_law_533 rfl (lv_at hl 3 rfl) ?_
  refine lv_iload_n hx hb dL_law_534 rfl (lv_at hl 0 rfl) ?_
  refine lv_iconst (v := 1) hx hb dL_law_535 (by decide) ?_
  refine lv_iadd hx hb dL_law_536 ?_
  refine z_i (v := 1) (by decide) ?_
  refine va_sld hx hb hX hbl hbA hS (z_in (by decide)) dL_law_537 ?_
  refine z_i (v := xs 1) (by rfl) ?_
  refine rd_V (As := [.int (xs 1)]) (rest := [.int (-1)]) (d := 2) caV_SignalTableLaw_66 hx hb hml hown hts hPm hKm (rM_X12_revoke (xs 1)) (ci := 12) (q0 := 0) rfl rfl (by decide) rfl hl.1 (Nat.le_of_ble_eq_true rfl) (by decide) dL_law_538 rfl ?_
  refine lv_icmp_eq (tgt := 1494) hx hb dL_law_541 (by decide) (fun _ => ?_) (fun h => absurd rfl h)
  exact fin _ _ _ hS (lv_sub hl [0, 3] rfl)
set_option maxHeartbeats 4000000 in
set_option maxRecDepth 100000 in
theorem lc_12 {p : Program} {l : Launch} {e : Env} {s : State} {m : MethodId} {below : List Frame} {meth : Method} {c : Code} {D : va_G} {b : Nat} {xs : Nat → Int32} {H : Heap} {locs : List Loc} {ls : Array Slot} {Q0 : State → Prop} {q : Nat → Nat} {k : Nat → ClassId} {g : Nat → Nat → Int32} {gl : Nat → Nat → Int64} {q2 : Nat → Nat} {k2 : Nat → ClassId} {g2 : Nat → Nat → Int32} {gl2 : Nat → Nat → Int64} (hx : p.tables.exec = Jvm.exec) (hb : c.code = code) (hml : c.maxLocals = 4) (hown : s.vm.findClass "SignalTableLaw" = some m.cls) (hts : ∀ w ∈ lwg, w.before #[Value.ref b] s = true) (hX : va_X b 6 xs s s.heap) (hbl : b < s.heap.size) (hPx : va_P D vwCl (wX q k g gl) H) (hPm : va_P D vwCl (wM q2 k2 g2 gl2) H) (hKx : va_K D vwCl (tyX k) s) (hKm : va_K D vwCl (tyM k2) s) (hD : va_D (fun a : Nat => s.heap.size ≤ a) (wX q k g gl ++ wM q2 k2 g2 gl2)) (hS : va_S (fun a : Nat => s.heap.size ≤ a) s.heap H locs) (hl : lv_has ls 4 [(3, .int 0), (2, .ref (q2 0)), (1, .ref (q 0)), (0, .ref b)])
    (fin : ∀ (H : Heap) (locs : List Loc) (ls : Array Slot), va_S (fun a : Nat => s.heap.size ≤ a) s.heap H locs → lv_has ls 4 [(3, .int 0), (0, .ref b)] → W p l e room_1 s m #[Value.ref b] below meth c H locs 158 353581 Q0 (F0 m 1494 ls [])) : W p l e room_1 s m #[Value.ref b] below meth c H locs 158 353581 Q0 (F0 m 546 ls []) := by
  have hbA : ¬ (fun a : Nat => s.heap.size ≤ a) b := Nat.not_le.mpr hbl
  refine lv_aload_n hx hb dL_law_546 rfl (lv_at hl 2 rfl) ?_
  refine rd_V (As := []) (rest := []) (d := 0) caV_SignalTableLaw_67 hx hb hml hown hts hPx hKx (rX_X11_undo) (ci := 11) (q0 := 0) rfl rfl (by decide) rfl hl.1 (Nat.le_of_ble_eq_true rfl) (by decide) dL_law_547 rfl ?_
  refine lv_aload_n hx hb dL_law_550 rfl (lv_at hl 1 rfl) ?_
  refine rd_V (As := []) (rest := [.int (-1)]) (d := 0) caV_SignalTableLaw_70 hx hb hml hown hts hPm hKm (rM_X12_undo) (ci := 12) (q0 := 0) rfl rfl (by decide) rfl hl.1 (Nat.le_of_ble_eq_true rfl) (by decide) dL_law_551 rfl ?_
  refine lv_icmp_eq (tgt := 1494) hx hb dL_law_554 (by decide) (fun _ => ?_) (fun h => absurd rfl h)
  exact fin _ _ _ hS (lv_sub hl [0, 3] rfl)
set_option maxHeartbeats 4000000 in
set_option maxRecDepth 100000 in
theorem lc_13 {p : Program} {l : Launch} {e : Env} {s : State} {m : MethodId} {below : List Frame} {meth : Method} {c : Code} {D : va_G} {b : Nat} {xs : Nat → Int32} {H : Heap} {locs : List Loc} {ls : Array Slot} {Q0 : State → Prop} {q : Nat → Nat} {k : Nat → ClassId} {g : Nat → Nat → Int32} {gl : Nat → Nat → Int64} {q2 : Nat → Nat} {k2 : Nat → ClassId} {g2 : Nat → Nat → Int32} {gl2 : Nat → Nat → Int64} (hx : p.tables.exec = Jvm.exec) (hb : c.code = code) (hml : c.maxLocals = 4) (hown : s.vm.findClass "SignalTableLaw" = some m.cls) (hts : ∀ w ∈ lwg, w.before #[Value.ref b] s = true) (hX : va_X b 6 xs s s.heap) (hbl : b < s.heap.size) (hPx : va_P D vwCl (wX q k g gl) H) (hPm : va_P D vwCl (wM q2 k2 g2 gl2) H) (hKx : va_K D vwCl (tyX k) s) (hKm : va_K D vwCl (tyM k2) s) (hD : va_D (fun a : Nat => s.heap.size ≤ a) (wX q k g gl ++ wM q2 k2 g2 gl2)) (hS : va_S (fun a : Nat => s.heap.size ≤ a) s.heap H locs) (hl : lv_has ls 4 [(3, .int 0), (2, .ref (q2 0)), (1, .ref (q 0)), (0, .ref b)])
    (fin : ∀ (H : Heap) (locs : List Loc) (ls : Array Slot), va_S (fun a : Nat => s.heap.size ≤ a) s.heap H locs → lv_has ls 4 [(3, .int 0), (0, .ref b)] → W p l e room_1 s m #[Value.ref b] below meth c H locs 158 353581 Q0 (F0 m 1494 ls [])) : W p l e room_1 s m #[Value.ref b] below meth c H locs 158 353581 Q0 (F0 m 559 ls []) := by
  have hbA : ¬ (fun a : Nat => s.heap.size ≤ a) b := Nat.not_le.mpr hbl
  refine lv_aload_n hx hb dL_law_559 rfl (lv_at hl 2 rfl) ?_
  refine lv_aload_n hx hb dL_law_560 rfl (lv_at hl 3 rfl) ?_
  refine lv_iload_n hx hb dL_law_561 rfl (lv_at hl 0 rfl) ?_
  refine lv_iconst (v := 1) hx hb dL_law_562 (by decide) ?_
  refine lv_iadd hx hb dL_law_563 ?_
  refine z_i (v := 1) (by decide) ?_
  refine va_sld hx hb hX hbl hbA hS (z_in (by decide)) dL_law_564 ?_
  refine z_i (v := xs 1) (by rfl) ?_
  refine lv_aload_n hx hb dL_law_565 rfl (lv_at hl 3 rfl) ?_
  refine lv_iload_n hx hb dL_law_566 rfl (lv_at hl 0 rfl) ?_
  refine lv_iconst (v := 2) hx hb dL_law_567 (by decide) ?_
  refine lv_iadd hx hb dL_law_568 ?_
  refine z_i (v := 2) (by decide) ?_
  refine va_sld hx hb hX hbl hbA hS (z_in (by decide)) dL_law_569 ?_
  refine z_i (v := xs 2) (by rfl) ?_
  refine rd_V (As := [.int (xs 1), .int (xs 2)]) (rest := []) (d := 0) caV_SignalTableLaw_71 hx hb hml hown hts hPx hKx (rX_X11_card (xs 1) (xs 2)) (ci := 11) (q0 := 0) rfl rfl (by decide) rfl hl.1 (Nat.le_of_ble_eq_true rfl) (by decide) dL_law_570 rfl ?_
  refine lv_aload_n hx hb dL_law_573 rfl (lv_at hl 1 rfl) ?_
  refine lv_aload_n hx hb dL_law_574 rfl (lv_at hl 3 rfl) ?_
  refine lv_iload_n hx hb dL_law_575 rfl (lv_at hl 0 rfl) ?_
  refine lv_iconst (v := 1) hx hb dL_law_576 (by decide) ?_
  refine lv_iadd hx hb dL_law_577 ?_
  refine z_i (v := 1) (by decide) ?_
  refine va_sld hx hb hX hbl hbA hS (z_in (by decide)) dL_law_578 ?_
  refine z_i (v := xs 1) (by rfl) ?_
  refine lv_aload_n hx hb dL_law_579 rfl (lv_at hl 3 rfl) ?_
  refine lv_iload_n hx hb dL_law_580 rfl (lv_at hl 0 rfl) ?_
  refine lv_iconst (v := 2) hx hb dL_law_581 (by decide) ?_
  refine lv_iadd hx hb dL_law_582 ?_
  refine z_i (v := 2) (by decide) ?_
  refine va_sld hx hb hX hbl hbA hS (z_in (by decide)) dL_law_583 ?_
  refine z_i (v := xs 2) (by rfl) ?_
  refine rd_V (As := [.int (xs 1), .int (xs 2)]) (rest := [.int (-1)]) (d := 0) caV_SignalTableLaw_75 hx hb hml hown hts hPm hKm (rM_X12_card (xs 1) (xs 2)) (ci := 12) (q0 := 0) rfl rfl (by decide) rfl hl.1 (Nat.le_of_ble_eq_true rfl) (by decide) dL_law_584 rfl ?_
  refine lv_icmp_eq (tgt := 1494) hx hb dL_law_587 (by decide) (fun _ => ?_) (fun h => absurd rfl h)
  exact fin _ _ _ hS (lv_sub hl [0, 3] rfl)
set_option maxHeartbeats 4000000 in
set_option maxRecDepth 100000 in
theorem lc_14 {p : Program} {l : Launch} {e : Env} {s : State} {m : MethodId} {below : List Frame} {meth : Method} {c : Code} {D : va_G} {b : Nat} {xs : Nat → Int32} {H : Heap} {locs : List Loc} {ls : Array Slot} {Q0 : State → Prop} {q : Nat → Nat} {k : Nat → ClassId} {g : Nat → Nat → Int32} {gl : Nat → Nat → Int64} {q2 : Nat → Nat} {k2 : Nat → ClassId} {g2 : Nat → Nat → Int32} {gl2 : Nat → Nat → Int64} (hx : p.tables.exec = Jvm.exec) (hb : c.code = code) (hml : c.maxLocals = 4) (hown : s.vm.findClass "SignalTableLaw" = some m.cls) (hts : ∀ w ∈ lwg, w.before #[Value.ref b] s = true) (hX : va_X b 6 xs s s.heap) (hbl : b < s.heap.size) (hPx : va_P D vwCl (wX q k g gl) H) (hPm : va_P D vwCl (wM q2 k2 g2 gl2) H) (hKx : va_K D vwCl (tyX k) s) (hKm : va_K D vwCl (tyM k2) s) (hD : va_D (fun a : Nat => s.heap.size ≤ a) (wX q k g gl ++ wM q2 k2 g2 gl2)) (hS : va_S (fun a : Nat => s.heap.size ≤ a) s.heap H locs) (hl : lv_has ls 4 [(3, .int 0), (2, .ref (q2 0)), (1, .ref (q 0)), (0, .ref b)])
    (fin : ∀ (H : Heap) (locs : List Loc) (ls : Array Slot), va_S (fun a : Nat => s.heap.size ≤ a) s.heap H locs → lv_has ls 4 [(3, .int 0), (0, .ref b)] → W p l e room_1 s m #[Value.ref b] below meth c H locs 158 353581 Q0 (F0 m 1494 ls [])) : W p l e room_1 s m #[Value.ref b] below meth c H locs 158 353581 Q0 (F0 m 592 ls []) := by
  have hbA : ¬ (fun a : Nat => s.heap.size ≤ a) b := Nat.not_le.mpr hbl
  refine lv_aload_n hx hb dL_law_592 rfl (lv_at hl 2 rfl) ?_
  refine lv_aload_n hx hb dL_law_593 rfl (lv_at hl 3 rfl) ?_
  refine lv_iload_n hx hb dL_law_594 rfl (lv_at hl 0 rfl) ?_
  refine lv_iconst (v := 1) hx hb dL_law_595 (by decide) ?_
  refine lv_iadd hx hb dL_law_596 ?_
  refine z_i (v := 1) (by decide) ?_
  refine va_sld hx hb hX hbl hbA hS (z_in (by decide)) dL_law_597 ?_
  refine z_i (v := xs 1) (by rfl) ?_
  refine rd_V (As := [.int (xs 1)]) (rest := []) (d := 1) caV_SignalTableLaw_76 hx hb hml hown hts hPx hKx (rX_X11_tricks (xs 1)) (ci := 11) (q0 := 0) rfl rfl (by decide) rfl hl.1 (Nat.le_of_ble_eq_true rfl) (by decide) dL_law_598 rfl ?_
  refine lv_aload_n hx hb dL_law_601 rfl (lv_at hl 1 rfl) ?_
  refine lv_aload_n hx hb dL_law_602 rfl (lv_at hl 3 rfl) ?_
  refine lv_iload_n hx hb dL_law_603 rfl (lv_at hl 0 rfl) ?_
  refine lv_iconst (v := 1) hx hb dL_law_604 (by decide) ?_
  refine lv_iadd hx hb dL_law_605 ?_
  refine z_i (v := 1) (by decide) ?_
  refine va_sld hx hb hX hbl hbA hS (z_in (by decide)) dL_law_606 ?_
  refine z_i (v := xs 1) (by rfl) ?_
  refine rd_V (As := [.int (xs 1)]) (rest := [.int (if 0 ≤ (xs 1) ∧ (xs 1) ≤ 1 then 0 else (-1))]) (d := 1) caV_SignalTableLaw_79 hx hb hml hown hts hPm hKm (rM_X12_tricks (xs 1)) (ci := 12) (q0 := 0) rfl rfl (by decide) rfl hl.1 (Nat.le_of_ble_eq_true rfl) (by decide) dL_law_607 rfl ?_
  refine lv_icmp_eq (tgt := 1494) hx hb dL_law_610 (by decide) (fun _ => ?_) (fun h => absurd rfl h)
  exact fin _ _ _ hS (lv_sub hl [0, 3] rfl)
set_option maxHeartbeats 4000000 in
set_option maxRecDepth 100000 in
theorem lc_15 {p : Program} {l : Launch} {e : Env} {s : State} {m : MethodId} {below : List Frame} {meth : Method} {c : Code} {D : va_G} {b : Nat} {xs : Nat → Int32} {H : Heap} {locs : List Loc} {ls : Array Slot} {Q0 : State → Prop} {q : Nat → Nat} {k : Nat → ClassId} {g : Nat → Nat → Int32} {gl : Nat → Nat → Int64} {q2 : Nat → Nat} {k2 : Nat → ClassId} {g2 : Nat → Nat → Int32} {gl2 : Nat → Nat → Int64} (hx : p.tables.exec = Jvm.exec) (hb : c.code = code) (hml : c.maxLocals = 4) (hown : s.vm.findClass "SignalTableLaw" = some m.cls) (hts : ∀ w ∈ lwg, w.before #[Value.ref b] s = true) (hX : va_X b 6 xs s s.heap) (hbl : b < s.heap.size) (hPx : va_P D vwCl (wX q k g gl) H) (hPm : va_P D vwCl (wM q2 k2 g2 gl2) H) (hKx : va_K D vwCl (tyX k) s) (hKm : va_K D vwCl (tyM k2) s) (hD : va_D (fun a : Nat => s.heap.size ≤ a) (wX q k g gl ++ wM q2 k2 g2 gl2)) (hS : va_S (fun a : Nat => s.heap.size ≤ a) s.heap H locs) (hl : lv_has ls 4 [(3, .int 0), (2, .ref (q2 0)), (1, .ref (q 0)), (0, .ref b)])
    (fin : ∀ (H : Heap) (locs : List Loc) (ls : Array Slot), va_S (fun a : Nat => s.heap.size ≤ a) s.heap H locs → lv_has ls 4 [(3, .int 0), (0, .ref b)] → W p l e room_1 s m #[Value.ref b] below meth c H locs 158 353581 Q0 (F0 m 1494 ls [])) : W p l e room_1 s m #[Value.ref b] below meth c H locs 158 353581 Q0 (F0 m 615 ls []) := by
  have hbA : ¬ (fun a : Nat => s.heap.size ≤ a) b := Nat.not_le.mpr hbl
  refine lv_aload_n hx hb dL_law_615 rfl (lv_at hl 2 rfl) ?_
  refine lv_aload_n hx hb dL_law_616 rfl (lv_at hl 3 rfl) ?_
  refine lv_iload_n hx hb dL_law_617 rfl (lv_at hl 0 rfl) ?_
  refine lv_iconst (v := 1) hx hb dL_law_618 (by decide) ?_
  refine lv_iadd hx hb dL_law_619 ?_
  refine z_i (v := 1) (by decide) ?_
  refine va_sld hx hb hX hbl hbA hS (z_in (by decide)) dL_law_620 ?_
  refine z_i (v := xs 1) (by rfl) ?_
  refine rd_V (As := [.int (xs 1)]) (rest := []) (d := 0) caV_SignalTableLaw_80 hx hb hml hown hts hPx hKx (rX_X11_winner (xs 1)) (ci := 11) (q0 := 0) rfl rfl (by decide) rfl hl.1 (Nat.le_of_ble_eq_true rfl) (by decide) dL_law_621 rfl ?_
  refine lv_aload_n hx hb dL_law_624 rfl (lv_at hl 1 rfl) ?_
  refine lv_aload_n hx hb dL_law_625 rfl (lv_at hl 3 rfl) ?_
  refine lv_iload_n hx hb dL_law_626 rfl (lv_at hl 0 rfl) ?_
  refine lv_iconst (v := 1) hx hb dL_law_627 (by decide) ?_
  refine lv_iadd hx hb dL_law_628 ?_
  refine z_i (v := 1) (by decide) ?_
  refine va_sld hx hb hX hbl hbA hS (z_in (by decide)) dL_law_629 ?_
  refine z_i (v := xs 1) (by rfl) ?_
  refine rd_V (As := [.int (xs 1)]) (rest := [.int (-1)]) (d := 1) caV_SignalTableLaw_83 hx hb hml hown hts hPm hKm (rM_X12_winner (xs 1)) (ci := 12) (q0 := 0) rfl rfl (by decide) rfl hl.1 (Nat.le_of_ble_eq_true rfl) (by decide) dL_law_630 rfl ?_
  refine lv_icmp_eq (tgt := 1494) hx hb dL_law_633 (by decide) (fun _ => ?_) (fun h => absurd rfl h)
  exact fin _ _ _ hS (lv_sub hl [0, 3] rfl)
set_option maxHeartbeats 4000000 in
set_option maxRecDepth 100000 in
theorem lc_16 {p : Program} {l : Launch} {e : Env} {s : State} {m : MethodId} {below : List Frame} {meth : Method} {c : Code} {D : va_G} {b : Nat} {xs : Nat → Int32} {H : Heap} {locs : List Loc} {ls : Array Slot} {Q0 : State → Prop} {q : Nat → Nat} {k : Nat → ClassId} {g : Nat → Nat → Int32} {gl : Nat → Nat → Int64} {q2 : Nat → Nat} {k2 : Nat → ClassId} {g2 : Nat → Nat → Int32} {gl2 : Nat → Nat → Int64} (hx : p.tables.exec = Jvm.exec) (hb : c.code = code) (hml : c.maxLocals = 4) (hown : s.vm.findClass "SignalTableLaw" = some m.cls) (hts : ∀ w ∈ lwg, w.before #[Value.ref b] s = true) (hX : va_X b 6 xs s s.heap) (hbl : b < s.heap.size) (hPx : va_P D vwCl (wX q k g gl) H) (hPm : va_P D vwCl (wM q2 k2 g2 gl2) H) (hKx : va_K D vwCl (tyX k) s) (hKm : va_K D vwCl (tyM k2) s) (hD : va_D (fun a : Nat => s.heap.size ≤ a) (wX q k g gl ++ wM q2 k2 g2 gl2)) (hS : va_S (fun a : Nat => s.heap.size ≤ a) s.heap H locs) (hl : lv_has ls 4 [(3, .int 0), (2, .ref (q2 0)), (1, .ref (q 0)), (0, .ref b)])
    (fin : ∀ (H : Heap) (locs : List Loc) (ls : Array Slot), va_S (fun a : Nat => s.heap.size ≤ a) s.heap H locs → lv_has ls 4 [(3, .int 0), (0, .ref b)] → W p l e room_1 s m #[Value.ref b] below meth c H locs 158 353581 Q0 (F0 m 1494 ls [])) : W p l e room_1 s m #[Value.ref b] below meth c H locs 158 353581 Q0 (F0 m 638 ls []) := by
  have hbA : ¬ (fun a : Nat => s.heap.size ≤ a) b := Nat.not_le.mpr hbl
  refine lv_aload_n hx hb dL_law_638 rfl (lv_at hl 2 rfl) ?_
  refine lv_aload_n hx hb dL_law_639 rfl (lv_at hl 3 rfl) ?_
  refine lv_iload_n hx hb dL_law_640 rfl (lv_at hl 0 rfl) ?_
  refine lv_iconst (v := 1) hx hb dL_law_641 (by decide) ?_
  refine lv_iadd hx hb dL_law_642 ?_
  refine z_i (v := 1) (by decide) ?_
  refine va_sld hx hb hX hbl hbA hS (z_in (by decide)) dL_law_643 ?_
  refine z_i (v := xs 1) (by rfl) ?_
  refine lv_aload_n hx hb dL_law_644 rfl (lv_at hl 3 rfl) ?_
  refine lv_iload_n hx hb dL_law_645 rfl (lv_at hl 0 rfl) ?_
  refine lv_iconst (v := 2) hx hb dL_law_646 (by decide) ?_
  refine lv_iadd hx hb dL_law_647 ?_
  refine z_i (v := 2) (by decide) ?_
  refine va_sld hx hb hX hbl hbA hS (z_in (by decide)) dL_law_648 ?_
  refine z_i (v := xs 2) (by rfl) ?_
  refine lv_aload_n hx hb dL_law_649 rfl (lv_at hl 3 rfl) ?_
  refine lv_iload_n hx hb dL_law_650 rfl (lv_at hl 0 rfl) ?_
  refine lv_iconst (v := 3) hx hb dL_law_651 (by decide) ?_
  refine lv_iadd hx hb dL_law_652 ?_
  refine z_i (v := 3) (by decide) ?_
  refine va_sld hx hb hX hbl hbA hS (z_in (by decide)) dL_law_653 ?_
  refine z_i (v := xs 3) (by rfl) ?_
  refine rd_V (As := [.int (xs 1), .int (xs 2), .int (xs 3)]) (rest := []) (d := 0) caV_SignalTableLaw_84 hx hb hml hown hts hPx hKx (rX_X11_says (xs 1) (xs 2) (xs 3)) (ci := 11) (q0 := 0) rfl rfl (by decide) rfl hl.1 (Nat.le_of_ble_eq_true rfl) (by decide) dL_law_654 rfl ?_
  refine lv_aload_n hx hb dL_law_657 rfl (lv_at hl 1 rfl) ?_
  refine lv_aload_n hx hb dL_law_658 rfl (lv_at hl 3 rfl) ?_
  refine lv_iload_n hx hb dL_law_659 rfl (lv_at hl 0 rfl) ?_
  refine lv_iconst (v := 1) hx hb dL_law_660 (by decide) ?_
  refine lv_iadd hx hb dL_law_661 ?_
  refine z_i (v := 1) (by decide) ?_
  refine va_sld hx hb hX hbl hbA hS (z_in (by decide)) dL_law_662 ?_
  refine z_i (v := xs 1) (by rfl) ?_
  refine lv_aload_n hx hb dL_law_663 rfl (lv_at hl 3 rfl) ?_
  refine lv_iload_n hx hb dL_law_664 rfl (lv_at hl 0 rfl) ?_
  refine lv_iconst (v := 2) hx hb dL_law_665 (by decide) ?_
  refine lv_iadd hx hb dL_law_666 ?_
  refine z_i (v := 2) (by decide) ?_
  refine va_sld hx hb hX hbl hbA hS (z_in (by decide)) dL_law_667 ?_
  refine z_i (v := xs 2) (by rfl) ?_
  refine lv_aload_n hx hb dL_law_668 rfl (lv_at hl 3 rfl) ?_
  refine lv_iload_n hx hb dL_law_669 rfl (lv_at hl 0 rfl) ?_
  refine lv_iconst (v := 3) hx hb dL_law_670 (by decide) ?_
  refine lv_iadd hx hb dL_law_671 ?_
  refine z_i (v := 3) (by decide) ?_
  refine va_sld hx hb hX hbl hbA hS (z_in (by decide)) dL_law_672 ?_
  refine z_i (v := xs 3) (by rfl) ?_
  refine rd_V (As := [.int (xs 1), .int (xs 2), .int (xs 3)]) (rest := [.int (-1)]) (d := 0) caV_SignalTableLaw_88 hx hb hml hown hts hPm hKm (rM_X12_says (xs 1) (xs 2) (xs 3)) (ci := 12) (q0 := 0) rfl rfl (by decide) rfl hl.1 (Nat.le_of_ble_eq_true rfl) (by decide) dL_law_673 rfl ?_
  refine lv_icmp_eq (tgt := 1494) hx hb dL_law_676 (by decide) (fun _ => ?_) (fun h => absurd rfl h)
  exact fin _ _ _ hS (lv_sub hl [0, 3] rfl)
set_option maxHeartbeats 4000000 in
set_option maxRecDepth 100000 in
theorem lc_17 {p : Program} {l : Launch} {e : Env} {s : State} {m : MethodId} {below : List Frame} {meth : Method} {c : Code} {D : va_G} {b : Nat} {xs : Nat → Int32} {H : Heap} {locs : List Loc} {ls : Array Slot} {Q0 : State → Prop} {q : Nat → Nat} {k : Nat → ClassId} {g : Nat → Nat → Int32} {gl : Nat → Nat → Int64} {q2 : Nat → Nat} {k2 : Nat → ClassId} {g2 : Nat → Nat → Int32} {gl2 : Nat → Nat → Int64} (hx : p.tables.exec = Jvm.exec) (hb : c.code = code) (hml : c.maxLocals = 4) (hown : s.vm.findClass "SignalTableLaw" = some m.cls) (hts : ∀ w ∈ lwg, w.before #[Value.ref b] s = true) (hX : va_X b 6 xs s s.heap) (hbl : b < s.heap.size) (hPx : va_P D vwCl (wX q k g gl) H) (hPm : va_P D vwCl (wM q2 k2 g2 gl2) H) (hKx : va_K D vwCl (tyX k) s) (hKm : va_K D vwCl (tyM k2) s) (hD : va_D (fun a : Nat => s.heap.size ≤ a) (wX q k g gl ++ wM q2 k2 g2 gl2)) (hS : va_S (fun a : Nat => s.heap.size ≤ a) s.heap H locs) (hl : lv_has ls 4 [(3, .int 0), (2, .ref (q2 0)), (1, .ref (q 0)), (0, .ref b)])
    (fin : ∀ (H : Heap) (locs : List Loc) (ls : Array Slot), va_S (fun a : Nat => s.heap.size ≤ a) s.heap H locs → lv_has ls 4 [(3, .int 0), (0, .ref b)] → W p l e room_1 s m #[Value.ref b] below meth c H locs 158 353581 Q0 (F0 m 1494 ls [])) : W p l e room_1 s m #[Value.ref b] below meth c H locs 158 353581 Q0 (F0 m 681 ls []) := by
  have hbA : ¬ (fun a : Nat => s.heap.size ≤ a) b := Nat.not_le.mpr hbl
  refine lv_aload_n hx hb dL_law_681 rfl (lv_at hl 2 rfl) ?_
  refine lv_aload_n hx hb dL_law_682 rfl (lv_at hl 3 rfl) ?_
  refine lv_iload_n hx hb dL_law_683 rfl (lv_at hl 0 rfl) ?_
  refine lv_iconst (v := 1) hx hb dL_law_684 (by decide) ?_
  refine lv_iadd hx hb dL_law_685 ?_
  refine z_i (v := 1) (by decide) ?_
  refine va_sld hx hb hX hbl hbA hS (z_in (by decide)) dL_law_686 ?_
  refine z_i (v := xs 1) (by rfl) ?_
  refine lv_aload_n hx hb dL_law_687 rfl (lv_at hl 3 rfl) ?_
  refine lv_iload_n hx hb dL_law_688 rfl (lv_at hl 0 rfl) ?_
  refine lv_iconst (v := 2) hx hb dL_law_689 (by decide) ?_
  refine lv_iadd hx hb dL_law_690 ?_
  refine z_i (v := 2) (by decide) ?_
  refine va_sld hx hb hX hbl hbA hS (z_in (by decide)) dL_law_691 ?_
  refine z_i (v := xs 2) (by rfl) ?_
  refine rd_V (As := [.int (xs 1), .int (xs 2)]) (rest := []) (d := 1) caV_SignalTableLaw_89 hx hb hml hown hts hPx hKx (rX_X11_canBe (xs 1) (xs 2)) (ci := 11) (q0 := 0) rfl rfl (by decide) rfl hl.1 (Nat.le_of_ble_eq_true rfl) (by decide) dL_law_692 rfl ?_
  refine lv_aload_n hx hb dL_law_695 rfl (lv_at hl 1 rfl) ?_
  refine lv_aload_n hx hb dL_law_696 rfl (lv_at hl 3 rfl) ?_
  refine lv_iload_n hx hb dL_law_697 rfl (lv_at hl 0 rfl) ?_
  refine lv_iconst (v := 1) hx hb dL_law_698 (by decide) ?_
  refine lv_iadd hx hb dL_law_699 ?_
  refine z_i (v := 1) (by decide) ?_
  refine va_sld hx hb hX hbl hbA hS (z_in (by decide)) dL_law_700 ?_
  refine z_i (v := xs 1) (by rfl) ?_
  refine lv_aload_n hx hb dL_law_701 rfl (lv_at hl 3 rfl) ?_
  refine lv_iload_n hx hb dL_law_702 rfl (lv_at hl 0 rfl) ?_
  refine lv_iconst (v := 2) hx hb dL_law_703 (by decide) ?_
  refine lv_iadd hx hb dL_law_704 ?_
  refine z_i (v := 2) (by decide) ?_
  refine va_sld hx hb hX hbl hbA hS (z_in (by decide)) dL_law_705 ?_
  refine z_i (v := xs 2) (by rfl) ?_
  refine rd_V (As := [.int (xs 1), .int (xs 2)]) (rest := [.int (-1)]) (d := 1) caV_SignalTableLaw_92 hx hb hml hown hts hPm hKm (rM_X12_canBe (xs 1) (xs 2)) (ci := 12) (q0 := 0) rfl rfl (by decide) rfl hl.1 (Nat.le_of_ble_eq_true rfl) (by decide) dL_law_706 rfl ?_
  refine lv_icmp_eq (tgt := 1494) hx hb dL_law_709 (by decide) (fun _ => ?_) (fun h => absurd rfl h)
  exact fin _ _ _ hS (lv_sub hl [0, 3] rfl)
set_option maxHeartbeats 4000000 in
set_option maxRecDepth 100000 in
theorem lc_18 {p : Program} {l : Launch} {e : Env} {s : State} {m : MethodId} {below : List Frame} {meth : Method} {c : Code} {D : va_G} {b : Nat} {xs : Nat → Int32} {H : Heap} {locs : List Loc} {ls : Array Slot} {Q0 : State → Prop} {q : Nat → Nat} {k : Nat → ClassId} {g : Nat → Nat → Int32} {gl : Nat → Nat → Int64} {q2 : Nat → Nat} {k2 : Nat → ClassId} {g2 : Nat → Nat → Int32} {gl2 : Nat → Nat → Int64} (hx : p.tables.exec = Jvm.exec) (hb : c.code = code) (hml : c.maxLocals = 4) (hown : s.vm.findClass "SignalTableLaw" = some m.cls) (hts : ∀ w ∈ lwg, w.before #[Value.ref b] s = true) (hX : va_X b 6 xs s s.heap) (hbl : b < s.heap.size) (hPx : va_P D vwCl (wX q k g gl) H) (hPm : va_P D vwCl (wM q2 k2 g2 gl2) H) (hKx : va_K D vwCl (tyX k) s) (hKm : va_K D vwCl (tyM k2) s) (hD : va_D (fun a : Nat => s.heap.size ≤ a) (wX q k g gl ++ wM q2 k2 g2 gl2)) (hS : va_S (fun a : Nat => s.heap.size ≤ a) s.heap H locs) (hl : lv_has ls 4 [(3, .int 0), (2, .ref (q2 0)), (1, .ref (q 0)), (0, .ref b)])
    (fin : ∀ (H : Heap) (locs : List Loc) (ls : Array Slot), va_S (fun a : Nat => s.heap.size ≤ a) s.heap H locs → lv_has ls 4 [(3, .int 0), (0, .ref b)] → W p l e room_1 s m #[Value.ref b] below meth c H locs 158 353581 Q0 (F0 m 1494 ls [])) : W p l e room_1 s m #[Value.ref b] below meth c H locs 158 353581 Q0 (F0 m 714 ls []) := by
  have hbA : ¬ (fun a : Nat => s.heap.size ≤ a) b := Nat.not_le.mpr hbl
  refine lv_aload_n hx hb dL_law_714 rfl (lv_at hl 2 rfl) ?_
  refine lv_aload_n hx hb dL_law_715 rfl (lv_at hl 3 rfl) ?_
  refine lv_iload_n hx hb dL_law_716 rfl (lv_at hl 0 rfl) ?_
  refine lv_iconst (v := 1) hx hb dL_law_717 (by decide) ?_
  refine lv_iadd hx hb dL_law_718 ?_
  refine z_i (v := 1) (by decide) ?_
  refine va_sld hx hb hX hbl hbA hS (z_in (by decide)) dL_law_719 ?_
  refine z_i (v := xs 1) (by rfl) ?_
  refine lv_aload_n hx hb dL_law_720 rfl (lv_at hl 3 rfl) ?_
  refine lv_iload_n hx hb dL_law_721 rfl (lv_at hl 0 rfl) ?_
  refine lv_iconst (v := 2) hx hb dL_law_722 (by decide) ?_
  refine lv_iadd hx hb dL_law_723 ?_
  refine z_i (v := 2) (by decide) ?_
  refine va_sld hx hb hX hbl hbA hS (z_in (by decide)) dL_law_724 ?_
  refine z_i (v := xs 2) (by rfl) ?_
  refine lv_aload_n hx hb dL_law_725 rfl (lv_at hl 3 rfl) ?_
  refine lv_iload_n hx hb dL_law_726 rfl (lv_at hl 0 rfl) ?_
  refine lv_iconst (v := 3) hx hb dL_law_727 (by decide) ?_
  refine lv_iadd hx hb dL_law_728 ?_
  refine z_i (v := 3) (by decide) ?_
  refine va_sld hx hb hX hbl hbA hS (z_in (by decide)) dL_law_729 ?_
  refine z_i (v := xs 3) (by rfl) ?_
  refine lv_aload_n hx hb dL_law_730 rfl (lv_at hl 3 rfl) ?_
  refine lv_iload_n hx hb dL_law_731 rfl (lv_at hl 0 rfl) ?_
  refine lv_iconst (v := 4) hx hb dL_law_732 (by decide) ?_
  refine lv_iadd hx hb dL_law_733 ?_
  refine z_i (v := 4) (by decide) ?_
  refine va_sld hx hb hX hbl hbA hS (z_in (by decide)) dL_law_734 ?_
  refine z_i (v := xs 4) (by rfl) ?_
  refine rd_V (As := [.int (xs 1), .int (xs 2), .int (xs 3), .int (xs 4)]) (rest := []) (d := 1) caV_SignalTableLaw_93 hx hb hml hown hts hPx hKx (rX_X11_had (xs 1) (xs 2) (xs 3) (xs 4)) (ci := 11) (q0 := 0) rfl rfl (by decide) rfl hl.1 (Nat.le_of_ble_eq_true rfl) (by decide) dL_law_735 rfl ?_
  refine lv_aload_n hx hb dL_law_738 rfl (lv_at hl 1 rfl) ?_
  refine lv_aload_n hx hb dL_law_739 rfl (lv_at hl 3 rfl) ?_
  refine lv_iload_n hx hb dL_law_740 rfl (lv_at hl 0 rfl) ?_
  refine lv_iconst (v := 1) hx hb dL_law_741 (by decide) ?_
  refine lv_iadd hx hb dL_law_742 ?_
  refine z_i (v := 1) (by decide) ?_
  refine va_sld hx hb hX hbl hbA hS (z_in (by decide)) dL_law_743 ?_
  refine z_i (v := xs 1) (by rfl) ?_
  refine lv_aload_n hx hb dL_law_744 rfl (lv_at hl 3 rfl) ?_
  refine lv_iload_n hx hb dL_law_745 rfl (lv_at hl 0 rfl) ?_
  refine lv_iconst (v := 2) hx hb dL_law_746 (by decide) ?_
  refine lv_iadd hx hb dL_law_747 ?_
  refine z_i (v := 2) (by decide) ?_
  refine va_sld hx hb hX hbl hbA hS (z_in (by decide)) dL_law_748 ?_
  refine z_i (v := xs 2) (by rfl) ?_
  refine lv_aload_n hx hb dL_law_749 rfl (lv_at hl 3 rfl) ?_
  refine lv_iload_n hx hb dL_law_750 rfl (lv_at hl 0 rfl) ?_
  refine lv_iconst (v := 3) hx hb dL_law_751 (by decide) ?_
  refine lv_iadd hx hb dL_law_752 ?_
  refine z_i (v := 3) (by decide) ?_
  refine va_sld hx hb hX hbl hbA hS (z_in (by decide)) dL_law_753 ?_
  refine z_i (v := xs 3) (by rfl) ?_
  refine lv_aload_n hx hb dL_law_754 rfl (lv_at hl 3 rfl) ?_
  refine lv_iload_n hx hb dL_law_755 rfl (lv_at hl 0 rfl) ?_
  refine lv_iconst (v := 4) hx hb dL_law_756 (by decide) ?_
  refine lv_iadd hx hb dL_law_757 ?_
  refine z_i (v := 4) (by decide) ?_
  refine va_sld hx hb hX hbl hbA hS (z_in (by decide)) dL_law_758 ?_
  refine z_i (v := xs 4) (by rfl) ?_
  refine rd_V (As := [.int (xs 1), .int (xs 2), .int (xs 3), .int (xs 4)]) (rest := [.int (-1)]) (d := 1) caV_SignalTableLaw_97 hx hb hml hown hts hPm hKm (rM_X12_had (xs 1) (xs 2) (xs 3) (xs 4)) (ci := 12) (q0 := 0) rfl rfl (by decide) rfl hl.1 (Nat.le_of_ble_eq_true rfl) (by decide) dL_law_759 rfl ?_
  refine lv_icmp_eq (tgt := 1494) hx hb dL_law_762 (by decide) (fun _ => ?_) (fun h => absurd rfl h)
  exact fin _ _ _ hS (lv_sub hl [0, 3] rfl)
set_option maxHeartbeats 4000000 in
set_option maxRecDepth 100000 in
theorem lc_19 {p : Program} {l : Launch} {e : Env} {s : State} {m : MethodId} {below : List Frame} {meth : Method} {c : Code} {D : va_G} {b : Nat} {xs : Nat → Int32} {H : Heap} {locs : List Loc} {ls : Array Slot} {Q0 : State → Prop} {q : Nat → Nat} {k : Nat → ClassId} {g : Nat → Nat → Int32} {gl : Nat → Nat → Int64} {q2 : Nat → Nat} {k2 : Nat → ClassId} {g2 : Nat → Nat → Int32} {gl2 : Nat → Nat → Int64} (hx : p.tables.exec = Jvm.exec) (hb : c.code = code) (hml : c.maxLocals = 4) (hown : s.vm.findClass "SignalTableLaw" = some m.cls) (hts : ∀ w ∈ lwg, w.before #[Value.ref b] s = true) (hX : va_X b 6 xs s s.heap) (hbl : b < s.heap.size) (hPx : va_P D vwCl (wX q k g gl) H) (hPm : va_P D vwCl (wM q2 k2 g2 gl2) H) (hKx : va_K D vwCl (tyX k) s) (hKm : va_K D vwCl (tyM k2) s) (hD : va_D (fun a : Nat => s.heap.size ≤ a) (wX q k g gl ++ wM q2 k2 g2 gl2)) (hS : va_S (fun a : Nat => s.heap.size ≤ a) s.heap H locs) (hl : lv_has ls 4 [(3, .int 0), (2, .ref (q2 0)), (1, .ref (q 0)), (0, .ref b)])
    (fin : ∀ (H : Heap) (locs : List Loc) (ls : Array Slot), va_S (fun a : Nat => s.heap.size ≤ a) s.heap H locs → lv_has ls 4 [(3, .int 0), (0, .ref b)] → W p l e room_1 s m #[Value.ref b] below meth c H locs 158 353581 Q0 (F0 m 1494 ls [])) : W p l e room_1 s m #[Value.ref b] below meth c H locs 158 353581 Q0 (F0 m 767 ls []) := by
  have hbA : ¬ (fun a : Nat => s.heap.size ≤ a) b := Nat.not_le.mpr hbl
  refine lv_aload_n hx hb dL_law_767 rfl (lv_at hl 2 rfl) ?_
  refine lv_aload_n hx hb dL_law_768 rfl (lv_at hl 3 rfl) ?_
  refine lv_iload_n hx hb dL_law_769 rfl (lv_at hl 0 rfl) ?_
  refine lv_iconst (v := 1) hx hb dL_law_770 (by decide) ?_
  refine lv_iadd hx hb dL_law_771 ?_
  refine z_i (v := 1) (by decide) ?_
  refine va_sld hx hb hX hbl hbA hS (z_in (by decide)) dL_law_772 ?_
  refine z_i (v := xs 1) (by rfl) ?_
  refine lv_aload_n hx hb dL_law_773 rfl (lv_at hl 3 rfl) ?_
  refine lv_iload_n hx hb dL_law_774 rfl (lv_at hl 0 rfl) ?_
  refine lv_iconst (v := 2) hx hb dL_law_775 (by decide) ?_
  refine lv_iadd hx hb dL_law_776 ?_
  refine z_i (v := 2) (by decide) ?_
  refine va_sld hx hb hX hbl hbA hS (z_in (by decide)) dL_law_777 ?_
  refine z_i (v := xs 2) (by rfl) ?_
  refine rd_V (As := [.int (xs 1), .int (xs 2)]) (rest := []) (d := 1) caV_SignalTableLaw_98 hx hb hml hown hts hPx hKx (rX_X11_sure (xs 1) (xs 2)) (ci := 11) (q0 := 0) rfl rfl (by decide) rfl hl.1 (Nat.le_of_ble_eq_true rfl) (by decide) dL_law_778 rfl ?_
  refine lv_aload_n hx hb dL_law_781 rfl (lv_at hl 1 rfl) ?_
  refine lv_aload_n hx hb dL_law_782 rfl (lv_at hl 3 rfl) ?_
  refine lv_iload_n hx hb dL_law_783 rfl (lv_at hl 0 rfl) ?_
  refine lv_iconst (v := 1) hx hb dL_law_784 (by decide) ?_
  refine lv_iadd hx hb dL_law_785 ?_
  refine z_i (v := 1) (by decide) ?_
  refine va_sld hx hb hX hbl hbA hS (z_in (by decide)) dL_law_786 ?_
  refine z_i (v := xs 1) (by rfl) ?_
  refine lv_aload_n hx hb dL_law_787 rfl (lv_at hl 3 rfl) ?_
  refine lv_iload_n hx hb dL_law_788 rfl (lv_at hl 0 rfl) ?_
  refine lv_iconst (v := 2) hx hb dL_law_789 (by decide) ?_
  refine lv_iadd hx hb dL_law_790 ?_
  refine z_i (v := 2) (by decide) ?_
  refine va_sld hx hb hX hbl hbA hS (z_in (by decide)) dL_law_791 ?_
  refine z_i (v := xs 2) (by rfl) ?_
  refine rd_V (As := [.int (xs 1), .int (xs 2)]) (rest := [.int (-1)]) (d := 1) caV_SignalTableLaw_101 hx hb hml hown hts hPm hKm (rM_X12_sure (xs 1) (xs 2)) (ci := 12) (q0 := 0) rfl rfl (by decide) rfl hl.1 (Nat.le_of_ble_eq_true rfl) (by decide) dL_law_792 rfl ?_
  refine lv_icmp_eq (tgt := 1494) hx hb dL_law_795 (by decide) (fun _ => ?_) (fun h => absurd rfl h)
  exact fin _ _ _ hS (lv_sub hl [0, 3] rfl)
set_option maxHeartbeats 4000000 in
set_option maxRecDepth 100000 in
theorem lc_20 {p : Program} {l : Launch} {e : Env} {s : State} {m : MethodId} {below : List Frame} {meth : Method} {c : Code} {D : va_G} {b : Nat} {xs : Nat → Int32} {H : Heap} {locs : List Loc} {ls : Array Slot} {Q0 : State → Prop} {q : Nat → Nat} {k : Nat → ClassId} {g : Nat → Nat → Int32} {gl : Nat → Nat → Int64} {q2 : Nat → Nat} {k2 : Nat → ClassId} {g2 : Nat → Nat → Int32} {gl2 : Nat → Nat → Int64} (hx : p.tables.exec = Jvm.exec) (hb : c.code = code) (hml : c.maxLocals = 4) (hown : s.vm.findClass "SignalTableLaw" = some m.cls) (hts : ∀ w ∈ lwg, w.before #[Value.ref b] s = true) (hX : va_X b 6 xs s s.heap) (hbl : b < s.heap.size) (hPx : va_P D vwCl (wX q k g gl) H) (hPm : va_P D vwCl (wM q2 k2 g2 gl2) H) (hKx : va_K D vwCl (tyX k) s) (hKm : va_K D vwCl (tyM k2) s) (hD : va_D (fun a : Nat => s.heap.size ≤ a) (wX q k g gl ++ wM q2 k2 g2 gl2)) (hS : va_S (fun a : Nat => s.heap.size ≤ a) s.heap H locs) (hl : lv_has ls 4 [(3, .int 0), (2, .ref (q2 0)), (1, .ref (q 0)), (0, .ref b)])
    (fin : ∀ (H : Heap) (locs : List Loc) (ls : Array Slot), va_S (fun a : Nat => s.heap.size ≤ a) s.heap H locs → lv_has ls 4 [(3, .int 0), (0, .ref b)] → W p l e room_1 s m #[Value.ref b] below meth c H locs 158 353581 Q0 (F0 m 1494 ls [])) : W p l e room_1 s m #[Value.ref b] below meth c H locs 158 353581 Q0 (F0 m 800 ls []) := by
  have hbA : ¬ (fun a : Nat => s.heap.size ≤ a) b := Nat.not_le.mpr hbl
  refine lv_aload_n hx hb dL_law_800 rfl (lv_at hl 2 rfl) ?_
  refine lv_aload_n hx hb dL_law_801 rfl (lv_at hl 3 rfl) ?_
  refine lv_iload_n hx hb dL_law_802 rfl (lv_at hl 0 rfl) ?_
  refine lv_iconst (v := 1) hx hb dL_law_803 (by decide) ?_
  refine lv_iadd hx hb dL_law_804 ?_
  refine z_i (v := 1) (by decide) ?_
  refine va_sld hx hb hX hbl hbA hS (z_in (by decide)) dL_law_805 ?_
  refine z_i (v := xs 1) (by rfl) ?_
  refine lv_aload_n hx hb dL_law_806 rfl (lv_at hl 3 rfl) ?_
  refine lv_iload_n hx hb dL_law_807 rfl (lv_at hl 0 rfl) ?_
  refine lv_iconst (v := 2) hx hb dL_law_808 (by decide) ?_
  refine lv_iadd hx hb dL_law_809 ?_
  refine z_i (v := 2) (by decide) ?_
  refine va_sld hx hb hX hbl hbA hS (z_in (by decide)) dL_law_810 ?_
  refine z_i (v := xs 2) (by rfl) ?_
  refine lv_aload_n hx hb dL_law_811 rfl (lv_at hl 3 rfl) ?_
  refine lv_iload_n hx hb dL_law_812 rfl (lv_at hl 0 rfl) ?_
  refine lv_iconst (v := 3) hx hb dL_law_813 (by decide) ?_
  refine lv_iadd hx hb dL_law_814 ?_
  refine z_i (v := 3) (by decide) ?_
  refine va_sld hx hb hX hbl hbA hS (z_in (by decide)) dL_law_815 ?_
  refine z_i (v := xs 3) (by rfl) ?_
  refine rd_V (As := [.int (xs 1), .int (xs 2), .int (xs 3)]) (rest := []) (d := 1) caV_SignalTableLaw_102 hx hb hml hown hts hPx hKx (rX_X11_after (xs 1) (xs 2) (xs 3)) (ci := 11) (q0 := 0) rfl rfl (by decide) rfl hl.1 (Nat.le_of_ble_eq_true rfl) (by decide) dL_law_816 rfl ?_
  refine lv_aload_n hx hb dL_law_819 rfl (lv_at hl 1 rfl) ?_
  refine lv_aload_n hx hb dL_law_820 rfl (lv_at hl 3 rfl) ?_
  refine lv_iload_n hx hb dL_law_821 rfl (lv_at hl 0 rfl) ?_
  refine lv_iconst (v := 1) hx hb dL_law_822 (by decide) ?_
  refine lv_iadd hx hb dL_law_823 ?_
  refine z_i (v := 1) (by decide) ?_
  refine va_sld hx hb hX hbl hbA hS (z_in (by decide)) dL_law_824 ?_
  refine z_i (v := xs 1) (by rfl) ?_
  refine lv_aload_n hx hb dL_law_825 rfl (lv_at hl 3 rfl) ?_
  refine lv_iload_n hx hb dL_law_826 rfl (lv_at hl 0 rfl) ?_
  refine lv_iconst (v := 2) hx hb dL_law_827 (by decide) ?_
  refine lv_iadd hx hb dL_law_828 ?_
  refine z_i (v := 2) (by decide) ?_
  refine va_sld hx hb hX hbl hbA hS (z_in (by decide)) dL_law_829 ?_
  refine z_i (v := xs 2) (by rfl) ?_
  refine lv_aload_n hx hb dL_law_830 rfl (lv_at hl 3 rfl) ?_
  refine lv_iload_n hx hb dL_law_831 rfl (lv_at hl 0 rfl) ?_
  refine lv_iconst (v := 3) hx hb dL_law_832 (by decide) ?_
  refine lv_iadd hx hb dL_law_833 ?_
  refine z_i (v := 3) (by decide) ?_
  refine va_sld hx hb hX hbl hbA hS (z_in (by decide)) dL_law_834 ?_
  refine z_i (v := xs 3) (by rfl) ?_
  refine rd_V (As := [.int (xs 1), .int (xs 2), .int (xs 3)]) (rest := [.int (-1)]) (d := 1) caV_SignalTableLaw_105 hx hb hml hown hts hPm hKm (rM_X12_after (xs 1) (xs 2) (xs 3)) (ci := 12) (q0 := 0) rfl rfl (by decide) rfl hl.1 (Nat.le_of_ble_eq_true rfl) (by decide) dL_law_835 rfl ?_
  refine lv_icmp_eq (tgt := 1494) hx hb dL_law_838 (by decide) (fun _ => ?_) (fun h => absurd rfl h)
  exact fin _ _ _ hS (lv_sub hl [0, 3] rfl)
set_option maxHeartbeats 4000000 in
set_option maxRecDepth 100000 in
theorem lc_21 {p : Program} {l : Launch} {e : Env} {s : State} {m : MethodId} {below : List Frame} {meth : Method} {c : Code} {D : va_G} {b : Nat} {xs : Nat → Int32} {H : Heap} {locs : List Loc} {ls : Array Slot} {Q0 : State → Prop} {q : Nat → Nat} {k : Nat → ClassId} {g : Nat → Nat → Int32} {gl : Nat → Nat → Int64} {q2 : Nat → Nat} {k2 : Nat → ClassId} {g2 : Nat → Nat → Int32} {gl2 : Nat → Nat → Int64} (hx : p.tables.exec = Jvm.exec) (hb : c.code = code) (hml : c.maxLocals = 4) (hown : s.vm.findClass "SignalTableLaw" = some m.cls) (hts : ∀ w ∈ lwg, w.before #[Value.ref b] s = true) (hX : va_X b 6 xs s s.heap) (hbl : b < s.heap.size) (hPx : va_P D vwCl (wX q k g gl) H) (hPm : va_P D vwCl (wM q2 k2 g2 gl2) H) (hKx : va_K D vwCl (tyX k) s) (hKm : va_K D vwCl (tyM k2) s) (hD : va_D (fun a : Nat => s.heap.size ≤ a) (wX q k g gl ++ wM q2 k2 g2 gl2)) (hS : va_S (fun a : Nat => s.heap.size ≤ a) s.heap H locs) (hl : lv_has ls 4 [(3, .int 0), (2, .ref (q2 0)), (1, .ref (q 0)), (0, .ref b)])
    (fin : ∀ (H : Heap) (locs : List Loc) (ls : Array Slot), va_S (fun a : Nat => s.heap.size ≤ a) s.heap H locs → lv_has ls 4 [(3, .int 0), (0, .ref b)] → W p l e room_1 s m #[Value.ref b] below meth c H locs 158 353581 Q0 (F0 m 1494 ls [])) : W p l e room_1 s m #[Value.ref b] below meth c H locs 158 353581 Q0 (F0 m 843 ls []) := by
  have hbA : ¬ (fun a : Nat => s.heap.size ≤ a) b := Nat.not_le.mpr hbl
  refine lv_aload_n hx hb dL_law_843 rfl (lv_at hl 2 rfl) ?_
  refine lv_aload_n hx hb dL_law_844 rfl (lv_at hl 3 rfl) ?_
  refine lv_iload_n hx hb dL_law_845 rfl (lv_at hl 0 rfl) ?_
  refine lv_iconst (v := 1) hx hb dL_law_846 (by decide) ?_
  refine lv_iadd hx hb dL_law_847 ?_
  refine z_i (v := 1) (by decide) ?_
  refine va_sld hx hb hX hbl hbA hS (z_in (by decide)) dL_law_848 ?_
  refine z_i (v := xs 1) (by rfl) ?_
  refine lv_aload_n hx hb dL_law_849 rfl (lv_at hl 3 rfl) ?_
  refine lv_iload_n hx hb dL_law_850 rfl (lv_at hl 0 rfl) ?_
  refine lv_iconst (v := 2) hx hb dL_law_851 (by decide) ?_
  refine lv_iadd hx hb dL_law_852 ?_
  refine z_i (v := 2) (by decide) ?_
  refine va_sld hx hb hX hbl hbA hS (z_in (by decide)) dL_law_853 ?_
  refine z_i (v := xs 2) (by rfl) ?_
  refine lv_aload_n hx hb dL_law_854 rfl (lv_at hl 3 rfl) ?_
  refine lv_iload_n hx hb dL_law_855 rfl (lv_at hl 0 rfl) ?_
  refine lv_iconst (v := 3) hx hb dL_law_856 (by decide) ?_
  refine lv_iadd hx hb dL_law_857 ?_
  refine z_i (v := 3) (by decide) ?_
  refine va_sld hx hb hX hbl hbA hS (z_in (by decide)) dL_law_858 ?_
  refine z_i (v := xs 3) (by rfl) ?_
  refine lv_aload_n hx hb dL_law_859 rfl (lv_at hl 3 rfl) ?_
  refine lv_iload_n hx hb dL_law_860 rfl (lv_at hl 0 rfl) ?_
  refine lv_iconst (v := 4) hx hb dL_law_861 (by decide) ?_
  refine lv_iadd hx hb dL_law_862 ?_
  refine z_i (v := 4) (by decide) ?_
  refine va_sld hx hb hX hbl hbA hS (z_in (by decide)) dL_law_863 ?_
  refine z_i (v := xs 4) (by rfl) ?_
  refine rd_V (As := [.int (xs 1), .int (xs 2), .int (xs 3), .int (xs 4)]) (rest := []) (d := 1) caV_SignalTableLaw_106 hx hb hml hown hts hPx hKx (rX_X11_knows (xs 1) (xs 2) (xs 3) (xs 4)) (ci := 11) (q0 := 0) rfl rfl (by decide) rfl hl.1 (Nat.le_of_ble_eq_true rfl) (by decide) dL_law_864 rfl ?_
  refine lv_aload_n hx hb dL_law_867 rfl (lv_at hl 1 rfl) ?_
  refine lv_aload_n hx hb dL_law_868 rfl (lv_at hl 3 rfl) ?_
  refine lv_iload_n hx hb dL_law_869 rfl (lv_at hl 0 rfl) ?_
  refine lv_iconst (v := 1) hx hb dL_law_870 (by decide) ?_
  refine lv_iadd hx hb dL_law_871 ?_
  refine z_i (v := 1) (by decide) ?_
  refine va_sld hx hb hX hbl hbA hS (z_in (by decide)) dL_law_872 ?_
  refine z_i (v := xs 1) (by rfl) ?_
  refine lv_aload_n hx hb dL_law_873 rfl (lv_at hl 3 rfl) ?_
  refine lv_iload_n hx hb dL_law_874 rfl (lv_at hl 0 rfl) ?_
  refine lv_iconst (v := 2) hx hb dL_law_875 (by decide) ?_
  refine lv_iadd hx hb dL_law_876 ?_
  refine z_i (v := 2) (by decide) ?_
  refine va_sld hx hb hX hbl hbA hS (z_in (by decide)) dL_law_877 ?_
  refine z_i (v := xs 2) (by rfl) ?_
  refine lv_aload_n hx hb dL_law_878 rfl (lv_at hl 3 rfl) ?_
  refine lv_iload_n hx hb dL_law_879 rfl (lv_at hl 0 rfl) ?_
  refine lv_iconst (v := 3) hx hb dL_law_880 (by decide) ?_
  refine lv_iadd hx hb dL_law_881 ?_
  refine z_i (v := 3) (by decide) ?_
  refine va_sld hx hb hX hbl hbA hS (z_in (by decide)) dL_law_882 ?_
  refine z_i (v := xs 3) (by rfl) ?_
  refine lv_aload_n hx hb dL_law_883 rfl (lv_at hl 3 rfl) ?_
  refine lv_iload_n hx hb dL_law_884 rfl (lv_at hl 0 rfl) ?_
  refine lv_iconst (v := 4) hx hb dL_law_885 (by decide) ?_
  refine lv_iadd hx hb dL_law_886 ?_
  refine z_i (v := 4) (by decide) ?_
  refine va_sld hx hb hX hbl hbA hS (z_in (by decide)) dL_law_887 ?_
  refine z_i (v := xs 4) (by rfl) ?_
  refine rd_V (As := [.int (xs 1), .int (xs 2), .int (xs 3), .int (xs 4)]) (rest := [.int (-1)]) (d := 1) caV_SignalTableLaw_109 hx hb hml hown hts hPm hKm (rM_X12_knows (xs 1) (xs 2) (xs 3) (xs 4)) (ci := 12) (q0 := 0) rfl rfl (by decide) rfl hl.1 (Nat.le_of_ble_eq_true rfl) (by decide) dL_law_888 rfl ?_
  refine lv_icmp_eq (tgt := 1494) hx hb dL_law_891 (by decide) (fun _ => ?_) (fun h => absurd rfl h)
  exact fin _ _ _ hS (lv_sub hl [0, 3] rfl)
set_option maxHeartbeats 4000000 in
set_option maxRecDepth 100000 in
theorem lc_22 {p : Program} {l : Launch} {e : Env} {s : State} {m : MethodId} {below : List Frame} {meth : Method} {c : Code} {D : va_G} {b : Nat} {xs : Nat → Int32} {H : Heap} {locs : List Loc} {ls : Array Slot} {Q0 : State → Prop} {q : Nat → Nat} {k : Nat → ClassId} {g : Nat → Nat → Int32} {gl : Nat → Nat → Int64} {q2 : Nat → Nat} {k2 : Nat → ClassId} {g2 : Nat → Nat → Int32} {gl2 : Nat → Nat → Int64} (hx : p.tables.exec = Jvm.exec) (hb : c.code = code) (hml : c.maxLocals = 4) (hown : s.vm.findClass "SignalTableLaw" = some m.cls) (hts : ∀ w ∈ lwg, w.before #[Value.ref b] s = true) (hX : va_X b 6 xs s s.heap) (hbl : b < s.heap.size) (hPx : va_P D vwCl (wX q k g gl) H) (hPm : va_P D vwCl (wM q2 k2 g2 gl2) H) (hKx : va_K D vwCl (tyX k) s) (hKm : va_K D vwCl (tyM k2) s) (hD : va_D (fun a : Nat => s.heap.size ≤ a) (wX q k g gl ++ wM q2 k2 g2 gl2)) (hS : va_S (fun a : Nat => s.heap.size ≤ a) s.heap H locs) (hl : lv_has ls 4 [(3, .int 0), (2, .ref (q2 0)), (1, .ref (q 0)), (0, .ref b)])
    (fin : ∀ (H : Heap) (locs : List Loc) (ls : Array Slot), va_S (fun a : Nat => s.heap.size ≤ a) s.heap H locs → lv_has ls 4 [(3, .int 0), (0, .ref b)] → W p l e room_1 s m #[Value.ref b] below meth c H locs 158 353581 Q0 (F0 m 1494 ls [])) : W p l e room_1 s m #[Value.ref b] below meth c H locs 158 353581 Q0 (F0 m 896 ls []) := by
  have hbA : ¬ (fun a : Nat => s.heap.size ≤ a) b := Nat.not_le.mpr hbl
  refine lv_aload_n hx hb dL_law_896 rfl (lv_at hl 2 rfl) ?_
  refine lv_aload_n hx hb dL_law_897 rfl (lv_at hl 3 rfl) ?_
  refine lv_iload_n hx hb dL_law_898 rfl (lv_at hl 0 rfl) ?_
  refine lv_iconst (v := 1) hx hb dL_law_899 (by decide) ?_
  refine lv_iadd hx hb dL_law_900 ?_
  refine z_i (v := 1) (by decide) ?_
  refine va_sld hx hb hX hbl hbA hS (z_in (by decide)) dL_law_901 ?_
  refine z_i (v := xs 1) (by rfl) ?_
  refine rd_V (As := [.int (xs 1)]) (rest := []) (d := 0) caV_SignalTableLaw_110 hx hb hml hown hts hPx hKx (rX_X11_revokes (xs 1)) (ci := 11) (q0 := 0) rfl rfl (by decide) rfl hl.1 (Nat.le_of_ble_eq_true rfl) (by decide) dL_law_902 rfl ?_
  refine lv_aload_n hx hb dL_law_905 rfl (lv_at hl 1 rfl) ?_
  refine lv_aload_n hx hb dL_law_906 rfl (lv_at hl 3 rfl) ?_
  refine lv_iload_n hx hb dL_law_907 rfl (lv_at hl 0 rfl) ?_
  refine lv_iconst (v := 1) hx hb dL_law_908 (by decide) ?_
  refine lv_iadd hx hb dL_law_909 ?_
  refine z_i (v := 1) (by decide) ?_
  refine va_sld hx hb hX hbl hbA hS (z_in (by decide)) dL_law_910 ?_
  refine z_i (v := xs 1) (by rfl) ?_
  refine rd_V (As := [.int (xs 1)]) (rest := [.int (if 0 ≤ (xs 1) ∧ (xs 1) ≤ 1 then 0 else if (xs 1) = 2 then -2 else -1)]) (d := 1) caV_SignalTableLaw_113 hx hb hml hown hts hPm hKm (rM_X12_revokes (xs 1)) (ci := 12) (q0 := 0) rfl rfl (by decide) rfl hl.1 (Nat.le_of_ble_eq_true rfl) (by decide) dL_law_911 rfl ?_
  refine lv_icmp_eq (tgt := 1494) hx hb dL_law_914 (by decide) (fun _ => ?_) (fun h => absurd rfl h)
  exact fin _ _ _ hS (lv_sub hl [0, 3] rfl)
set_option maxHeartbeats 4000000 in
set_option maxRecDepth 100000 in
theorem lc_23 {p : Program} {l : Launch} {e : Env} {s : State} {m : MethodId} {below : List Frame} {meth : Method} {c : Code} {D : va_G} {b : Nat} {xs : Nat → Int32} {H : Heap} {locs : List Loc} {ls : Array Slot} {Q0 : State → Prop} {q : Nat → Nat} {k : Nat → ClassId} {g : Nat → Nat → Int32} {gl : Nat → Nat → Int64} {q2 : Nat → Nat} {k2 : Nat → ClassId} {g2 : Nat → Nat → Int32} {gl2 : Nat → Nat → Int64} (hx : p.tables.exec = Jvm.exec) (hb : c.code = code) (hml : c.maxLocals = 4) (hown : s.vm.findClass "SignalTableLaw" = some m.cls) (hts : ∀ w ∈ lwg, w.before #[Value.ref b] s = true) (hX : va_X b 6 xs s s.heap) (hbl : b < s.heap.size) (hPx : va_P D vwCl (wX q k g gl) H) (hPm : va_P D vwCl (wM q2 k2 g2 gl2) H) (hKx : va_K D vwCl (tyX k) s) (hKm : va_K D vwCl (tyM k2) s) (hD : va_D (fun a : Nat => s.heap.size ≤ a) (wX q k g gl ++ wM q2 k2 g2 gl2)) (hS : va_S (fun a : Nat => s.heap.size ≤ a) s.heap H locs) (hl : lv_has ls 4 [(3, .int 0), (2, .ref (q2 0)), (1, .ref (q 0)), (0, .ref b)])
    (fin : ∀ (H : Heap) (locs : List Loc) (ls : Array Slot), va_S (fun a : Nat => s.heap.size ≤ a) s.heap H locs → lv_has ls 4 [(3, .int 0), (0, .ref b)] → W p l e room_1 s m #[Value.ref b] below meth c H locs 158 353581 Q0 (F0 m 1494 ls [])) : W p l e room_1 s m #[Value.ref b] below meth c H locs 158 353581 Q0 (F0 m 919 ls []) := by
  have hbA : ¬ (fun a : Nat => s.heap.size ≤ a) b := Nat.not_le.mpr hbl
  refine lv_aload_n hx hb dL_law_919 rfl (lv_at hl 2 rfl) ?_
  refine rd_V (As := []) (rest := []) (d := 0) caV_SignalTableLaw_114 hx hb hml hown hts hPx hKx (rX_X11_open) (ci := 11) (q0 := 0) rfl rfl (by decide) rfl hl.1 (Nat.le_of_ble_eq_true rfl) (by decide) dL_law_920 rfl ?_
  refine lv_aload_n hx hb dL_law_923 rfl (lv_at hl 1 rfl) ?_
  refine rd_V (As := []) (rest := [.int (-2)]) (d := 0) caV_SignalTableLaw_117 hx hb hml hown hts hPm hKm (rM_X12_open) (ci := 12) (q0 := 0) rfl rfl (by decide) rfl hl.1 (Nat.le_of_ble_eq_true rfl) (by decide) dL_law_924 rfl ?_
  refine lv_icmp_eq (tgt := 1494) hx hb dL_law_927 (by decide) (fun _ => ?_) (fun h => absurd rfl h)
  exact fin _ _ _ hS (lv_sub hl [0, 3] rfl)
set_option maxHeartbeats 4000000 in
set_option maxRecDepth 100000 in
theorem lc_24 {p : Program} {l : Launch} {e : Env} {s : State} {m : MethodId} {below : List Frame} {meth : Method} {c : Code} {D : va_G} {b : Nat} {xs : Nat → Int32} {H : Heap} {locs : List Loc} {ls : Array Slot} {Q0 : State → Prop} {q : Nat → Nat} {k : Nat → ClassId} {g : Nat → Nat → Int32} {gl : Nat → Nat → Int64} {q2 : Nat → Nat} {k2 : Nat → ClassId} {g2 : Nat → Nat → Int32} {gl2 : Nat → Nat → Int64} (hx : p.tables.exec = Jvm.exec) (hb : c.code = code) (hml : c.maxLocals = 4) (hown : s.vm.findClass "SignalTableLaw" = some m.cls) (hts : ∀ w ∈ lwg, w.before #[Value.ref b] s = true) (hX : va_X b 6 xs s s.heap) (hbl : b < s.heap.size) (hPx : va_P D vwCl (wX q k g gl) H) (hPm : va_P D vwCl (wM q2 k2 g2 gl2) H) (hKx : va_K D vwCl (tyX k) s) (hKm : va_K D vwCl (tyM k2) s) (hD : va_D (fun a : Nat => s.heap.size ≤ a) (wX q k g gl ++ wM q2 k2 g2 gl2)) (hS : va_S (fun a : Nat => s.heap.size ≤ a) s.heap H locs) (hl : lv_has ls 4 [(3, .int 0), (2, .ref (q2 0)), (1, .ref (q 0)), (0, .ref b)])
    (fin : ∀ (H : Heap) (locs : List Loc) (ls : Array Slot), va_S (fun a : Nat => s.heap.size ≤ a) s.heap H locs → lv_has ls 4 [(3, .int 0), (0, .ref b)] → W p l e room_1 s m #[Value.ref b] below meth c H locs 158 353581 Q0 (F0 m 1494 ls [])) : W p l e room_1 s m #[Value.ref b] below meth c H locs 158 353581 Q0 (F0 m 932 ls []) := by
  have hbA : ¬ (fun a : Nat => s.heap.size ≤ a) b := Nat.not_le.mpr hbl
  refine lv_aload_n hx hb dL_law_932 rfl (lv_at hl 2 rfl) ?_
  refine lv_aload_n hx hb dL_law_933 rfl (lv_at hl 3 rfl) ?_
  refine lv_iload_n hx hb dL_law_934 rfl (lv_at hl 0 rfl) ?_
  refine lv_iconst (v := 1) hx hb dL_law_935 (by decide) ?_
  refine lv_iadd hx hb dL_law_936 ?_
  refine z_i (v := 1) (by decide) ?_
  refine va_sld hx hb hX hbl hbA hS (z_in (by decide)) dL_law_937 ?_
  refine z_i (v := xs 1) (by rfl) ?_
  refine rd_V (As := [.int (xs 1)]) (rest := []) (d := 0) caV_SignalTableLaw_118 hx hb hml hown hts hPx hKx (rX_X11_line (xs 1)) (ci := 11) (q0 := 0) rfl rfl (by decide) rfl hl.1 (Nat.le_of_ble_eq_true rfl) (by decide) dL_law_938 rfl ?_
  refine lv_aload_n hx hb dL_law_941 rfl (lv_at hl 1 rfl) ?_
  refine lv_aload_n hx hb dL_law_942 rfl (lv_at hl 3 rfl) ?_
  refine lv_iload_n hx hb dL_law_943 rfl (lv_at hl 0 rfl) ?_
  refine lv_iconst (v := 1) hx hb dL_law_944 (by decide) ?_
  refine lv_iadd hx hb dL_law_945 ?_
  refine z_i (v := 1) (by decide) ?_
  refine va_sld hx hb hX hbl hbA hS (z_in (by decide)) dL_law_946 ?_
  refine z_i (v := xs 1) (by rfl) ?_
  refine rd_V (As := [.int (xs 1)]) (rest := [.int (-1)]) (d := 0) caV_SignalTableLaw_121 hx hb hml hown hts hPm hKm (rM_X12_line (xs 1)) (ci := 12) (q0 := 0) rfl rfl (by decide) rfl hl.1 (Nat.le_of_ble_eq_true rfl) (by decide) dL_law_947 rfl ?_
  refine lv_icmp_eq (tgt := 1494) hx hb dL_law_950 (by decide) (fun _ => ?_) (fun h => absurd rfl h)
  exact fin _ _ _ hS (lv_sub hl [0, 3] rfl)
set_option maxHeartbeats 4000000 in
set_option maxRecDepth 100000 in
theorem lc_25 {p : Program} {l : Launch} {e : Env} {s : State} {m : MethodId} {below : List Frame} {meth : Method} {c : Code} {D : va_G} {b : Nat} {xs : Nat → Int32} {H : Heap} {locs : List Loc} {ls : Array Slot} {Q0 : State → Prop} {q : Nat → Nat} {k : Nat → ClassId} {g : Nat → Nat → Int32} {gl : Nat → Nat → Int64} {q2 : Nat → Nat} {k2 : Nat → ClassId} {g2 : Nat → Nat → Int32} {gl2 : Nat → Nat → Int64} (hx : p.tables.exec = Jvm.exec) (hb : c.code = code) (hml : c.maxLocals = 4) (hown : s.vm.findClass "SignalTableLaw" = some m.cls) (hts : ∀ w ∈ lwg, w.before #[Value.ref b] s = true) (hX : va_X b 6 xs s s.heap) (hbl : b < s.heap.size) (hPx : va_P D vwCl (wX q k g gl) H) (hPm : va_P D vwCl (wM q2 k2 g2 gl2) H) (hKx : va_K D vwCl (tyX k) s) (hKm : va_K D vwCl (tyM k2) s) (hD : va_D (fun a : Nat => s.heap.size ≤ a) (wX q k g gl ++ wM q2 k2 g2 gl2)) (hS : va_S (fun a : Nat => s.heap.size ≤ a) s.heap H locs) (hl : lv_has ls 4 [(3, .int 0), (2, .ref (q2 0)), (1, .ref (q 0)), (0, .ref b)])
    (fin : ∀ (H : Heap) (locs : List Loc) (ls : Array Slot), va_S (fun a : Nat => s.heap.size ≤ a) s.heap H locs → lv_has ls 4 [(3, .int 0), (0, .ref b)] → W p l e room_1 s m #[Value.ref b] below meth c H locs 158 353581 Q0 (F0 m 1494 ls [])) : W p l e room_1 s m #[Value.ref b] below meth c H locs 158 353581 Q0 (F0 m 955 ls []) := by
  have hbA : ¬ (fun a : Nat => s.heap.size ≤ a) b := Nat.not_le.mpr hbl
  refine lv_aload_n hx hb dL_law_955 rfl (lv_at hl 2 rfl) ?_
  refine lv_aload_n hx hb dL_law_956 rfl (lv_at hl 3 rfl) ?_
  refine lv_iload_n hx hb dL_law_957 rfl (lv_at hl 0 rfl) ?_
  refine lv_iconst (v := 1) hx hb dL_law_958 (by decide) ?_
  refine lv_iadd hx hb dL_law_959 ?_
  refine z_i (v := 1) (by decide) ?_
  refine va_sld hx hb hX hbl hbA hS (z_in (by decide)) dL_law_960 ?_
  refine z_i (v := xs 1) (by rfl) ?_
  refine lv_aload_n hx hb dL_law_961 rfl (lv_at hl 3 rfl) ?_
  refine lv_iload_n hx hb dL_law_962 rfl (lv_at hl 0 rfl) ?_
  refine lv_iconst (v := 2) hx hb dL_law_963 (by decide) ?_
  refine lv_iadd hx hb dL_law_964 ?_
  refine z_i (v := 2) (by decide) ?_
  refine va_sld hx hb hX hbl hbA hS (z_in (by decide)) dL_law_965 ?_
  refine z_i (v := xs 2) (by rfl) ?_
  refine rd_V (As := [.int (xs 1), .int (xs 2)]) (rest := []) (d := 2) caV_SignalTableLaw_122 hx hb hml hown hts hPx hKx (rX_X11_mean (xs 1) (xs 2)) (ci := 11) (q0 := 0) rfl rfl (by decide) rfl hl.1 (Nat.le_of_ble_eq_true rfl) (by decide) dL_law_966 rfl ?_
  refine lv_aload_n hx hb dL_law_969 rfl (lv_at hl 1 rfl) ?_
  refine lv_aload_n hx hb dL_law_970 rfl (lv_at hl 3 rfl) ?_
  refine lv_iload_n hx hb dL_law_971 rfl (lv_at hl 0 rfl) ?_
  refine lv_iconst (v := 1) hx hb dL_law_972 (by decide) ?_
  refine lv_iadd hx hb dL_law_973 ?_
  refine z_i (v := 1) (by decide) ?_
  refine va_sld hx hb hX hbl hbA hS (z_in (by decide)) dL_law_974 ?_
  refine z_i (v := xs 1) (by rfl) ?_
  refine lv_aload_n hx hb dL_law_975 rfl (lv_at hl 3 rfl) ?_
  refine lv_iload_n hx hb dL_law_976 rfl (lv_at hl 0 rfl) ?_
  refine lv_iconst (v := 2) hx hb dL_law_977 (by decide) ?_
  refine lv_iadd hx hb dL_law_978 ?_
  refine z_i (v := 2) (by decide) ?_
  refine va_sld hx hb hX hbl hbA hS (z_in (by decide)) dL_law_979 ?_
  refine z_i (v := xs 2) (by rfl) ?_
  refine rd_V (As := [.int (xs 1), .int (xs 2)]) (rest := [.long (-1)]) (d := 2) caV_SignalTableLaw_126 hx hb hml hown hts hPm hKm (rM_X12_mean (xs 1) (xs 2)) (ci := 12) (q0 := 0) rfl rfl (by decide) rfl hl.1 (Nat.le_of_ble_eq_true rfl) (by decide) dL_law_980 rfl ?_
  refine W.lcmp hx hb dL_law_983 ?_
  refine z_i (v := 0) (by decide) ?_
  refine lv_if_eq (tgt := 1494) hx hb dL_law_984 (by decide) (fun _ => ?_) (fun h => absurd (by decide) h)
  exact fin _ _ _ hS (lv_sub hl [0, 3] rfl)
set_option maxHeartbeats 4000000 in
set_option maxRecDepth 100000 in
theorem lc_26 {p : Program} {l : Launch} {e : Env} {s : State} {m : MethodId} {below : List Frame} {meth : Method} {c : Code} {D : va_G} {b : Nat} {xs : Nat → Int32} {H : Heap} {locs : List Loc} {ls : Array Slot} {Q0 : State → Prop} {q : Nat → Nat} {k : Nat → ClassId} {g : Nat → Nat → Int32} {gl : Nat → Nat → Int64} {q2 : Nat → Nat} {k2 : Nat → ClassId} {g2 : Nat → Nat → Int32} {gl2 : Nat → Nat → Int64} (hx : p.tables.exec = Jvm.exec) (hb : c.code = code) (hml : c.maxLocals = 4) (hown : s.vm.findClass "SignalTableLaw" = some m.cls) (hts : ∀ w ∈ lwg, w.before #[Value.ref b] s = true) (hX : va_X b 6 xs s s.heap) (hbl : b < s.heap.size) (hPx : va_P D vwCl (wX q k g gl) H) (hPm : va_P D vwCl (wM q2 k2 g2 gl2) H) (hKx : va_K D vwCl (tyX k) s) (hKm : va_K D vwCl (tyM k2) s) (hD : va_D (fun a : Nat => s.heap.size ≤ a) (wX q k g gl ++ wM q2 k2 g2 gl2)) (hS : va_S (fun a : Nat => s.heap.size ≤ a) s.heap H locs) (hl : lv_has ls 4 [(3, .int 0), (2, .ref (q2 0)), (1, .ref (q 0)), (0, .ref b)])
    (fin : ∀ (H : Heap) (locs : List Loc) (ls : Array Slot), va_S (fun a : Nat => s.heap.size ≤ a) s.heap H locs → lv_has ls 4 [(3, .int 0), (0, .ref b)] → W p l e room_1 s m #[Value.ref b] below meth c H locs 158 353581 Q0 (F0 m 1494 ls [])) : W p l e room_1 s m #[Value.ref b] below meth c H locs 158 353581 Q0 (F0 m 989 ls []) := by
  have hbA : ¬ (fun a : Nat => s.heap.size ≤ a) b := Nat.not_le.mpr hbl
  refine lv_aload_n hx hb dL_law_989 rfl (lv_at hl 2 rfl) ?_
  refine lv_aload_n hx hb dL_law_990 rfl (lv_at hl 3 rfl) ?_
  refine lv_iload_n hx hb dL_law_991 rfl (lv_at hl 0 rfl) ?_
  refine lv_iconst (v := 1) hx hb dL_law_992 (by decide) ?_
  refine lv_iadd hx hb dL_law_993 ?_
  refine z_i (v := 1) (by decide) ?_
  refine va_sld hx hb hX hbl hbA hS (z_in (by decide)) dL_law_994 ?_
  refine z_i (v := xs 1) (by rfl) ?_
  refine rd_V (As := [.int (xs 1)]) (rest := []) (d := 2) caV_SignalTableLaw_127 hx hb hml hown hts hPx hKx (rX_X11_choice (xs 1)) (ci := 11) (q0 := 0) rfl rfl (by decide) rfl hl.1 (Nat.le_of_ble_eq_true rfl) (by decide) dL_law_995 rfl ?_
  refine lv_aload_n hx hb dL_law_998 rfl (lv_at hl 1 rfl) ?_
  refine lv_aload_n hx hb dL_law_999 rfl (lv_at hl 3 rfl) ?_
  refine lv_iload_n hx hb dL_law_1000 rfl (lv_at hl 0 rfl) ?_
  refine lv_iconst (v := 1) hx hb dL_law_1001 (by decide) ?_
  refine lv_iadd hx hb dL_law_1002 ?_
  refine z_i (v := 1) (by decide) ?_
  refine va_sld hx hb hX hbl hbA hS (z_in (by decide)) dL_law_1003 ?_
  refine z_i (v := xs 1) (by rfl) ?_
  refine rd_V (As := [.int (xs 1)]) (rest := [.int (-1)]) (d := 2) caV_SignalTableLaw_130 hx hb hml hown hts hPm hKm (rM_X12_choice (xs 1)) (ci := 12) (q0 := 0) rfl rfl (by decide) rfl hl.1 (Nat.le_of_ble_eq_true rfl) (by decide) dL_law_1004 rfl ?_
  refine lv_icmp_eq (tgt := 1494) hx hb dL_law_1007 (by decide) (fun _ => ?_) (fun h => absurd rfl h)
  exact fin _ _ _ hS (lv_sub hl [0, 3] rfl)
set_option maxHeartbeats 4000000 in
set_option maxRecDepth 100000 in
theorem lc_27 {p : Program} {l : Launch} {e : Env} {s : State} {m : MethodId} {below : List Frame} {meth : Method} {c : Code} {D : va_G} {b : Nat} {xs : Nat → Int32} {H : Heap} {locs : List Loc} {ls : Array Slot} {Q0 : State → Prop} {q : Nat → Nat} {k : Nat → ClassId} {g : Nat → Nat → Int32} {gl : Nat → Nat → Int64} {q2 : Nat → Nat} {k2 : Nat → ClassId} {g2 : Nat → Nat → Int32} {gl2 : Nat → Nat → Int64} (hx : p.tables.exec = Jvm.exec) (hb : c.code = code) (hml : c.maxLocals = 4) (hown : s.vm.findClass "SignalTableLaw" = some m.cls) (hts : ∀ w ∈ lwg, w.before #[Value.ref b] s = true) (hX : va_X b 6 xs s s.heap) (hbl : b < s.heap.size) (hPx : va_P D vwCl (wX q k g gl) H) (hPm : va_P D vwCl (wM q2 k2 g2 gl2) H) (hKx : va_K D vwCl (tyX k) s) (hKm : va_K D vwCl (tyM k2) s) (hD : va_D (fun a : Nat => s.heap.size ≤ a) (wX q k g gl ++ wM q2 k2 g2 gl2)) (hS : va_S (fun a : Nat => s.heap.size ≤ a) s.heap H locs) (hl : lv_has ls 4 [(3, .int 0), (2, .ref (q2 0)), (1, .ref (q 0)), (0, .ref b)])
    (fin : ∀ (H : Heap) (locs : List Loc) (ls : Array Slot), va_S (fun a : Nat => s.heap.size ≤ a) s.heap H locs → lv_has ls 4 [(3, .int 0), (0, .ref b)] → W p l e room_1 s m #[Value.ref b] below meth c H locs 158 353581 Q0 (F0 m 1494 ls [])) : W p l e room_1 s m #[Value.ref b] below meth c H locs 158 353581 Q0 (F0 m 1012 ls []) := by
  have hbA : ¬ (fun a : Nat => s.heap.size ≤ a) b := Nat.not_le.mpr hbl
  refine lv_aload_n hx hb dL_law_1012 rfl (lv_at hl 2 rfl) ?_
  refine lv_aload_n hx hb dL_law_1013 rfl (lv_at hl 3 rfl) ?_
  refine lv_iload_n hx hb dL_law_1014 rfl (lv_at hl 0 rfl) ?_
  refine lv_iconst (v := 1) hx hb dL_law_1015 (by decide) ?_
  refine lv_iadd hx hb dL_law_1016 ?_
  refine z_i (v := 1) (by decide) ?_
  refine va_sld hx hb hX hbl hbA hS (z_in (by decide)) dL_law_1017 ?_
  refine z_i (v := xs 1) (by rfl) ?_
  refine lv_aload_n hx hb dL_law_1018 rfl (lv_at hl 3 rfl) ?_
  refine lv_iload_n hx hb dL_law_1019 rfl (lv_at hl 0 rfl) ?_
  refine lv_iconst (v := 2) hx hb dL_law_1020 (by decide) ?_
  refine lv_iadd hx hb dL_law_1021 ?_
  refine z_i (v := 2) (by decide) ?_
  refine va_sld hx hb hX hbl hbA hS (z_in (by decide)) dL_law_1022 ?_
  refine z_i (v := xs 2) (by rfl) ?_
  refine lv_aload_n hx hb dL_law_1023 rfl (lv_at hl 3 rfl) ?_
  refine lv_iload_n hx hb dL_law_1024 rfl (lv_at hl 0 rfl) ?_
  refine lv_iconst (v := 3) hx hb dL_law_1025 (by decide) ?_
  refine lv_iadd hx hb dL_law_1026 ?_
  refine z_i (v := 3) (by decide) ?_
  refine va_sld hx hb hX hbl hbA hS (z_in (by decide)) dL_law_1027 ?_
  refine z_i (v := xs 3) (by rfl) ?_
  refine rd_V (As := [.int (xs 1), .int (xs 2), .int (xs 3)]) (rest := []) (d := 2) caV_SignalTableLaw_131 hx hb hml hown hts hPx hKx (rX_X11_spread (xs 1) (xs 2) (xs 3)) (ci := 11) (q0 := 0) rfl rfl (by decide) rfl hl.1 (Nat.le_of_ble_eq_true rfl) (by decide) dL_law_1028 rfl ?_
  refine lv_aload_n hx hb dL_law_1031 rfl (lv_at hl 1 rfl) ?_
  refine lv_aload_n hx hb dL_law_1032 rfl (lv_at hl 3 rfl) ?_
  refine lv_iload_n hx hb dL_law_1033 rfl (lv_at hl 0 rfl) ?_
  refine lv_iconst (v := 1) hx hb dL_law_1034 (by decide) ?_
  refine lv_iadd hx hb dL_law_1035 ?_
  refine z_i (v := 1) (by decide) ?_
  refine va_sld hx hb hX hbl hbA hS (z_in (by decide)) dL_law_1036 ?_
  refine z_i (v := xs 1) (by rfl) ?_
  refine lv_aload_n hx hb dL_law_1037 rfl (lv_at hl 3 rfl) ?_
  refine lv_iload_n hx hb dL_law_1038 rfl (lv_at hl 0 rfl) ?_
  refine lv_iconst (v := 2) hx hb dL_law_1039 (by decide) ?_
  refine lv_iadd hx hb dL_law_1040 ?_
  refine z_i (v := 2) (by decide) ?_
  refine va_sld hx hb hX hbl hbA hS (z_in (by decide)) dL_law_1041 ?_
  refine z_i (v := xs 2) (by rfl) ?_
  refine lv_aload_n hx hb dL_law_1042 rfl (lv_at hl 3 rfl) ?_
  refine lv_iload_n hx hb dL_law_1043 rfl (lv_at hl 0 rfl) ?_
  refine lv_iconst (v := 3) hx hb dL_law_1044 (by decide) ?_
  refine lv_iadd hx hb dL_law_1045 ?_
  refine z_i (v := 3) (by decide) ?_
  refine va_sld hx hb hX hbl hbA hS (z_in (by decide)) dL_law_1046 ?_
  refine z_i (v := xs 3) (by rfl) ?_
  refine rd_V (As := [.int (xs 1), .int (xs 2), .int (xs 3)]) (rest := [.int (-1)]) (d := 2) caV_SignalTableLaw_134 hx hb hml hown hts hPm hKm (rM_X12_spread (xs 1) (xs 2) (xs 3)) (ci := 12) (q0 := 0) rfl rfl (by decide) rfl hl.1 (Nat.le_of_ble_eq_true rfl) (by decide) dL_law_1047 rfl ?_
  refine lv_icmp_eq (tgt := 1494) hx hb dL_law_1050 (by decide) (fun _ => ?_) (fun h => absurd rfl h)
  exact fin _ _ _ hS (lv_sub hl [0, 3] rfl)
set_option maxHeartbeats 4000000 in
set_option maxRecDepth 100000 in
theorem lc_28 {p : Program} {l : Launch} {e : Env} {s : State} {m : MethodId} {below : List Frame} {meth : Method} {c : Code} {D : va_G} {b : Nat} {xs : Nat → Int32} {H : Heap} {locs : List Loc} {ls : Array Slot} {Q0 : State → Prop} {q : Nat → Nat} {k : Nat → ClassId} {g : Nat → Nat → Int32} {gl : Nat → Nat → Int64} {q2 : Nat → Nat} {k2 : Nat → ClassId} {g2 : Nat → Nat → Int32} {gl2 : Nat → Nat → Int64} (hx : p.tables.exec = Jvm.exec) (hb : c.code = code) (hml : c.maxLocals = 4) (hown : s.vm.findClass "SignalTableLaw" = some m.cls) (hts : ∀ w ∈ lwg, w.before #[Value.ref b] s = true) (hX : va_X b 6 xs s s.heap) (hbl : b < s.heap.size) (hPx : va_P D vwCl (wX q k g gl) H) (hPm : va_P D vwCl (wM q2 k2 g2 gl2) H) (hKx : va_K D vwCl (tyX k) s) (hKm : va_K D vwCl (tyM k2) s) (hD : va_D (fun a : Nat => s.heap.size ≤ a) (wX q k g gl ++ wM q2 k2 g2 gl2)) (hS : va_S (fun a : Nat => s.heap.size ≤ a) s.heap H locs) (hl : lv_has ls 4 [(3, .int 0), (2, .ref (q2 0)), (1, .ref (q 0)), (0, .ref b)])
    (fin : ∀ (H : Heap) (locs : List Loc) (ls : Array Slot), va_S (fun a : Nat => s.heap.size ≤ a) s.heap H locs → lv_has ls 4 [(3, .int 0), (0, .ref b)] → W p l e room_1 s m #[Value.ref b] below meth c H locs 158 353581 Q0 (F0 m 1494 ls [])) : W p l e room_1 s m #[Value.ref b] below meth c H locs 158 353581 Q0 (F0 m 1055 ls []) := by
  have hbA : ¬ (fun a : Nat => s.heap.size ≤ a) b := Nat.not_le.mpr hbl
  refine lv_aload_n hx hb dL_law_1055 rfl (lv_at hl 2 rfl) ?_
  refine lv_aload_n hx hb dL_law_1056 rfl (lv_at hl 3 rfl) ?_
  refine lv_iload_n hx hb dL_law_1057 rfl (lv_at hl 0 rfl) ?_
  refine lv_iconst (v := 1) hx hb dL_law_1058 (by decide) ?_
  refine lv_iadd hx hb dL_law_1059 ?_
  refine z_i (v := 1) (by decide) ?_
  refine va_sld hx hb hX hbl hbA hS (z_in (by decide)) dL_law_1060 ?_
  refine z_i (v := xs 1) (by rfl) ?_
  refine lv_aload_n hx hb dL_law_1061 rfl (lv_at hl 3 rfl) ?_
  refine lv_iload_n hx hb dL_law_1062 rfl (lv_at hl 0 rfl) ?_
  refine lv_iconst (v := 2) hx hb dL_law_1063 (by decide) ?_
  refine lv_iadd hx hb dL_law_1064 ?_
  refine z_i (v := 2) (by decide) ?_
  refine va_sld hx hb hX hbl hbA hS (z_in (by decide)) dL_law_1065 ?_
  refine z_i (v := xs 2) (by rfl) ?_
  refine rd_V (As := [.int (xs 1), .int (xs 2)]) (rest := []) (d := 2) caV_SignalTableLaw_135 hx hb hml hown hts hPx hKx (rX_X11_safe (xs 1) (xs 2)) (ci := 11) (q0 := 0) rfl rfl (by decide) rfl hl.1 (Nat.le_of_ble_eq_true rfl) (by decide) dL_law_1066 rfl ?_
  refine lv_aload_n hx hb dL_law_1069 rfl (lv_at hl 1 rfl) ?_
  refine lv_aload_n hx hb dL_law_1070 rfl (lv_at hl 3 rfl) ?_
  refine lv_iload_n hx hb dL_law_1071 rfl (lv_at hl 0 rfl) ?_
  refine lv_iconst (v := 1) hx hb dL_law_1072 (by decide) ?_
  refine lv_iadd hx hb dL_law_1073 ?_
  refine z_i (v := 1) (by decide) ?_
  refine va_sld hx hb hX hbl hbA hS (z_in (by decide)) dL_law_1074 ?_
  refine z_i (v := xs 1) (by rfl) ?_
  refine lv_aload_n hx hb dL_law_1075 rfl (lv_at hl 3 rfl) ?_
  refine lv_iload_n hx hb dL_law_1076 rfl (lv_at hl 0 rfl) ?_
  refine lv_iconst (v := 2) hx hb dL_law_1077 (by decide) ?_
  refine lv_iadd hx hb dL_law_1078 ?_
  refine z_i (v := 2) (by decide) ?_
  refine va_sld hx hb hX hbl hbA hS (z_in (by decide)) dL_law_1079 ?_
  refine z_i (v := xs 2) (by rfl) ?_
  refine rd_V (As := [.int (xs 1), .int (xs 2)]) (rest := [.int (-1)]) (d := 2) caV_SignalTableLaw_138 hx hb hml hown hts hPm hKm (rM_X12_safe (xs 1) (xs 2)) (ci := 12) (q0 := 0) rfl rfl (by decide) rfl hl.1 (Nat.le_of_ble_eq_true rfl) (by decide) dL_law_1080 rfl ?_
  refine lv_icmp_eq (tgt := 1494) hx hb dL_law_1083 (by decide) (fun _ => ?_) (fun h => absurd rfl h)
  exact fin _ _ _ hS (lv_sub hl [0, 3] rfl)
set_option maxHeartbeats 4000000 in
set_option maxRecDepth 100000 in
theorem lc_29 {p : Program} {l : Launch} {e : Env} {s : State} {m : MethodId} {below : List Frame} {meth : Method} {c : Code} {D : va_G} {b : Nat} {xs : Nat → Int32} {H : Heap} {locs : List Loc} {ls : Array Slot} {Q0 : State → Prop} {q : Nat → Nat} {k : Nat → ClassId} {g : Nat → Nat → Int32} {gl : Nat → Nat → Int64} {q2 : Nat → Nat} {k2 : Nat → ClassId} {g2 : Nat → Nat → Int32} {gl2 : Nat → Nat → Int64} (hx : p.tables.exec = Jvm.exec) (hb : c.code = code) (hml : c.maxLocals = 4) (hown : s.vm.findClass "SignalTableLaw" = some m.cls) (hts : ∀ w ∈ lwg, w.before #[Value.ref b] s = true) (hX : va_X b 6 xs s s.heap) (hbl : b < s.heap.size) (hPx : va_P D vwCl (wX q k g gl) H) (hPm : va_P D vwCl (wM q2 k2 g2 gl2) H) (hKx : va_K D vwCl (tyX k) s) (hKm : va_K D vwCl (tyM k2) s) (hD : va_D (fun a : Nat => s.heap.size ≤ a) (wX q k g gl ++ wM q2 k2 g2 gl2)) (hS : va_S (fun a : Nat => s.heap.size ≤ a) s.heap H locs) (hl : lv_has ls 4 [(3, .int 0), (2, .ref (q2 0)), (1, .ref (q 0)), (0, .ref b)])
    (fin : ∀ (H : Heap) (locs : List Loc) (ls : Array Slot), va_S (fun a : Nat => s.heap.size ≤ a) s.heap H locs → lv_has ls 4 [(3, .int 0), (0, .ref b)] → W p l e room_1 s m #[Value.ref b] below meth c H locs 158 353581 Q0 (F0 m 1494 ls [])) : W p l e room_1 s m #[Value.ref b] below meth c H locs 158 353581 Q0 (F0 m 1088 ls []) := by
  have hbA : ¬ (fun a : Nat => s.heap.size ≤ a) b := Nat.not_le.mpr hbl
  refine lv_aload_n hx hb dL_law_1088 rfl (lv_at hl 2 rfl) ?_
  refine lv_aload_n hx hb dL_law_1089 rfl (lv_at hl 3 rfl) ?_
  refine lv_iload_n hx hb dL_law_1090 rfl (lv_at hl 0 rfl) ?_
  refine lv_iconst (v := 1) hx hb dL_law_1091 (by decide) ?_
  refine lv_iadd hx hb dL_law_1092 ?_
  refine z_i (v := 1) (by decide) ?_
  refine va_sld hx hb hX hbl hbA hS (z_in (by decide)) dL_law_1093 ?_
  refine z_i (v := xs 1) (by rfl) ?_
  refine rd_V (As := [.int (xs 1)]) (rest := []) (d := 2) caV_SignalTableLaw_139 hx hb hml hown hts hPx hKx (rX_X11_loss (xs 1)) (ci := 11) (q0 := 0) rfl rfl (by decide) rfl hl.1 (Nat.le_of_ble_eq_true rfl) (by decide) dL_law_1094 rfl ?_
  refine lv_aload_n hx hb dL_law_1097 rfl (lv_at hl 1 rfl) ?_
  refine lv_aload_n hx hb dL_law_1098 rfl (lv_at hl 3 rfl) ?_
  refine lv_iload_n hx hb dL_law_1099 rfl (lv_at hl 0 rfl) ?_
  refine lv_iconst (v := 1) hx hb dL_law_1100 (by decide) ?_
  refine lv_iadd hx hb dL_law_1101 ?_
  refine z_i (v := 1) (by decide) ?_
  refine va_sld hx hb hX hbl hbA hS (z_in (by decide)) dL_law_1102 ?_
  refine z_i (v := xs 1) (by rfl) ?_
  refine rd_V (As := [.int (xs 1)]) (rest := [.int (-1)]) (d := 2) caV_SignalTableLaw_142 hx hb hml hown hts hPm hKm (rM_X12_loss (xs 1)) (ci := 12) (q0 := 0) rfl rfl (by decide) rfl hl.1 (Nat.le_of_ble_eq_true rfl) (by decide) dL_law_1103 rfl ?_
  refine lv_icmp_eq (tgt := 1494) hx hb dL_law_1106 (by decide) (fun _ => ?_) (fun h => absurd rfl h)
  exact fin _ _ _ hS (lv_sub hl [0, 3] rfl)
set_option maxHeartbeats 4000000 in
set_option maxRecDepth 100000 in
theorem lc_30 {p : Program} {l : Launch} {e : Env} {s : State} {m : MethodId} {below : List Frame} {meth : Method} {c : Code} {D : va_G} {b : Nat} {xs : Nat → Int32} {H : Heap} {locs : List Loc} {ls : Array Slot} {Q0 : State → Prop} {q : Nat → Nat} {k : Nat → ClassId} {g : Nat → Nat → Int32} {gl : Nat → Nat → Int64} {q2 : Nat → Nat} {k2 : Nat → ClassId} {g2 : Nat → Nat → Int32} {gl2 : Nat → Nat → Int64} (hx : p.tables.exec = Jvm.exec) (hb : c.code = code) (hml : c.maxLocals = 4) (hown : s.vm.findClass "SignalTableLaw" = some m.cls) (hts : ∀ w ∈ lwg, w.before #[Value.ref b] s = true) (hX : va_X b 6 xs s s.heap) (hbl : b < s.heap.size) (hPx : va_P D vwCl (wX q k g gl) H) (hPm : va_P D vwCl (wM q2 k2 g2 gl2) H) (hKx : va_K D vwCl (tyX k) s) (hKm : va_K D vwCl (tyM k2) s) (hD : va_D (fun a : Nat => s.heap.size ≤ a) (wX q k g gl ++ wM q2 k2 g2 gl2)) (hS : va_S (fun a : Nat => s.heap.size ≤ a) s.heap H locs) (hl : lv_has ls 4 [(3, .int 0), (2, .ref (q2 0)), (1, .ref (q 0)), (0, .ref b)])
    (fin : ∀ (H : Heap) (locs : List Loc) (ls : Array Slot), va_S (fun a : Nat => s.heap.size ≤ a) s.heap H locs → lv_has ls 4 [(3, .int 0), (0, .ref b)] → W p l e room_1 s m #[Value.ref b] below meth c H locs 158 353581 Q0 (F0 m 1494 ls [])) : W p l e room_1 s m #[Value.ref b] below meth c H locs 158 353581 Q0 (F0 m 1111 ls []) := by
  have hbA : ¬ (fun a : Nat => s.heap.size ≤ a) b := Nat.not_le.mpr hbl
  refine lv_aload_n hx hb dL_law_1111 rfl (lv_at hl 2 rfl) ?_
  refine lv_aload_n hx hb dL_law_1112 rfl (lv_at hl 3 rfl) ?_
  refine lv_iload_n hx hb dL_law_1113 rfl (lv_at hl 0 rfl) ?_
  refine lv_iconst (v := 1) hx hb dL_law_1114 (by decide) ?_
  refine lv_iadd hx hb dL_law_1115 ?_
  refine z_i (v := 1) (by decide) ?_
  refine va_sld hx hb hX hbl hbA hS (z_in (by decide)) dL_law_1116 ?_
  refine z_i (v := xs 1) (by rfl) ?_
  refine rd_V (As := [.int (xs 1)]) (rest := []) (d := 2) caV_SignalTableLaw_143 hx hb hml hown hts hPx hKx (rX_X11_differs (xs 1)) (ci := 11) (q0 := 0) rfl rfl (by decide) rfl hl.1 (Nat.le_of_ble_eq_true rfl) (by decide) dL_law_1117 rfl ?_
  refine lv_aload_n hx hb dL_law_1120 rfl (lv_at hl 1 rfl) ?_
  refine lv_aload_n hx hb dL_law_1121 rfl (lv_at hl 3 rfl) ?_
  refine lv_iload_n hx hb dL_law_1122 rfl (lv_at hl 0 rfl) ?_
  refine lv_iconst (v := 1) hx hb dL_law_1123 (by decide) ?_
  refine lv_iadd hx hb dL_law_1124 ?_
  refine z_i (v := 1) (by decide) ?_
  refine va_sld hx hb hX hbl hbA hS (z_in (by decide)) dL_law_1125 ?_
  refine z_i (v := xs 1) (by rfl) ?_
  refine rd_V (As := [.int (xs 1)]) (rest := [.int (-1)]) (d := 2) caV_SignalTableLaw_146 hx hb hml hown hts hPm hKm (rM_X12_differs (xs 1)) (ci := 12) (q0 := 0) rfl rfl (by decide) rfl hl.1 (Nat.le_of_ble_eq_true rfl) (by decide) dL_law_1126 rfl ?_
  refine lv_icmp_eq (tgt := 1494) hx hb dL_law_1129 (by decide) (fun _ => ?_) (fun h => absurd rfl h)
  exact fin _ _ _ hS (lv_sub hl [0, 3] rfl)
set_option maxHeartbeats 4000000 in
set_option maxRecDepth 100000 in
theorem lc_31 {p : Program} {l : Launch} {e : Env} {s : State} {m : MethodId} {below : List Frame} {meth : Method} {c : Code} {D : va_G} {b : Nat} {xs : Nat → Int32} {H : Heap} {locs : List Loc} {ls : Array Slot} {Q0 : State → Prop} {q : Nat → Nat} {k : Nat → ClassId} {g : Nat → Nat → Int32} {gl : Nat → Nat → Int64} {q2 : Nat → Nat} {k2 : Nat → ClassId} {g2 : Nat → Nat → Int32} {gl2 : Nat → Nat → Int64} (hx : p.tables.exec = Jvm.exec) (hb : c.code = code) (hml : c.maxLocals = 4) (hown : s.vm.findClass "SignalTableLaw" = some m.cls) (hts : ∀ w ∈ lwg, w.before #[Value.ref b] s = true) (hX : va_X b 6 xs s s.heap) (hbl : b < s.heap.size) (hPx : va_P D vwCl (wX q k g gl) H) (hPm : va_P D vwCl (wM q2 k2 g2 gl2) H) (hKx : va_K D vwCl (tyX k) s) (hKm : va_K D vwCl (tyM k2) s) (hD : va_D (fun a : Nat => s.heap.size ≤ a) (wX q k g gl ++ wM q2 k2 g2 gl2)) (hS : va_S (fun a : Nat => s.heap.size ≤ a) s.heap H locs) (hl : lv_has ls 4 [(3, .int 0), (2, .ref (q2 0)), (1, .ref (q 0)), (0, .ref b)])
    (fin : ∀ (H : Heap) (locs : List Loc) (ls : Array Slot), va_S (fun a : Nat => s.heap.size ≤ a) s.heap H locs → lv_has ls 4 [(3, .int 0), (0, .ref b)] → W p l e room_1 s m #[Value.ref b] below meth c H locs 158 353581 Q0 (F0 m 1494 ls [])) : W p l e room_1 s m #[Value.ref b] below meth c H locs 158 353581 Q0 (F0 m 1134 ls []) := by
  have hbA : ¬ (fun a : Nat => s.heap.size ≤ a) b := Nat.not_le.mpr hbl
  refine lv_aload_n hx hb dL_law_1134 rfl (lv_at hl 2 rfl) ?_
  refine lv_aload_n hx hb dL_law_1135 rfl (lv_at hl 3 rfl) ?_
  refine lv_iload_n hx hb dL_law_1136 rfl (lv_at hl 0 rfl) ?_
  refine lv_iconst (v := 1) hx hb dL_law_1137 (by decide) ?_
  refine lv_iadd hx hb dL_law_1138 ?_
  refine z_i (v := 1) (by decide) ?_
  refine va_sld hx hb hX hbl hbA hS (z_in (by decide)) dL_law_1139 ?_
  refine z_i (v := xs 1) (by rfl) ?_
  refine rd_V (As := [.int (xs 1)]) (rest := []) (d := 0) caV_SignalTableLaw_147 hx hb hml hown hts hPx hKx (rX_X11_lies (xs 1)) (ci := 11) (q0 := 0) rfl rfl (by decide) rfl hl.1 (Nat.le_of_ble_eq_true rfl) (by decide) dL_law_1140 rfl ?_
  refine lv_aload_n hx hb dL_law_1143 rfl (lv_at hl 1 rfl) ?_
  refine lv_aload_n hx hb dL_law_1144 rfl (lv_at hl 3 rfl) ?_
  refine lv_iload_n hx hb dL_law_1145 rfl (lv_at hl 0 rfl) ?_
  refine lv_iconst (v := 1) hx hb dL_law_1146 (by decide) ?_
  refine lv_iadd hx hb dL_law_1147 ?_
  refine z_i (v := 1) (by decide) ?_
  refine va_sld hx hb hX hbl hbA hS (z_in (by decide)) dL_law_1148 ?_
  refine z_i (v := xs 1) (by rfl) ?_
  refine rd_V (As := [.int (xs 1)]) (rest := [.int (-1)]) (d := 1) caV_SignalTableLaw_150 hx hb hml hown hts hPm hKm (rM_X12_lies (xs 1)) (ci := 12) (q0 := 0) rfl rfl (by decide) rfl hl.1 (Nat.le_of_ble_eq_true rfl) (by decide) dL_law_1149 rfl ?_
  refine lv_icmp_eq (tgt := 1494) hx hb dL_law_1152 (by decide) (fun _ => ?_) (fun h => absurd rfl h)
  exact fin _ _ _ hS (lv_sub hl [0, 3] rfl)
set_option maxHeartbeats 4000000 in
set_option maxRecDepth 100000 in
theorem lc_32 {p : Program} {l : Launch} {e : Env} {s : State} {m : MethodId} {below : List Frame} {meth : Method} {c : Code} {D : va_G} {b : Nat} {xs : Nat → Int32} {H : Heap} {locs : List Loc} {ls : Array Slot} {Q0 : State → Prop} {q : Nat → Nat} {k : Nat → ClassId} {g : Nat → Nat → Int32} {gl : Nat → Nat → Int64} {q2 : Nat → Nat} {k2 : Nat → ClassId} {g2 : Nat → Nat → Int32} {gl2 : Nat → Nat → Int64} (hx : p.tables.exec = Jvm.exec) (hb : c.code = code) (hml : c.maxLocals = 4) (hown : s.vm.findClass "SignalTableLaw" = some m.cls) (hts : ∀ w ∈ lwg, w.before #[Value.ref b] s = true) (hX : va_X b 6 xs s s.heap) (hbl : b < s.heap.size) (hPx : va_P D vwCl (wX q k g gl) H) (hPm : va_P D vwCl (wM q2 k2 g2 gl2) H) (hKx : va_K D vwCl (tyX k) s) (hKm : va_K D vwCl (tyM k2) s) (hD : va_D (fun a : Nat => s.heap.size ≤ a) (wX q k g gl ++ wM q2 k2 g2 gl2)) (hS : va_S (fun a : Nat => s.heap.size ≤ a) s.heap H locs) (hl : lv_has ls 4 [(3, .int 0), (2, .ref (q2 0)), (1, .ref (q 0)), (0, .ref b)])
    (fin : ∀ (H : Heap) (locs : List Loc) (ls : Array Slot), va_S (fun a : Nat => s.heap.size ≤ a) s.heap H locs → lv_has ls 4 [(3, .int 0), (0, .ref b)] → W p l e room_1 s m #[Value.ref b] below meth c H locs 158 353581 Q0 (F0 m 1494 ls [])) : W p l e room_1 s m #[Value.ref b] below meth c H locs 158 353581 Q0 (F0 m 1157 ls []) := by
  have hbA : ¬ (fun a : Nat => s.heap.size ≤ a) b := Nat.not_le.mpr hbl
  refine lv_aload_n hx hb dL_law_1157 rfl (lv_at hl 2 rfl) ?_
  refine lv_aload_n hx hb dL_law_1158 rfl (lv_at hl 3 rfl) ?_
  refine lv_iload_n hx hb dL_law_1159 rfl (lv_at hl 0 rfl) ?_
  refine lv_iconst (v := 1) hx hb dL_law_1160 (by decide) ?_
  refine lv_iadd hx hb dL_law_1161 ?_
  refine z_i (v := 1) (by decide) ?_
  refine va_sld hx hb hX hbl hbA hS (z_in (by decide)) dL_law_1162 ?_
  refine z_i (v := xs 1) (by rfl) ?_
  refine rd_V (As := [.int (xs 1)]) (rest := []) (d := 2) caV_SignalTableLaw_151 hx hb hml hown hts hPx hKx (rX_X11_worth (xs 1)) (ci := 11) (q0 := 0) rfl rfl (by decide) rfl hl.1 (Nat.le_of_ble_eq_true rfl) (by decide) dL_law_1163 rfl ?_
  refine lv_aload_n hx hb dL_law_1166 rfl (lv_at hl 1 rfl) ?_
  refine lv_aload_n hx hb dL_law_1167 rfl (lv_at hl 3 rfl) ?_
  refine lv_iload_n hx hb dL_law_1168 rfl (lv_at hl 0 rfl) ?_
  refine lv_iconst (v := 1) hx hb dL_law_1169 (by decide) ?_
  refine lv_iadd hx hb dL_law_1170 ?_
  refine z_i (v := 1) (by decide) ?_
  refine va_sld hx hb hX hbl hbA hS (z_in (by decide)) dL_law_1171 ?_
  refine z_i (v := xs 1) (by rfl) ?_
  refine rd_V (As := [.int (xs 1)]) (rest := [.long (-1000000)]) (d := 2) caV_SignalTableLaw_155 hx hb hml hown hts hPm hKm (rM_X12_worth (xs 1)) (ci := 12) (q0 := 0) rfl rfl (by decide) rfl hl.1 (Nat.le_of_ble_eq_true rfl) (by decide) dL_law_1172 rfl ?_
  refine W.lcmp hx hb dL_law_1175 ?_
  refine z_i (v := 0) (by decide) ?_
  refine lv_if_eq (tgt := 1494) hx hb dL_law_1176 (by decide) (fun _ => ?_) (fun h => absurd (by decide) h)
  exact fin _ _ _ hS (lv_sub hl [0, 3] rfl)
set_option maxHeartbeats 4000000 in
set_option maxRecDepth 100000 in
theorem lc_33 {p : Program} {l : Launch} {e : Env} {s : State} {m : MethodId} {below : List Frame} {meth : Method} {c : Code} {D : va_G} {b : Nat} {xs : Nat → Int32} {H : Heap} {locs : List Loc} {ls : Array Slot} {Q0 : State → Prop} {q : Nat → Nat} {k : Nat → ClassId} {g : Nat → Nat → Int32} {gl : Nat → Nat → Int64} {q2 : Nat → Nat} {k2 : Nat → ClassId} {g2 : Nat → Nat → Int32} {gl2 : Nat → Nat → Int64} (hx : p.tables.exec = Jvm.exec) (hb : c.code = code) (hml : c.maxLocals = 4) (hown : s.vm.findClass "SignalTableLaw" = some m.cls) (hts : ∀ w ∈ lwg, w.before #[Value.ref b] s = true) (hX : va_X b 6 xs s s.heap) (hbl : b < s.heap.size) (hPx : va_P D vwCl (wX q k g gl) H) (hPm : va_P D vwCl (wM q2 k2 g2 gl2) H) (hKx : va_K D vwCl (tyX k) s) (hKm : va_K D vwCl (tyM k2) s) (hD : va_D (fun a : Nat => s.heap.size ≤ a) (wX q k g gl ++ wM q2 k2 g2 gl2)) (hS : va_S (fun a : Nat => s.heap.size ≤ a) s.heap H locs) (hl : lv_has ls 4 [(3, .int 0), (2, .ref (q2 0)), (1, .ref (q 0)), (0, .ref b)])
    (fin : ∀ (H : Heap) (locs : List Loc) (ls : Array Slot), va_S (fun a : Nat => s.heap.size ≤ a) s.heap H locs → lv_has ls 4 [(3, .int 0), (0, .ref b)] → W p l e room_1 s m #[Value.ref b] below meth c H locs 158 353581 Q0 (F0 m 1494 ls [])) : W p l e room_1 s m #[Value.ref b] below meth c H locs 158 353581 Q0 (F0 m 1181 ls []) := by
  have hbA : ¬ (fun a : Nat => s.heap.size ≤ a) b := Nat.not_le.mpr hbl
  refine lv_aload_n hx hb dL_law_1181 rfl (lv_at hl 2 rfl) ?_
  refine lv_aload_n hx hb dL_law_1182 rfl (lv_at hl 3 rfl) ?_
  refine lv_iload_n hx hb dL_law_1183 rfl (lv_at hl 0 rfl) ?_
  refine lv_iconst (v := 1) hx hb dL_law_1184 (by decide) ?_
  refine lv_iadd hx hb dL_law_1185 ?_
  refine z_i (v := 1) (by decide) ?_
  refine va_sld hx hb hX hbl hbA hS (z_in (by decide)) dL_law_1186 ?_
  refine z_i (v := xs 1) (by rfl) ?_
  refine lv_aload_n hx hb dL_law_1187 rfl (lv_at hl 3 rfl) ?_
  refine lv_iload_n hx hb dL_law_1188 rfl (lv_at hl 0 rfl) ?_
  refine lv_iconst (v := 2) hx hb dL_law_1189 (by decide) ?_
  refine lv_iadd hx hb dL_law_1190 ?_
  refine z_i (v := 2) (by decide) ?_
  refine va_sld hx hb hX hbl hbA hS (z_in (by decide)) dL_law_1191 ?_
  refine z_i (v := xs 2) (by rfl) ?_
  refine lv_aload_n hx hb dL_law_1192 rfl (lv_at hl 3 rfl) ?_
  refine lv_iload_n hx hb dL_law_1193 rfl (lv_at hl 0 rfl) ?_
  refine lv_iconst (v := 3) hx hb dL_law_1194 (by decide) ?_
  refine lv_iadd hx hb dL_law_1195 ?_
  refine z_i (v := 3) (by decide) ?_
  refine va_sld hx hb hX hbl hbA hS (z_in (by decide)) dL_law_1196 ?_
  refine z_i (v := xs 3) (by rfl) ?_
  refine rd_V (As := [.int (xs 1), .int (xs 2), .int (xs 3)]) (rest := []) (d := 1) caV_SignalTableLaw_156 hx hb hml hown hts hPx hKx (rX_X11_gain (xs 1) (xs 2) (xs 3)) (ci := 11) (q0 := 0) rfl rfl (by decide) rfl hl.1 (Nat.le_of_ble_eq_true rfl) (by decide) dL_law_1197 rfl ?_
  refine lv_aload_n hx hb dL_law_1200 rfl (lv_at hl 1 rfl) ?_
  refine lv_aload_n hx hb dL_law_1201 rfl (lv_at hl 3 rfl) ?_
  refine lv_iload_n hx hb dL_law_1202 rfl (lv_at hl 0 rfl) ?_
  refine lv_iconst (v := 1) hx hb dL_law_1203 (by decide) ?_
  refine lv_iadd hx hb dL_law_1204 ?_
  refine z_i (v := 1) (by decide) ?_
  refine va_sld hx hb hX hbl hbA hS (z_in (by decide)) dL_law_1205 ?_
  refine z_i (v := xs 1) (by rfl) ?_
  refine lv_aload_n hx hb dL_law_1206 rfl (lv_at hl 3 rfl) ?_
  refine lv_iload_n hx hb dL_law_1207 rfl (lv_at hl 0 rfl) ?_
  refine lv_iconst (v := 2) hx hb dL_law_1208 (by decide) ?_
  refine lv_iadd hx hb dL_law_1209 ?_
  refine z_i (v := 2) (by decide) ?_
  refine va_sld hx hb hX hbl hbA hS (z_in (by decide)) dL_law_1210 ?_
  refine z_i (v := xs 2) (by rfl) ?_
  refine lv_aload_n hx hb dL_law_1211 rfl (lv_at hl 3 rfl) ?_
  refine lv_iload_n hx hb dL_law_1212 rfl (lv_at hl 0 rfl) ?_
  refine lv_iconst (v := 3) hx hb dL_law_1213 (by decide) ?_
  refine lv_iadd hx hb dL_law_1214 ?_
  refine z_i (v := 3) (by decide) ?_
  refine va_sld hx hb hX hbl hbA hS (z_in (by decide)) dL_law_1215 ?_
  refine z_i (v := xs 3) (by rfl) ?_
  refine rd_V (As := [.int (xs 1), .int (xs 2), .int (xs 3)]) (rest := [.int (-1000)]) (d := 2) caV_SignalTableLaw_159 hx hb hml hown hts hPm hKm (rM_X12_gain (xs 1) (xs 2) (xs 3)) (ci := 12) (q0 := 0) rfl rfl (by decide) rfl hl.1 (Nat.le_of_ble_eq_true rfl) (by decide) dL_law_1216 rfl ?_
  refine lv_icmp_eq (tgt := 1494) hx hb dL_law_1219 (by decide) (fun _ => ?_) (fun h => absurd rfl h)
  exact fin _ _ _ hS (lv_sub hl [0, 3] rfl)
set_option maxHeartbeats 4000000 in
set_option maxRecDepth 100000 in
theorem lc_34 {p : Program} {l : Launch} {e : Env} {s : State} {m : MethodId} {below : List Frame} {meth : Method} {c : Code} {D : va_G} {b : Nat} {xs : Nat → Int32} {H : Heap} {locs : List Loc} {ls : Array Slot} {Q0 : State → Prop} {q : Nat → Nat} {k : Nat → ClassId} {g : Nat → Nat → Int32} {gl : Nat → Nat → Int64} {q2 : Nat → Nat} {k2 : Nat → ClassId} {g2 : Nat → Nat → Int32} {gl2 : Nat → Nat → Int64} (hx : p.tables.exec = Jvm.exec) (hb : c.code = code) (hml : c.maxLocals = 4) (hown : s.vm.findClass "SignalTableLaw" = some m.cls) (hts : ∀ w ∈ lwg, w.before #[Value.ref b] s = true) (hX : va_X b 6 xs s s.heap) (hbl : b < s.heap.size) (hPx : va_P D vwCl (wX q k g gl) H) (hPm : va_P D vwCl (wM q2 k2 g2 gl2) H) (hKx : va_K D vwCl (tyX k) s) (hKm : va_K D vwCl (tyM k2) s) (hD : va_D (fun a : Nat => s.heap.size ≤ a) (wX q k g gl ++ wM q2 k2 g2 gl2)) (hS : va_S (fun a : Nat => s.heap.size ≤ a) s.heap H locs) (hl : lv_has ls 4 [(3, .int 0), (2, .ref (q2 0)), (1, .ref (q 0)), (0, .ref b)])
    (fin : ∀ (H : Heap) (locs : List Loc) (ls : Array Slot), va_S (fun a : Nat => s.heap.size ≤ a) s.heap H locs → lv_has ls 4 [(3, .int 0), (0, .ref b)] → W p l e room_1 s m #[Value.ref b] below meth c H locs 158 353581 Q0 (F0 m 1494 ls [])) : W p l e room_1 s m #[Value.ref b] below meth c H locs 158 353581 Q0 (F0 m 1224 ls []) := by
  have hbA : ¬ (fun a : Nat => s.heap.size ≤ a) b := Nat.not_le.mpr hbl
  refine lv_aload_n hx hb dL_law_1224 rfl (lv_at hl 2 rfl) ?_
  refine lv_aload_n hx hb dL_law_1225 rfl (lv_at hl 3 rfl) ?_
  refine lv_iload_n hx hb dL_law_1226 rfl (lv_at hl 0 rfl) ?_
  refine lv_iconst (v := 1) hx hb dL_law_1227 (by decide) ?_
  refine lv_iadd hx hb dL_law_1228 ?_
  refine z_i (v := 1) (by decide) ?_
  refine va_sld hx hb hX hbl hbA hS (z_in (by decide)) dL_law_1229 ?_
  refine z_i (v := xs 1) (by rfl) ?_
  refine lv_aload_n hx hb dL_law_1230 rfl (lv_at hl 3 rfl) ?_
  refine lv_iload_n hx hb dL_law_1231 rfl (lv_at hl 0 rfl) ?_
  refine lv_iconst (v := 2) hx hb dL_law_1232 (by decide) ?_
  refine lv_iadd hx hb dL_law_1233 ?_
  refine z_i (v := 2) (by decide) ?_
  refine va_sld hx hb hX hbl hbA hS (z_in (by decide)) dL_law_1234 ?_
  refine z_i (v := xs 2) (by rfl) ?_
  refine lv_aload_n hx hb dL_law_1235 rfl (lv_at hl 3 rfl) ?_
  refine lv_iload_n hx hb dL_law_1236 rfl (lv_at hl 0 rfl) ?_
  refine lv_iconst (v := 3) hx hb dL_law_1237 (by decide) ?_
  refine lv_iadd hx hb dL_law_1238 ?_
  refine z_i (v := 3) (by decide) ?_
  refine va_sld hx hb hX hbl hbA hS (z_in (by decide)) dL_law_1239 ?_
  refine z_i (v := xs 3) (by rfl) ?_
  refine rd_V (As := [.int (xs 1), .int (xs 2), .int (xs 3)]) (rest := []) (d := 1) caV_SignalTableLaw_160 hx hb hml hown hts hPx hKx (rX_X11_bestSet (xs 1) (xs 2) (xs 3)) (ci := 11) (q0 := 0) rfl rfl (by decide) rfl hl.1 (Nat.le_of_ble_eq_true rfl) (by decide) dL_law_1240 rfl ?_
  refine lv_aload_n hx hb dL_law_1243 rfl (lv_at hl 1 rfl) ?_
  refine lv_aload_n hx hb dL_law_1244 rfl (lv_at hl 3 rfl) ?_
  refine lv_iload_n hx hb dL_law_1245 rfl (lv_at hl 0 rfl) ?_
  refine lv_iconst (v := 1) hx hb dL_law_1246 (by decide) ?_
  refine lv_iadd hx hb dL_law_1247 ?_
  refine z_i (v := 1) (by decide) ?_
  refine va_sld hx hb hX hbl hbA hS (z_in (by decide)) dL_law_1248 ?_
  refine z_i (v := xs 1) (by rfl) ?_
  refine lv_aload_n hx hb dL_law_1249 rfl (lv_at hl 3 rfl) ?_
  refine lv_iload_n hx hb dL_law_1250 rfl (lv_at hl 0 rfl) ?_
  refine lv_iconst (v := 2) hx hb dL_law_1251 (by decide) ?_
  refine lv_iadd hx hb dL_law_1252 ?_
  refine z_i (v := 2) (by decide) ?_
  refine va_sld hx hb hX hbl hbA hS (z_in (by decide)) dL_law_1253 ?_
  refine z_i (v := xs 2) (by rfl) ?_
  refine lv_aload_n hx hb dL_law_1254 rfl (lv_at hl 3 rfl) ?_
  refine lv_iload_n hx hb dL_law_1255 rfl (lv_at hl 0 rfl) ?_
  refine lv_iconst (v := 3) hx hb dL_law_1256 (by decide) ?_
  refine lv_iadd hx hb dL_law_1257 ?_
  refine z_i (v := 3) (by decide) ?_
  refine va_sld hx hb hX hbl hbA hS (z_in (by decide)) dL_law_1258 ?_
  refine z_i (v := xs 3) (by rfl) ?_
  refine rd_V (As := [.int (xs 1), .int (xs 2), .int (xs 3)]) (rest := [.int (-1000)]) (d := 2) caV_SignalTableLaw_163 hx hb hml hown hts hPm hKm (rM_X12_bestSet (xs 1) (xs 2) (xs 3)) (ci := 12) (q0 := 0) rfl rfl (by decide) rfl hl.1 (Nat.le_of_ble_eq_true rfl) (by decide) dL_law_1259 rfl ?_
  refine lv_icmp_eq (tgt := 1494) hx hb dL_law_1262 (by decide) (fun _ => ?_) (fun h => absurd rfl h)
  exact fin _ _ _ hS (lv_sub hl [0, 3] rfl)
set_option maxHeartbeats 4000000 in
set_option maxRecDepth 100000 in
theorem lc_35 {p : Program} {l : Launch} {e : Env} {s : State} {m : MethodId} {below : List Frame} {meth : Method} {c : Code} {D : va_G} {b : Nat} {xs : Nat → Int32} {H : Heap} {locs : List Loc} {ls : Array Slot} {Q0 : State → Prop} {q : Nat → Nat} {k : Nat → ClassId} {g : Nat → Nat → Int32} {gl : Nat → Nat → Int64} {q2 : Nat → Nat} {k2 : Nat → ClassId} {g2 : Nat → Nat → Int32} {gl2 : Nat → Nat → Int64} (hx : p.tables.exec = Jvm.exec) (hb : c.code = code) (hml : c.maxLocals = 4) (hown : s.vm.findClass "SignalTableLaw" = some m.cls) (hts : ∀ w ∈ lwg, w.before #[Value.ref b] s = true) (hX : va_X b 6 xs s s.heap) (hbl : b < s.heap.size) (hPx : va_P D vwCl (wX q k g gl) H) (hPm : va_P D vwCl (wM q2 k2 g2 gl2) H) (hKx : va_K D vwCl (tyX k) s) (hKm : va_K D vwCl (tyM k2) s) (hD : va_D (fun a : Nat => s.heap.size ≤ a) (wX q k g gl ++ wM q2 k2 g2 gl2)) (hS : va_S (fun a : Nat => s.heap.size ≤ a) s.heap H locs) (hl : lv_has ls 4 [(3, .int 0), (2, .ref (q2 0)), (1, .ref (q 0)), (0, .ref b)])
    (fin : ∀ (H : Heap) (locs : List Loc) (ls : Array Slot), va_S (fun a : Nat => s.heap.size ≤ a) s.heap H locs → lv_has ls 4 [(3, .int 0), (0, .ref b)] → W p l e room_1 s m #[Value.ref b] below meth c H locs 158 353581 Q0 (F0 m 1494 ls [])) : W p l e room_1 s m #[Value.ref b] below meth c H locs 158 353581 Q0 (F0 m 1267 ls []) := by
  have hbA : ¬ (fun a : Nat => s.heap.size ≤ a) b := Nat.not_le.mpr hbl
  refine lv_aload_n hx hb dL_law_1267 rfl (lv_at hl 2 rfl) ?_
  refine rd_V (As := []) (rest := []) (d := 1) caV_SignalTableLaw_164 hx hb hml hown hts hPx hKx (rX_X11_book) (ci := 11) (q0 := 0) rfl rfl (by decide) rfl hl.1 (Nat.le_of_ble_eq_true rfl) (by decide) dL_law_1268 rfl ?_
  refine lv_aload_n hx hb dL_law_1271 rfl (lv_at hl 1 rfl) ?_
  refine rd_V (As := []) (rest := [.int (-1)]) (d := 0) caV_SignalTableLaw_167 hx hb hml hown hts hPm hKm (rM_X12_book) (ci := 12) (q0 := 0) rfl rfl (by decide) rfl hl.1 (Nat.le_of_ble_eq_true rfl) (by decide) dL_law_1272 rfl ?_
  refine lv_icmp_eq (tgt := 1494) hx hb dL_law_1275 (by decide) (fun _ => ?_) (fun h => absurd rfl h)
  exact fin _ _ _ hS (lv_sub hl [0, 3] rfl)
set_option maxHeartbeats 4000000 in
set_option maxRecDepth 100000 in
theorem lc_36 {p : Program} {l : Launch} {e : Env} {s : State} {m : MethodId} {below : List Frame} {meth : Method} {c : Code} {D : va_G} {b : Nat} {xs : Nat → Int32} {H : Heap} {locs : List Loc} {ls : Array Slot} {Q0 : State → Prop} {q : Nat → Nat} {k : Nat → ClassId} {g : Nat → Nat → Int32} {gl : Nat → Nat → Int64} {q2 : Nat → Nat} {k2 : Nat → ClassId} {g2 : Nat → Nat → Int32} {gl2 : Nat → Nat → Int64} (hx : p.tables.exec = Jvm.exec) (hb : c.code = code) (hml : c.maxLocals = 4) (hown : s.vm.findClass "SignalTableLaw" = some m.cls) (hts : ∀ w ∈ lwg, w.before #[Value.ref b] s = true) (hX : va_X b 6 xs s s.heap) (hbl : b < s.heap.size) (hPx : va_P D vwCl (wX q k g gl) H) (hPm : va_P D vwCl (wM q2 k2 g2 gl2) H) (hKx : va_K D vwCl (tyX k) s) (hKm : va_K D vwCl (tyM k2) s) (hD : va_D (fun a : Nat => s.heap.size ≤ a) (wX q k g gl ++ wM q2 k2 g2 gl2)) (hS : va_S (fun a : Nat => s.heap.size ≤ a) s.heap H locs) (hl : lv_has ls 4 [(3, .int 0), (2, .ref (q2 0)), (1, .ref (q 0)), (0, .ref b)])
    (fin : ∀ (H : Heap) (locs : List Loc) (ls : Array Slot), va_S (fun a : Nat => s.heap.size ≤ a) s.heap H locs → lv_has ls 4 [(3, .int 0), (0, .ref b)] → W p l e room_1 s m #[Value.ref b] below meth c H locs 158 353581 Q0 (F0 m 1494 ls [])) : W p l e room_1 s m #[Value.ref b] below meth c H locs 158 353581 Q0 (F0 m 1280 ls []) := by
  have hbA : ¬ (fun a : Nat => s.heap.size ≤ a) b := Nat.not_le.mpr hbl
  refine lv_aload_n hx hb dL_law_1280 rfl (lv_at hl 2 rfl) ?_
  refine lv_aload_n hx hb dL_law_1281 rfl (lv_at hl 3 rfl) ?_
  refine lv_iload_n hx hb dL_law_1282 rfl (lv_at hl 0 rfl) ?_
  refine lv_iconst (v := 1) hx hb dL_law_1283 (by decide) ?_
  refine lv_iadd hx hb dL_law_1284 ?_
  refine z_i (v := 1) (by decide) ?_
  refine va_sld hx hb hX hbl hbA hS (z_in (by decide)) dL_law_1285 ?_
  refine z_i (v := xs 1) (by rfl) ?_
  refine rd_V (As := [.int (xs 1)]) (rest := []) (d := 0) caV_SignalTableLaw_168 hx hb hml hown hts hPx hKx (rX_X11_kept (xs 1)) (ci := 11) (q0 := 0) rfl rfl (by decide) rfl hl.1 (Nat.le_of_ble_eq_true rfl) (by decide) dL_law_1286 rfl ?_
  refine lv_aload_n hx hb dL_law_1289 rfl (lv_at hl 1 rfl) ?_
  refine lv_aload_n hx hb dL_law_1290 rfl (lv_at hl 3 rfl) ?_
  refine lv_iload_n hx hb dL_law_1291 rfl (lv_at hl 0 rfl) ?_
  refine lv_iconst (v := 1) hx hb dL_law_1292 (by decide) ?_
  refine lv_iadd hx hb dL_law_1293 ?_
  refine z_i (v := 1) (by decide) ?_
  refine va_sld hx hb hX hbl hbA hS (z_in (by decide)) dL_law_1294 ?_
  refine z_i (v := xs 1) (by rfl) ?_
  refine rd_V (As := [.int (xs 1)]) (rest := [.int (if (xs 1) = 0 then 0 else (-1))]) (d := 1) caV_SignalTableLaw_171 hx hb hml hown hts hPm hKm (rM_X12_kept (xs 1)) (ci := 12) (q0 := 0) rfl rfl (by decide) rfl hl.1 (Nat.le_of_ble_eq_true rfl) (by decide) dL_law_1295 rfl ?_
  refine lv_icmp_eq (tgt := 1494) hx hb dL_law_1298 (by decide) (fun _ => ?_) (fun h => absurd rfl h)
  exact fin _ _ _ hS (lv_sub hl [0, 3] rfl)
set_option maxHeartbeats 4000000 in
set_option maxRecDepth 100000 in
theorem lc_37 {p : Program} {l : Launch} {e : Env} {s : State} {m : MethodId} {below : List Frame} {meth : Method} {c : Code} {D : va_G} {b : Nat} {xs : Nat → Int32} {H : Heap} {locs : List Loc} {ls : Array Slot} {Q0 : State → Prop} {q : Nat → Nat} {k : Nat → ClassId} {g : Nat → Nat → Int32} {gl : Nat → Nat → Int64} {q2 : Nat → Nat} {k2 : Nat → ClassId} {g2 : Nat → Nat → Int32} {gl2 : Nat → Nat → Int64} (hx : p.tables.exec = Jvm.exec) (hb : c.code = code) (hml : c.maxLocals = 4) (hown : s.vm.findClass "SignalTableLaw" = some m.cls) (hts : ∀ w ∈ lwg, w.before #[Value.ref b] s = true) (hX : va_X b 6 xs s s.heap) (hbl : b < s.heap.size) (hPx : va_P D vwCl (wX q k g gl) H) (hPm : va_P D vwCl (wM q2 k2 g2 gl2) H) (hKx : va_K D vwCl (tyX k) s) (hKm : va_K D vwCl (tyM k2) s) (hD : va_D (fun a : Nat => s.heap.size ≤ a) (wX q k g gl ++ wM q2 k2 g2 gl2)) (hS : va_S (fun a : Nat => s.heap.size ≤ a) s.heap H locs) (hl : lv_has ls 4 [(3, .int 0), (2, .ref (q2 0)), (1, .ref (q 0)), (0, .ref b)])
    (fin : ∀ (H : Heap) (locs : List Loc) (ls : Array Slot), va_S (fun a : Nat => s.heap.size ≤ a) s.heap H locs → lv_has ls 4 [(3, .int 0), (0, .ref b)] → W p l e room_1 s m #[Value.ref b] below meth c H locs 158 353581 Q0 (F0 m 1494 ls [])) : W p l e room_1 s m #[Value.ref b] below meth c H locs 158 353581 Q0 (F0 m 1303 ls []) := by
  have hbA : ¬ (fun a : Nat => s.heap.size ≤ a) b := Nat.not_le.mpr hbl
  refine lv_aload_n hx hb dL_law_1303 rfl (lv_at hl 2 rfl) ?_
  refine lv_aload_n hx hb dL_law_1304 rfl (lv_at hl 3 rfl) ?_
  refine lv_iload_n hx hb dL_law_1305 rfl (lv_at hl 0 rfl) ?_
  refine lv_iconst (v := 1) hx hb dL_law_1306 (by decide) ?_
  refine lv_iadd hx hb dL_law_1307 ?_
  refine z_i (v := 1) (by decide) ?_
  refine va_sld hx hb hX hbl hbA hS (z_in (by decide)) dL_law_1308 ?_
  refine z_i (v := xs 1) (by rfl) ?_
  refine lv_aload_n hx hb dL_law_1309 rfl (lv_at hl 3 rfl) ?_
  refine lv_iload_n hx hb dL_law_1310 rfl (lv_at hl 0 rfl) ?_
  refine lv_iconst (v := 2) hx hb dL_law_1311 (by decide) ?_
  refine lv_iadd hx hb dL_law_1312 ?_
  refine z_i (v := 2) (by decide) ?_
  refine va_sld hx hb hX hbl hbA hS (z_in (by decide)) dL_law_1313 ?_
  refine z_i (v := xs 2) (by rfl) ?_
  refine lv_aload_n hx hb dL_law_1314 rfl (lv_at hl 3 rfl) ?_
  refine lv_iload_n hx hb dL_law_1315 rfl (lv_at hl 0 rfl) ?_
  refine lv_iconst (v := 3) hx hb dL_law_1316 (by decide) ?_
  refine lv_iadd hx hb dL_law_1317 ?_
  refine z_i (v := 3) (by decide) ?_
  refine va_sld hx hb hX hbl hbA hS (z_in (by decide)) dL_law_1318 ?_
  refine z_i (v := xs 3) (by rfl) ?_
  refine rd_V (As := [.int (xs 1), .int (xs 2), .int (xs 3)]) (rest := []) (d := 1) caV_SignalTableLaw_172 hx hb hml hown hts hPx hKx (rX_X11_told (xs 1) (xs 2) (xs 3)) (ci := 11) (q0 := 0) rfl rfl (by decide) rfl hl.1 (Nat.le_of_ble_eq_true rfl) (by decide) dL_law_1319 rfl ?_
  refine lv_aload_n hx hb dL_law_1322 rfl (lv_at hl 1 rfl) ?_
  refine lv_aload_n hx hb dL_law_1323 rfl (lv_at hl 3 rfl) ?_
  refine lv_iload_n hx hb dL_law_1324 rfl (lv_at hl 0 rfl) ?_
  refine lv_iconst (v := 1) hx hb dL_law_1325 (by decide) ?_
  refine lv_iadd hx hb dL_law_1326 ?_
  refine z_i (v := 1) (by decide) ?_
  refine va_sld hx hb hX hbl hbA hS (z_in (by decide)) dL_law_1327 ?_
  refine z_i (v := xs 1) (by rfl) ?_
  refine lv_aload_n hx hb dL_law_1328 rfl (lv_at hl 3 rfl) ?_
  refine lv_iload_n hx hb dL_law_1329 rfl (lv_at hl 0 rfl) ?_
  refine lv_iconst (v := 2) hx hb dL_law_1330 (by decide) ?_
  refine lv_iadd hx hb dL_law_1331 ?_
  refine z_i (v := 2) (by decide) ?_
  refine va_sld hx hb hX hbl hbA hS (z_in (by decide)) dL_law_1332 ?_
  refine z_i (v := xs 2) (by rfl) ?_
  refine lv_aload_n hx hb dL_law_1333 rfl (lv_at hl 3 rfl) ?_
  refine lv_iload_n hx hb dL_law_1334 rfl (lv_at hl 0 rfl) ?_
  refine lv_iconst (v := 3) hx hb dL_law_1335 (by decide) ?_
  refine lv_iadd hx hb dL_law_1336 ?_
  refine z_i (v := 3) (by decide) ?_
  refine va_sld hx hb hX hbl hbA hS (z_in (by decide)) dL_law_1337 ?_
  refine z_i (v := xs 3) (by rfl) ?_
  refine rd_V (As := [.int (xs 1), .int (xs 2), .int (xs 3)]) (rest := [.int (-1)]) (d := 2) caV_SignalTableLaw_175 hx hb hml hown hts hPm hKm (rM_X12_told (xs 1) (xs 2) (xs 3)) (ci := 12) (q0 := 0) rfl rfl (by decide) rfl hl.1 (Nat.le_of_ble_eq_true rfl) (by decide) dL_law_1338 rfl ?_
  refine lv_icmp_eq (tgt := 1494) hx hb dL_law_1341 (by decide) (fun _ => ?_) (fun h => absurd rfl h)
  exact fin _ _ _ hS (lv_sub hl [0, 3] rfl)
set_option maxHeartbeats 4000000 in
set_option maxRecDepth 100000 in
theorem lc_38 {p : Program} {l : Launch} {e : Env} {s : State} {m : MethodId} {below : List Frame} {meth : Method} {c : Code} {D : va_G} {b : Nat} {xs : Nat → Int32} {H : Heap} {locs : List Loc} {ls : Array Slot} {Q0 : State → Prop} {q : Nat → Nat} {k : Nat → ClassId} {g : Nat → Nat → Int32} {gl : Nat → Nat → Int64} {q2 : Nat → Nat} {k2 : Nat → ClassId} {g2 : Nat → Nat → Int32} {gl2 : Nat → Nat → Int64} (hx : p.tables.exec = Jvm.exec) (hb : c.code = code) (hml : c.maxLocals = 4) (hown : s.vm.findClass "SignalTableLaw" = some m.cls) (hts : ∀ w ∈ lwg, w.before #[Value.ref b] s = true) (hX : va_X b 6 xs s s.heap) (hbl : b < s.heap.size) (hPx : va_P D vwCl (wX q k g gl) H) (hPm : va_P D vwCl (wM q2 k2 g2 gl2) H) (hKx : va_K D vwCl (tyX k) s) (hKm : va_K D vwCl (tyM k2) s) (hD : va_D (fun a : Nat => s.heap.size ≤ a) (wX q k g gl ++ wM q2 k2 g2 gl2)) (hS : va_S (fun a : Nat => s.heap.size ≤ a) s.heap H locs) (hl : lv_has ls 4 [(3, .int 0), (2, .ref (q2 0)), (1, .ref (q 0)), (0, .ref b)])
    (fin : ∀ (H : Heap) (locs : List Loc) (ls : Array Slot), va_S (fun a : Nat => s.heap.size ≤ a) s.heap H locs → lv_has ls 4 [(3, .int 0), (0, .ref b)] → W p l e room_1 s m #[Value.ref b] below meth c H locs 158 353581 Q0 (F0 m 1494 ls [])) : W p l e room_1 s m #[Value.ref b] below meth c H locs 158 353581 Q0 (F0 m 1346 ls []) := by
  have hbA : ¬ (fun a : Nat => s.heap.size ≤ a) b := Nat.not_le.mpr hbl
  refine lv_aload_n hx hb dL_law_1346 rfl (lv_at hl 2 rfl) ?_
  refine lv_aload_n hx hb dL_law_1347 rfl (lv_at hl 3 rfl) ?_
  refine lv_iload_n hx hb dL_law_1348 rfl (lv_at hl 0 rfl) ?_
  refine lv_iconst (v := 1) hx hb dL_law_1349 (by decide) ?_
  refine lv_iadd hx hb dL_law_1350 ?_
  refine z_i (v := 1) (by decide) ?_
  refine va_sld hx hb hX hbl hbA hS (z_in (by decide)) dL_law_1351 ?_
  refine z_i (v := xs 1) (by rfl) ?_
  refine lv_aload_n hx hb dL_law_1352 rfl (lv_at hl 3 rfl) ?_
  refine lv_iload_n hx hb dL_law_1353 rfl (lv_at hl 0 rfl) ?_
  refine lv_iconst (v := 2) hx hb dL_law_1354 (by decide) ?_
  refine lv_iadd hx hb dL_law_1355 ?_
  refine z_i (v := 2) (by decide) ?_
  refine va_sld hx hb hX hbl hbA hS (z_in (by decide)) dL_law_1356 ?_
  refine z_i (v := xs 2) (by rfl) ?_
  refine rd_V (As := [.int (xs 1), .int (xs 2)]) (rest := []) (d := 1) caV_SignalTableLaw_176 hx hb hml hown hts hPx hKx (rX_X11_openings (xs 1) (xs 2)) (ci := 11) (q0 := 0) rfl rfl (by decide) rfl hl.1 (Nat.le_of_ble_eq_true rfl) (by decide) dL_law_1357 rfl ?_
  refine lv_aload_n hx hb dL_law_1360 rfl (lv_at hl 1 rfl) ?_
  refine lv_aload_n hx hb dL_law_1361 rfl (lv_at hl 3 rfl) ?_
  refine lv_iload_n hx hb dL_law_1362 rfl (lv_at hl 0 rfl) ?_
  refine lv_iconst (v := 1) hx hb dL_law_1363 (by decide) ?_
  refine lv_iadd hx hb dL_law_1364 ?_
  refine z_i (v := 1) (by decide) ?_
  refine va_sld hx hb hX hbl hbA hS (z_in (by decide)) dL_law_1365 ?_
  refine z_i (v := xs 1) (by rfl) ?_
  refine lv_aload_n hx hb dL_law_1366 rfl (lv_at hl 3 rfl) ?_
  refine lv_iload_n hx hb dL_law_1367 rfl (lv_at hl 0 rfl) ?_
  refine lv_iconst (v := 2) hx hb dL_law_1368 (by decide) ?_
  refine lv_iadd hx hb dL_law_1369 ?_
  refine z_i (v := 2) (by decide) ?_
  refine va_sld hx hb hX hbl hbA hS (z_in (by decide)) dL_law_1370 ?_
  refine z_i (v := xs 2) (by rfl) ?_
  refine rd_V (As := [.int (xs 1), .int (xs 2)]) (rest := [.int (-1)]) (d := 2) caV_SignalTableLaw_179 hx hb hml hown hts hPm hKm (rM_X12_openings (xs 1) (xs 2)) (ci := 12) (q0 := 0) rfl rfl (by decide) rfl hl.1 (Nat.le_of_ble_eq_true rfl) (by decide) dL_law_1371 rfl ?_
  refine lv_icmp_eq (tgt := 1494) hx hb dL_law_1374 (by decide) (fun _ => ?_) (fun h => absurd rfl h)
  exact fin _ _ _ hS (lv_sub hl [0, 3] rfl)
set_option maxHeartbeats 4000000 in
set_option maxRecDepth 100000 in
theorem lc_39 {p : Program} {l : Launch} {e : Env} {s : State} {m : MethodId} {below : List Frame} {meth : Method} {c : Code} {D : va_G} {b : Nat} {xs : Nat → Int32} {H : Heap} {locs : List Loc} {ls : Array Slot} {Q0 : State → Prop} {q : Nat → Nat} {k : Nat → ClassId} {g : Nat → Nat → Int32} {gl : Nat → Nat → Int64} {q2 : Nat → Nat} {k2 : Nat → ClassId} {g2 : Nat → Nat → Int32} {gl2 : Nat → Nat → Int64} (hx : p.tables.exec = Jvm.exec) (hb : c.code = code) (hml : c.maxLocals = 4) (hown : s.vm.findClass "SignalTableLaw" = some m.cls) (hts : ∀ w ∈ lwg, w.before #[Value.ref b] s = true) (hX : va_X b 6 xs s s.heap) (hbl : b < s.heap.size) (hPx : va_P D vwCl (wX q k g gl) H) (hPm : va_P D vwCl (wM q2 k2 g2 gl2) H) (hKx : va_K D vwCl (tyX k) s) (hKm : va_K D vwCl (tyM k2) s) (hD : va_D (fun a : Nat => s.heap.size ≤ a) (wX q k g gl ++ wM q2 k2 g2 gl2)) (hS : va_S (fun a : Nat => s.heap.size ≤ a) s.heap H locs) (hl : lv_has ls 4 [(3, .int 0), (2, .ref (q2 0)), (1, .ref (q 0)), (0, .ref b)])
    (fin : ∀ (H : Heap) (locs : List Loc) (ls : Array Slot), va_S (fun a : Nat => s.heap.size ≤ a) s.heap H locs → lv_has ls 4 [(3, .int 0), (0, .ref b)] → W p l e room_1 s m #[Value.ref b] below meth c H locs 158 353581 Q0 (F0 m 1494 ls [])) : W p l e room_1 s m #[Value.ref b] below meth c H locs 158 353581 Q0 (F0 m 1379 ls []) := by
  have hbA : ¬ (fun a : Nat => s.heap.size ≤ a) b := Nat.not_le.mpr hbl
  refine lv_aload_n hx hb dL_law_1379 rfl (lv_at hl 2 rfl) ?_
  refine lv_aload_n hx hb dL_law_1380 rfl (lv_at hl 3 rfl) ?_
  refine lv_iload_n hx hb dL_law_1381 rfl (lv_at hl 0 rfl) ?_
  refine lv_iconst (v := 1) hx hb dL_law_1382 (by decide) ?_
  refine lv_iadd hx hb dL_law_1383 ?_
  refine z_i (v := 1) (by decide) ?_
  refine va_sld hx hb hX hbl hbA hS (z_in (by decide)) dL_law_1384 ?_
  refine z_i (v := xs 1) (by rfl) ?_
  refine lv_aload_n hx hb dL_law_1385 rfl (lv_at hl 3 rfl) ?_
  refine lv_iload_n hx hb dL_law_1386 rfl (lv_at hl 0 rfl) ?_
  refine lv_iconst (v := 2) hx hb dL_law_1387 (by decide) ?_
  refine lv_iadd hx hb dL_law_1388 ?_
  refine z_i (v := 2) (by decide) ?_
  refine va_sld hx hb hX hbl hbA hS (z_in (by decide)) dL_law_1389 ?_
  refine z_i (v := xs 2) (by rfl) ?_
  refine rd_V (As := [.int (xs 1), .int (xs 2)]) (rest := []) (d := 1) caV_SignalTableLaw_180 hx hb hml hown hts hPx hKx (rX_X11_quarrel (xs 1) (xs 2)) (ci := 11) (q0 := 0) rfl rfl (by decide) rfl hl.1 (Nat.le_of_ble_eq_true rfl) (by decide) dL_law_1390 rfl ?_
  refine lv_aload_n hx hb dL_law_1393 rfl (lv_at hl 1 rfl) ?_
  refine lv_aload_n hx hb dL_law_1394 rfl (lv_at hl 3 rfl) ?_
  refine lv_iload_n hx hb dL_law_1395 rfl (lv_at hl 0 rfl) ?_
  refine lv_iconst (v := 1) hx hb dL_law_1396 (by decide) ?_
  refine lv_iadd hx hb dL_law_1397 ?_
  refine z_i (v := 1) (by decide) ?_
  refine va_sld hx hb hX hbl hbA hS (z_in (by decide)) dL_law_1398 ?_
  refine z_i (v := xs 1) (by rfl) ?_
  refine lv_aload_n hx hb dL_law_1399 rfl (lv_at hl 3 rfl) ?_
  refine lv_iload_n hx hb dL_law_1400 rfl (lv_at hl 0 rfl) ?_
  refine lv_iconst (v := 2) hx hb dL_law_1401 (by decide) ?_
  refine lv_iadd hx hb dL_law_1402 ?_
  refine z_i (v := 2) (by decide) ?_
  refine va_sld hx hb hX hbl hbA hS (z_in (by decide)) dL_law_1403 ?_
  refine z_i (v := xs 2) (by rfl) ?_
  refine rd_V (As := [.int (xs 1), .int (xs 2)]) (rest := [.int (-1)]) (d := 2) caV_SignalTableLaw_183 hx hb hml hown hts hPm hKm (rM_X12_quarrel (xs 1) (xs 2)) (ci := 12) (q0 := 0) rfl rfl (by decide) rfl hl.1 (Nat.le_of_ble_eq_true rfl) (by decide) dL_law_1404 rfl ?_
  refine lv_icmp_eq (tgt := 1494) hx hb dL_law_1407 (by decide) (fun _ => ?_) (fun h => absurd rfl h)
  exact fin _ _ _ hS (lv_sub hl [0, 3] rfl)
set_option maxHeartbeats 4000000 in
set_option maxRecDepth 100000 in
theorem lc_40 {p : Program} {l : Launch} {e : Env} {s : State} {m : MethodId} {below : List Frame} {meth : Method} {c : Code} {D : va_G} {b : Nat} {xs : Nat → Int32} {H : Heap} {locs : List Loc} {ls : Array Slot} {Q0 : State → Prop} {q : Nat → Nat} {k : Nat → ClassId} {g : Nat → Nat → Int32} {gl : Nat → Nat → Int64} {q2 : Nat → Nat} {k2 : Nat → ClassId} {g2 : Nat → Nat → Int32} {gl2 : Nat → Nat → Int64} (hx : p.tables.exec = Jvm.exec) (hb : c.code = code) (hml : c.maxLocals = 4) (hown : s.vm.findClass "SignalTableLaw" = some m.cls) (hts : ∀ w ∈ lwg, w.before #[Value.ref b] s = true) (hX : va_X b 6 xs s s.heap) (hbl : b < s.heap.size) (hPx : va_P D vwCl (wX q k g gl) H) (hPm : va_P D vwCl (wM q2 k2 g2 gl2) H) (hKx : va_K D vwCl (tyX k) s) (hKm : va_K D vwCl (tyM k2) s) (hD : va_D (fun a : Nat => s.heap.size ≤ a) (wX q k g gl ++ wM q2 k2 g2 gl2)) (hS : va_S (fun a : Nat => s.heap.size ≤ a) s.heap H locs) (hl : lv_has ls 4 [(3, .int 0), (2, .ref (q2 0)), (1, .ref (q 0)), (0, .ref b)])
    (fin : ∀ (H : Heap) (locs : List Loc) (ls : Array Slot), va_S (fun a : Nat => s.heap.size ≤ a) s.heap H locs → lv_has ls 4 [(3, .int 0), (0, .ref b)] → W p l e room_1 s m #[Value.ref b] below meth c H locs 158 353581 Q0 (F0 m 1494 ls [])) : W p l e room_1 s m #[Value.ref b] below meth c H locs 158 353581 Q0 (F0 m 1412 ls []) := by
  have hbA : ¬ (fun a : Nat => s.heap.size ≤ a) b := Nat.not_le.mpr hbl
  refine lv_aload_n hx hb dL_law_1412 rfl (lv_at hl 2 rfl) ?_
  refine rd_V (As := []) (rest := []) (d := 2) caV_SignalTableLaw_184 hx hb hml hown hts hPx hKx (rX_X11_gap) (ci := 11) (q0 := 0) rfl rfl (by decide) rfl hl.1 (Nat.le_of_ble_eq_true rfl) (by decide) dL_law_1413 rfl ?_
  refine lv_aload_n hx hb dL_law_1416 rfl (lv_at hl 1 rfl) ?_
  have hDm : va_D (fun a : Nat => s.heap.size ≤ a) (wM q2 k2 g2 gl2) := hD.sub [26, 27, 28, 29, 30, 31, 32, 33, 34, 35, 36, 37, 38, 39] (by decide) rfl
  refine wr_Vi (As := []) (rest := [.int 7280]) caV_SignalTableLaw_187 hx hb hml hown hts hPm hDm hKm hS (fun _ h => h) (isC := [0, 1, 2, 3, 4, 5, 6, 7, 8, 9, 10, 11, 12, 13]) (isR := []) (isT := [0, 1, 2, 3, 4, 5, 6, 7, 8, 9, 10, 11, 12]) (wr := []) ⟨rfl, rfl, rfl, rfl, by decide⟩ rfl (wX12_gap q2 k2 g2 gl2) bl_T (fun _ _ _ => trivial) (ci := 12) (q0 := 0) rfl rfl (by decide) rfl hl.1 (Nat.le_of_ble_eq_true rfl) (by decide) dL_law_1417 rfl (fun _ _ _ _ H locs hP hD hK hS => ?_)
  refine W.cs (cells' := 158) (slots' := 353581) rfl rfl ?_
  refine lv_icmp_eq (tgt := 1494) hx hb dL_law_1420 (by decide) (fun _ => ?_) (fun h => absurd rfl h)
  exact fin _ _ _ hS (lv_sub hl [0, 3] rfl)
set_option maxHeartbeats 4000000 in
set_option maxRecDepth 100000 in
theorem lc_41 {p : Program} {l : Launch} {e : Env} {s : State} {m : MethodId} {below : List Frame} {meth : Method} {c : Code} {D : va_G} {b : Nat} {xs : Nat → Int32} {H : Heap} {locs : List Loc} {ls : Array Slot} {Q0 : State → Prop} {q : Nat → Nat} {k : Nat → ClassId} {g : Nat → Nat → Int32} {gl : Nat → Nat → Int64} {q2 : Nat → Nat} {k2 : Nat → ClassId} {g2 : Nat → Nat → Int32} {gl2 : Nat → Nat → Int64} (hx : p.tables.exec = Jvm.exec) (hb : c.code = code) (hml : c.maxLocals = 4) (hown : s.vm.findClass "SignalTableLaw" = some m.cls) (hts : ∀ w ∈ lwg, w.before #[Value.ref b] s = true) (hX : va_X b 6 xs s s.heap) (hbl : b < s.heap.size) (hPx : va_P D vwCl (wX q k g gl) H) (hPm : va_P D vwCl (wM q2 k2 g2 gl2) H) (hKx : va_K D vwCl (tyX k) s) (hKm : va_K D vwCl (tyM k2) s) (hD : va_D (fun a : Nat => s.heap.size ≤ a) (wX q k g gl ++ wM q2 k2 g2 gl2)) (hS : va_S (fun a : Nat => s.heap.size ≤ a) s.heap H locs) (hl : lv_has ls 4 [(3, .int 0), (2, .ref (q2 0)), (1, .ref (q 0)), (0, .ref b)])
    (fin : ∀ (H : Heap) (locs : List Loc) (ls : Array Slot), va_S (fun a : Nat => s.heap.size ≤ a) s.heap H locs → lv_has ls 4 [(3, .int 0), (0, .ref b)] → W p l e room_1 s m #[Value.ref b] below meth c H locs 158 353581 Q0 (F0 m 1494 ls [])) : W p l e room_1 s m #[Value.ref b] below meth c H locs 158 353581 Q0 (F0 m 1425 ls []) := by
  have hbA : ¬ (fun a : Nat => s.heap.size ≤ a) b := Nat.not_le.mpr hbl
  refine lv_aload_n hx hb dL_law_1425 rfl (lv_at hl 2 rfl) ?_
  refine lv_aload_n hx hb dL_law_1426 rfl (lv_at hl 3 rfl) ?_
  refine lv_iload_n hx hb dL_law_1427 rfl (lv_at hl 0 rfl) ?_
  refine lv_iconst (v := 1) hx hb dL_law_1428 (by decide) ?_
  refine lv_iadd hx hb dL_law_1429 ?_
  refine z_i (v := 1) (by decide) ?_
  refine va_sld hx hb hX hbl hbA hS (z_in (by decide)) dL_law_1430 ?_
  refine z_i (v := xs 1) (by rfl) ?_
  refine rd_V (As := [.int (xs 1)]) (rest := []) (d := 0) caV_SignalTableLaw_188 hx hb hml hown hts hPx hKx (rX_X11_hold (xs 1)) (ci := 11) (q0 := 0) rfl rfl (by decide) rfl hl.1 (Nat.le_of_ble_eq_true rfl) (by decide) dL_law_1431 rfl ?_
  refine lv_aload_n hx hb dL_law_1434 rfl (lv_at hl 1 rfl) ?_
  refine lv_aload_n hx hb dL_law_1435 rfl (lv_at hl 3 rfl) ?_
  refine lv_iload_n hx hb dL_law_1436 rfl (lv_at hl 0 rfl) ?_
  refine lv_iconst (v := 1) hx hb dL_law_1437 (by decide) ?_
  refine lv_iadd hx hb dL_law_1438 ?_
  refine z_i (v := 1) (by decide) ?_
  refine va_sld hx hb hX hbl hbA hS (z_in (by decide)) dL_law_1439 ?_
  refine z_i (v := xs 1) (by rfl) ?_
  refine rd_V (As := [.int (xs 1)]) (rest := [.int 0]) (d := 1) caV_SignalTableLaw_191 hx hb hml hown hts hPm hKm (rM_X12_hold (xs 1)) (ci := 12) (q0 := 0) rfl rfl (by decide) rfl hl.1 (Nat.le_of_ble_eq_true rfl) (by decide) dL_law_1440 rfl ?_
  refine lv_icmp_eq (tgt := 1494) hx hb dL_law_1443 (by decide) (fun _ => ?_) (fun h => absurd rfl h)
  exact fin _ _ _ hS (lv_sub hl [0, 3] rfl)
set_option maxHeartbeats 4000000 in
set_option maxRecDepth 100000 in
theorem lc_42 {p : Program} {l : Launch} {e : Env} {s : State} {m : MethodId} {below : List Frame} {meth : Method} {c : Code} {D : va_G} {b : Nat} {xs : Nat → Int32} {H : Heap} {locs : List Loc} {ls : Array Slot} {Q0 : State → Prop} {q : Nat → Nat} {k : Nat → ClassId} {g : Nat → Nat → Int32} {gl : Nat → Nat → Int64} {q2 : Nat → Nat} {k2 : Nat → ClassId} {g2 : Nat → Nat → Int32} {gl2 : Nat → Nat → Int64} (hx : p.tables.exec = Jvm.exec) (hb : c.code = code) (hml : c.maxLocals = 4) (hown : s.vm.findClass "SignalTableLaw" = some m.cls) (hts : ∀ w ∈ lwg, w.before #[Value.ref b] s = true) (hX : va_X b 6 xs s s.heap) (hbl : b < s.heap.size) (hPx : va_P D vwCl (wX q k g gl) H) (hPm : va_P D vwCl (wM q2 k2 g2 gl2) H) (hKx : va_K D vwCl (tyX k) s) (hKm : va_K D vwCl (tyM k2) s) (hD : va_D (fun a : Nat => s.heap.size ≤ a) (wX q k g gl ++ wM q2 k2 g2 gl2)) (hS : va_S (fun a : Nat => s.heap.size ≤ a) s.heap H locs) (hl : lv_has ls 4 [(3, .int 0), (2, .ref (q2 0)), (1, .ref (q 0)), (0, .ref b)])
    (fin : ∀ (H : Heap) (locs : List Loc) (ls : Array Slot), va_S (fun a : Nat => s.heap.size ≤ a) s.heap H locs → lv_has ls 4 [(3, .int 0), (0, .ref b)] → W p l e room_1 s m #[Value.ref b] below meth c H locs 158 353581 Q0 (F0 m 1494 ls [])) : W p l e room_1 s m #[Value.ref b] below meth c H locs 158 353581 Q0 (F0 m 1448 ls []) := by
  have hbA : ¬ (fun a : Nat => s.heap.size ≤ a) b := Nat.not_le.mpr hbl
  refine lv_aload_n hx hb dL_law_1448 rfl (lv_at hl 2 rfl) ?_
  refine lv_aload_n hx hb dL_law_1449 rfl (lv_at hl 3 rfl) ?_
  refine lv_iload_n hx hb dL_law_1450 rfl (lv_at hl 0 rfl) ?_
  refine lv_iconst (v := 1) hx hb dL_law_1451 (by decide) ?_
  refine lv_iadd hx hb dL_law_1452 ?_
  refine z_i (v := 1) (by decide) ?_
  refine va_sld hx hb hX hbl hbA hS (z_in (by decide)) dL_law_1453 ?_
  refine z_i (v := xs 1) (by rfl) ?_
  refine rd_V (As := [.int (xs 1)]) (rest := []) (d := 0) caV_SignalTableLaw_192 hx hb hml hown hts hPx hKx (rX_X11_restore (xs 1)) (ci := 11) (q0 := 0) rfl rfl (by decide) rfl hl.1 (Nat.le_of_ble_eq_true rfl) (by decide) dL_law_1454 rfl ?_
  refine lv_aload_n hx hb dL_law_1457 rfl (lv_at hl 1 rfl) ?_
  refine lv_aload_n hx hb dL_law_1458 rfl (lv_at hl 3 rfl) ?_
  refine lv_iload_n hx hb dL_law_1459 rfl (lv_at hl 0 rfl) ?_
  refine lv_iconst (v := 1) hx hb dL_law_1460 (by decide) ?_
  refine lv_iadd hx hb dL_law_1461 ?_
  refine z_i (v := 1) (by decide) ?_
  refine va_sld hx hb hX hbl hbA hS (z_in (by decide)) dL_law_1462 ?_
  refine z_i (v := xs 1) (by rfl) ?_
  refine rd_V (As := [.int (xs 1)]) (rest := [.int 0]) (d := 1) caV_SignalTableLaw_195 hx hb hml hown hts hPm hKm (rM_X12_restore (xs 1)) (ci := 12) (q0 := 0) rfl rfl (by decide) rfl hl.1 (Nat.le_of_ble_eq_true rfl) (by decide) dL_law_1463 rfl ?_
  refine lv_icmp_eq (tgt := 1494) hx hb dL_law_1466 (by decide) (fun _ => ?_) (fun h => absurd rfl h)
  exact fin _ _ _ hS (lv_sub hl [0, 3] rfl)
set_option maxHeartbeats 4000000 in
set_option maxRecDepth 100000 in
theorem lc_43 {p : Program} {l : Launch} {e : Env} {s : State} {m : MethodId} {below : List Frame} {meth : Method} {c : Code} {D : va_G} {b : Nat} {xs : Nat → Int32} {H : Heap} {locs : List Loc} {ls : Array Slot} {Q0 : State → Prop} {q : Nat → Nat} {k : Nat → ClassId} {g : Nat → Nat → Int32} {gl : Nat → Nat → Int64} {q2 : Nat → Nat} {k2 : Nat → ClassId} {g2 : Nat → Nat → Int32} {gl2 : Nat → Nat → Int64} (hx : p.tables.exec = Jvm.exec) (hb : c.code = code) (hml : c.maxLocals = 4) (hown : s.vm.findClass "SignalTableLaw" = some m.cls) (hts : ∀ w ∈ lwg, w.before #[Value.ref b] s = true) (hX : va_X b 6 xs s s.heap) (hbl : b < s.heap.size) (hPx : va_P D vwCl (wX q k g gl) H) (hPm : va_P D vwCl (wM q2 k2 g2 gl2) H) (hKx : va_K D vwCl (tyX k) s) (hKm : va_K D vwCl (tyM k2) s) (hD : va_D (fun a : Nat => s.heap.size ≤ a) (wX q k g gl ++ wM q2 k2 g2 gl2)) (hS : va_S (fun a : Nat => s.heap.size ≤ a) s.heap H locs) (hl : lv_has ls 4 [(3, .int 0), (2, .ref (q2 0)), (1, .ref (q 0)), (0, .ref b)])
    (fin : ∀ (H : Heap) (locs : List Loc) (ls : Array Slot), va_S (fun a : Nat => s.heap.size ≤ a) s.heap H locs → lv_has ls 4 [(3, .int 0), (0, .ref b)] → W p l e room_1 s m #[Value.ref b] below meth c H locs 158 353581 Q0 (F0 m 1494 ls [])) : W p l e room_1 s m #[Value.ref b] below meth c H locs 158 353581 Q0 (F0 m 1471 ls []) := by
  have hbA : ¬ (fun a : Nat => s.heap.size ≤ a) b := Nat.not_le.mpr hbl
  refine lv_aload_n hx hb dL_law_1471 rfl (lv_at hl 2 rfl) ?_
  refine lv_aload_n hx hb dL_law_1472 rfl (lv_at hl 3 rfl) ?_
  refine lv_iload_n hx hb dL_law_1473 rfl (lv_at hl 0 rfl) ?_
  refine lv_iconst (v := 1) hx hb dL_law_1474 (by decide) ?_
  refine lv_iadd hx hb dL_law_1475 ?_
  refine z_i (v := 1) (by decide) ?_
  refine va_sld hx hb hX hbl hbA hS (z_in (by decide)) dL_law_1476 ?_
  refine z_i (v := xs 1) (by rfl) ?_
  refine rd_V (As := [.int (xs 1)]) (rest := []) (d := 1) caV_SignalTableLaw_196 hx hb hml hown hts hPx hKx (rX_X11_count (xs 1)) (ci := 11) (q0 := 0) rfl rfl (by decide) rfl hl.1 (Nat.le_of_ble_eq_true rfl) (by decide) dL_law_1477 rfl ?_
  refine lv_aload_n hx hb dL_law_1480 rfl (lv_at hl 1 rfl) ?_
  refine lv_aload_n hx hb dL_law_1481 rfl (lv_at hl 3 rfl) ?_
  refine lv_iload_n hx hb dL_law_1482 rfl (lv_at hl 0 rfl) ?_
  refine lv_iconst (v := 1) hx hb dL_law_1483 (by decide) ?_
  refine lv_iadd hx hb dL_law_1484 ?_
  refine z_i (v := 1) (by decide) ?_
  refine va_sld hx hb hX hbl hbA hS (z_in (by decide)) dL_law_1485 ?_
  refine z_i (v := xs 1) (by rfl) ?_
  refine rd_V (As := [.int (xs 1)]) (rest := [.int (sp_count (xs 1))]) (d := 2) caV_SignalTableLaw_199 hx hb hml hown hts hPm hKm (rM_X12_count (xs 1)) (ci := 12) (q0 := 0) rfl rfl (by decide) rfl hl.1 (Nat.le_of_ble_eq_true rfl) (by decide) dL_law_1486 rfl ?_
  refine lv_icmp_eq (tgt := 1494) hx hb dL_law_1489 (by decide) (fun _ => ?_) (fun h => absurd rfl h)
  exact fin _ _ _ hS (lv_sub hl [0, 3] rfl)
