/-- what Tokens() needs of its string constant -/
def ES (a v n : Nat) (f : Nat → Int32) (fm : Option Nat) (wc : va_W) (U : State) : Prop := vk_R "SignalTable$Tokens" 25 "pack trump custom lead follow discard when says or and not count suit rank led trick before held high low voids trumps " a U ∧ StrF a v n f fm (va_A wc U.heap.size) U U.heap
theorem ES_bl {a v n : Nat} {f : Nat → Int32} {fm : Option Nat} {wc : va_W} : bl (ES a v n f fm wc) := fun ar U g mk h => ⟨vk_R.same (u := U) (U := U.calling g mk ar) rfl h.1, StrF.moved (u := U) (U := U.calling g mk ar) (Vm.Alike.refl U.vm) h.2⟩
theorem ES_of {a v n : Nat} {f : Nat → Int32} {fm : Option Nat} {wc : va_W} {A : Nat → Prop} {s : State} {H : Heap} {locs : List Loc} (h1 : vk_R "SignalTable$Tokens" 25 "pack trump custom lead follow discard when says or and not count suit rank led trick before held high low voids trumps " a s) (h2 : StrF a v n f fm A s s.heap) (hS : va_S A s.heap H locs) (hF : ∀ q, va_A wc H.size q → A q) : ∀ U : State, U.heap = H → s.WarmedH U.vm → ES a v n f fm wc U := fun U hU hW => by
  have h3 : StrF a v n f fm A s H := h2.kept (fun q h1 h2 => hS.2.1 q h1 h2)
  have h4 : StrF a v n f fm A U H := h3.moved hW.alike
  refine ⟨vk_R.warm hW h1, ?_⟩
  rw [hU]
  exact h4.narrow hF
/-- the loop of Tokens(): the words behind k more letters -/
def wdF (f : Nat → Int32) : Nat → Nat → Nat → Int64 → (Nat → Int64) → Nat → Int64
  | 0, _, _, _, fw => fw
  | k + 1, i, wd, x, fw => if jch f i = 32 then (if (22 : Int32) ≤ nI wd then wdF f k (i + 1) wd x fw else wdF f k (i + 1) (wd + 1) 0 (vp_updL fw (((nI wd) : Int32).toNatClampNeg) x)) else wdF f k (i + 1) wd ((x * 32) + ((((jch f i) - 97) + 1)).toInt64) fw
def wdG (f : Nat → Int32) : Nat → Int64 := wdF f 119 0 0 0 (fun _ => 0)
theorem wdF_1 {f : Nat → Int32} {k i wd : Nat} {x : Int64} {fw : Nat → Int64} (c1 : jch f i = 32) (c2 : (22 : Int32) ≤ nI wd) : wdF f (k + 1) i wd x fw = wdF f k (i + 1) wd x fw := (if_pos c1).trans (if_pos c2)
theorem wdF_2 {f : Nat → Int32} {k i wd : Nat} {x : Int64} {fw : Nat → Int64} (c1 : jch f i = 32) (c2 : ¬ (22 : Int32) ≤ nI wd) : wdF f (k + 1) i wd x fw = wdF f k (i + 1) (wd + 1) 0 (vp_updL fw (((nI wd) : Int32).toNatClampNeg) x) := (if_pos c1).trans (if_neg c2)
theorem wdF_3 {f : Nat → Int32} {k i wd : Nat} {x : Int64} {fw : Nat → Int64} (c1 : ¬ jch f i = 32) : wdF f (k + 1) i wd x fw = wdF f k (i + 1) wd ((x * 32) + ((((jch f i) - 97) + 1)).toInt64) fw := if_neg c1
set_option maxHeartbeats 4000000 in
set_option maxRecDepth 100000 in
theorem wX9_init {l : Launch} {D : va_G} {sz : Nat} (h0 : Nat) (a : Nat) (v : Nat) (f : Nat → Int32) (fm : Option Nat) : Wv l yX9_init cX9_init 6 4 4 1228 D [(h0, .inr (9, [.null, .null, .null, .null, .int 0]))] [] [.ref h0] sz (ES a v 119 f fm [(h0, .inr (9, [.null, .null, .null, .null, .int 0]))]) (fun q k g gl => [(h0, .inr (9, [.ref (q 0), .ref (q 1), .ref (q 2), .ref (q 3), .int 0])), ((q 0), .inl ((k 0), 402, .inl (fun _ => 0))), ((q 1), .inl ((k 1), 402, .inl (fun _ => 0))), ((q 2), .inl ((k 2), 402, .inr (.inl (fun _ => 0)))), ((q 3), .inl ((k 3), 22, .inr (.inl (wdG f))))]) (fun k => [((k 0), .int), ((k 1), .int), ((k 2), .long), ((k 3), .long)]) := by
  refine Wv.of (by decide) (Nat.le_of_ble_eq_true rfl) ?_
  intro p e s m below meth c ls A hx hb hr hml hown hts hlocks hin hP hK hD hA hS hE hAe hl
  have hown : s.vm.findClass "SignalTable$Tokens" = some m.cls := hown
  have hin : meth.name = "<init>" := hin
  skip
  have hl : lv_has ls 6 [(0, .ref h0)] := hl
  have hE2 : StrF a v 119 f fm A s s.heap := by rw [hAe]; exact hE.2
  generalize hQ : MQ below _ _ _ _ _ _ = Q0
  refine lv_aload_n hx hb dX9_init_0 rfl (lv_at hl 0 rfl) ?_
  refine W.objInit hx hb hown (hts _ kw_308) (hts _ kw_180) (hts _ kw_181) rfl (by rw [hml]; exact hl.1) rfl dX9_init_1 (by decide) (Nat.le_of_ble_eq_true rfl) ?_
  refine W.eq (g2 := F0 m 4 ls []) rfl ?_
  refine lv_aload_n hx hb dX9_init_4 rfl (lv_at hl 0 rfl) ?_
  refine lv_sipush (v := 402) hx hb dX9_init_5 (by decide) ?_
  refine va_newa (atype := .int) (a0 := (402, .inl (fun _ => 0))) (ty := .int) hx hb (hts _ kw_280) rfl hK hP hD hS hA (fun _ => rfl) (by decide) (by decide) (by decide) (by decide) (by decide) dX9_init_8 (fun a8_1 k8_1 H hK hP hD hS => ?_)
  have hP : va_P D vwCl [(h0, .inr (9, [.null, .null, .null, .null, .int 0])), (a8_1, .inl (k8_1, 402, .inl (fun _ => 0)))] H := hP
  have hD : va_D A [(h0, .inr (9, [.null, .null, .null, .null, .int 0])), (a8_1, .inl (k8_1, 402, .inl (fun _ => 0)))] := hD
  have hK : va_K D vwCl [(k8_1, .int)] s := hK
  refine W.cs (cells' := 1) (slots' := 402) rfl rfl ?_
  refine va_putF (D := D) (ci := 9) (v := .ref a8_1) (ty := .array .int) (C := RX9) (T := TX9) (N := 5) hx hb hts inX9 tyX9 tyX9_ok nmX9 hown hK hP hD hS 0 rfl rfl 0 (by decide) (hts _ kw_359) (fun _ h9 => h9) rfl hin rfl (by decide +kernel) rfl rfl (Nat.le_of_ble_eq_true rfl) dX9_init_10 (fun H locs hP hD hS => ?_)
  have hP : va_P D vwCl [(h0, .inr (9, [.ref a8_1, .null, .null, .null, .int 0])), (a8_1, .inl (k8_1, 402, .inl (fun _ => 0)))] H := hP
  have hD : va_D A [(h0, .inr (9, [.ref a8_1, .null, .null, .null, .int 0])), (a8_1, .inl (k8_1, 402, .inl (fun _ => 0)))] := hD
  refine lv_aload_n hx hb dX9_init_13 rfl (lv_at hl 0 rfl) ?_
  refine lv_sipush (v := 402) hx hb dX9_init_14 (by decide) ?_
  refine va_newa (atype := .int) (a0 := (402, .inl (fun _ => 0))) (ty := .int) hx hb (hts _ kw_280) rfl hK hP hD hS hA (fun _ => rfl) (by decide) (by decide) (by decide) (by decide) (by decide) dX9_init_17 (fun a17_2 k17_2 H hK hP hD hS => ?_)
  have hP : va_P D vwCl [(h0, .inr (9, [.ref a8_1, .null, .null, .null, .int 0])), (a8_1, .inl (k8_1, 402, .inl (fun _ => 0))), (a17_2, .inl (k17_2, 402, .inl (fun _ => 0)))] H := hP
  have hD : va_D A [(h0, .inr (9, [.ref a8_1, .null, .null, .null, .int 0])), (a8_1, .inl (k8_1, 402, .inl (fun _ => 0))), (a17_2, .inl (k17_2, 402, .inl (fun _ => 0)))] := hD
  have hK : va_K D vwCl [(k8_1, .int), (k17_2, .int)] s := hK
  refine W.cs (cells' := 2) (slots' := 804) rfl rfl ?_
  refine va_putF (D := D) (ci := 9) (v := .ref a17_2) (ty := .array .int) (C := RX9) (T := TX9) (N := 5) hx hb hts inX9 tyX9 tyX9_ok nmX9 hown hK hP hD hS 0 rfl rfl 1 (by decide) (hts _ kw_361) (fun _ h9 => h9) rfl hin rfl (by decide +kernel) rfl rfl (Nat.le_of_ble_eq_true rfl) dX9_init_19 (fun H locs hP hD hS => ?_)
  have hP : va_P D vwCl [(h0, .inr (9, [.ref a8_1, .ref a17_2, .null, .null, .int 0])), (a8_1, .inl (k8_1, 402, .inl (fun _ => 0))), (a17_2, .inl (k17_2, 402, .inl (fun _ => 0)))] H := hP
  have hD : va_D A [(h0, .inr (9, [.ref a8_1, .ref a17_2, .null, .null, .int 0])), (a8_1, .inl (k8_1, 402, .inl (fun _ => 0))), (a17_2, .inl (k17_2, 402, .inl (fun _ => 0)))] := hD
  refine lv_aload_n hx hb dX9_init_22 rfl (lv_at hl 0 rfl) ?_
  refine lv_sipush (v := 402) hx hb dX9_init_23 (by decide) ?_
  refine W.eq (g2 := F0 m 26 ls [.int 402, .ref h0]) rfl ?_
  refine va_newa (atype := .long) (a0 := (402, .inr (.inl (fun _ => 0)))) (ty := .long) hx hb (hts _ kw_378) rfl hK hP hD hS hA (fun _ => rfl) (by decide) (by decide) (by decide) (by decide) (by decide) dX9_init_26 (fun a26_3 k26_3 H hK hP hD hS => ?_)
  have hP : va_P D vwCl [(h0, .inr (9, [.ref a8_1, .ref a17_2, .null, .null, .int 0])), (a8_1, .inl (k8_1, 402, .inl (fun _ => 0))), (a17_2, .inl (k17_2, 402, .inl (fun _ => 0))), (a26_3, .inl (k26_3, 402, .inr (.inl (fun _ => 0))))] H := hP
  have hD : va_D A [(h0, .inr (9, [.ref a8_1, .ref a17_2, .null, .null, .int 0])), (a8_1, .inl (k8_1, 402, .inl (fun _ => 0))), (a17_2, .inl (k17_2, 402, .inl (fun _ => 0))), (a26_3, .inl (k26_3, 402, .inr (.inl (fun _ => 0))))] := hD
  have hK : va_K D vwCl [(k8_1, .int), (k17_2, .int), (k26_3, .long)] s := hK
  refine W.cs (cells' := 3) (slots' := 1206) rfl rfl ?_
  refine va_putF (D := D) (ci := 9) (v := .ref a26_3) (ty := .array .long) (C := RX9) (T := TX9) (N := 5) hx hb hts inX9 tyX9 tyX9_ok nmX9 hown hK hP hD hS 0 rfl rfl 2 (by decide) (hts _ kw_363) (fun _ h9 => h9) rfl hin rfl (by decide +kernel) rfl rfl (Nat.le_of_ble_eq_true rfl) dX9_init_28 (fun H locs hP hD hS => ?_)
  have hP : va_P D vwCl [(h0, .inr (9, [.ref a8_1, .ref a17_2, .ref a26_3, .null, .int 0])), (a8_1, .inl (k8_1, 402, .inl (fun _ => 0))), (a17_2, .inl (k17_2, 402, .inl (fun _ => 0))), (a26_3, .inl (k26_3, 402, .inr (.inl (fun _ => 0))))] H := hP
  have hD : va_D A [(h0, .inr (9, [.ref a8_1, .ref a17_2, .ref a26_3, .null, .int 0])), (a8_1, .inl (k8_1, 402, .inl (fun _ => 0))), (a17_2, .inl (k17_2, 402, .inl (fun _ => 0))), (a26_3, .inl (k26_3, 402, .inr (.inl (fun _ => 0))))] := hD
  refine lv_aload_n hx hb dX9_init_31 rfl (lv_at hl 0 rfl) ?_
  refine lv_bipush (v := 22) hx hb dX9_init_32 (by decide) ?_
  refine va_newa (atype := .long) (a0 := (22, .inr (.inl (fun _ => 0)))) (ty := .long) hx hb (hts _ kw_378) rfl hK hP hD hS hA (fun _ => rfl) (by decide) (by decide) (by decide) (by decide) (by decide) dX9_init_34 (fun a34_4 k34_4 H hK hP hD hS => ?_)
  have hP : va_P D vwCl [(h0, .inr (9, [.ref a8_1, .ref a17_2, .ref a26_3, .null, .int 0])), (a8_1, .inl (k8_1, 402, .inl (fun _ => 0))), (a17_2, .inl (k17_2, 402, .inl (fun _ => 0))), (a26_3, .inl (k26_3, 402, .inr (.inl (fun _ => 0)))), (a34_4, .inl (k34_4, 22, .inr (.inl (fun _ => 0))))] H := hP
  have hD : va_D A [(h0, .inr (9, [.ref a8_1, .ref a17_2, .ref a26_3, .null, .int 0])), (a8_1, .inl (k8_1, 402, .inl (fun _ => 0))), (a17_2, .inl (k17_2, 402, .inl (fun _ => 0))), (a26_3, .inl (k26_3, 402, .inr (.inl (fun _ => 0)))), (a34_4, .inl (k34_4, 22, .inr (.inl (fun _ => 0))))] := hD
  have hK : va_K D vwCl [(k8_1, .int), (k17_2, .int), (k26_3, .long), (k34_4, .long)] s := hK
  refine W.cs (cells' := 4) (slots' := 1228) rfl rfl ?_
  refine va_putF (D := D) (ci := 9) (v := .ref a34_4) (ty := .array .long) (C := RX9) (T := TX9) (N := 5) hx hb hts inX9 tyX9 tyX9_ok nmX9 hown hK hP hD hS 0 rfl rfl 3 (by decide) (hts _ kw_365) (fun _ h9 => h9) rfl hin rfl (by decide +kernel) rfl rfl (Nat.le_of_ble_eq_true rfl) dX9_init_36 (fun H locs hP hD hS => ?_)
  have hP : va_P D vwCl [(h0, .inr (9, [.ref a8_1, .ref a17_2, .ref a26_3, .ref a34_4, .int 0])), (a8_1, .inl (k8_1, 402, .inl (fun _ => 0))), (a17_2, .inl (k17_2, 402, .inl (fun _ => 0))), (a26_3, .inl (k26_3, 402, .inr (.inl (fun _ => 0)))), (a34_4, .inl (k34_4, 22, .inr (.inl (fun _ => 0))))] H := hP
  have hD : va_D A [(h0, .inr (9, [.ref a8_1, .ref a17_2, .ref a26_3, .ref a34_4, .int 0])), (a8_1, .inl (k8_1, 402, .inl (fun _ => 0))), (a17_2, .inl (k17_2, 402, .inl (fun _ => 0))), (a26_3, .inl (k26_3, 402, .inr (.inl (fun _ => 0)))), (a34_4, .inl (k34_4, 22, .inr (.inl (fun _ => 0))))] := hD
  refine lv_iconst (v := 0) hx hb dX9_init_39 (by decide) ?_
  refine lv_istore_n (lv' := [(1, .int 0), (0, .ref h0)]) hx hb dX9_init_40 rfl hl (by decide) rfl (fun ls hl => ?_)
  refine lv_lconst (v := 0) hx hb dX9_init_41 (by decide) ?_
  refine lv_lstore_n (lv' := [(2, .long 0), (1, .int 0), (0, .ref h0)]) hx hb dX9_init_42 rfl hl (by decide) rfl (fun ls hl => ?_)
  refine W.eq (g2 := F0 m 43 ls []) rfl ?_
  refine lv_iconst (v := 0) hx hb dX9_init_43 (by decide) ?_
  refine lv_istore (lv' := [(4, .int 0), (2, .long 0), (1, .int 0), (0, .ref h0)]) hx hb dX9_init_44 hl (by decide) rfl (fun ls hl => ?_)
  have loop : ∀ (k i wd : Nat) (x : Int64) (fw : Nat → Int64) (H : Heap) (locs : List Loc) (ls : Array Slot), i + k = 119 → wd ≤ 22 → wdF f k i wd x fw = wdG f → va_P D vwCl [(h0, .inr (9, [.ref a8_1, .ref a17_2, .ref a26_3, .ref a34_4, .int 0])), (a8_1, .inl (k8_1, 402, .inl (fun _ => 0))), (a17_2, .inl (k17_2, 402, .inl (fun _ => 0))), (a26_3, .inl (k26_3, 402, .inr (.inl (fun _ => 0)))), (a34_4, .inl (k34_4, 22, .inr (.inl fw)))] H → va_D A [(h0, .inr (9, [.ref a8_1, .ref a17_2, .ref a26_3, .ref a34_4, .int 0])), (a8_1, .inl (k8_1, 402, .inl (fun _ => 0))), (a17_2, .inl (k17_2, 402, .inl (fun _ => 0))), (a26_3, .inl (k26_3, 402, .inr (.inl (fun _ => 0)))), (a34_4, .inl (k34_4, 22, .inr (.inl fw)))] → va_S A s.heap H locs → lv_has ls 6 [(4, .int (nI i)), (2, .long x), (1, .int (nI wd)), (0, .ref h0)] → W p l e (rmU 4 4 1228) s m [Value.ref h0].toArray below meth c H locs 4 1228 Q0 (F0 m 46 ls []) := by
    intro k
    induction k with
    | zero =>
      intro i wd x fw H locs ls hi hwd hg hP hD hS hl
      obtain rfl : i = 119 := by omega
      have eg : fw = wdG f := hg
      subst eg
      refine lv_iload hx hb dX9_init_46 (lv_at hl 0 rfl) ?_
      refine va_ldcS hx hb hown hE.1 dX9_init_48 ?_
      refine re_V (As := []) (rest := [.int (nI 119)]) caV_SignalTable_Tokens_27 hx hb hml hown hts (j_length a v 119 f fm (by decide)) SF_bl (SF_of hE2 hS) (by obtain ⟨cell, h1, h2, h3, _⟩ := hE2.1.kept (fun q h1 h2 => hS.2.1 q h1 h2); exact ⟨cell, h1, h2, h3⟩) (by decide) rfl hl.1 (Nat.le_of_ble_eq_true rfl) (by decide) dX9_init_50 rfl ?_
      refine lv_icmp_ge (tgt := 117) hx hb dX9_init_53 (by decide) (fun _ => ?_) (fun h => absurd (nI_le (Nat.le_refl 119) (by decide)) h)
      rw [← hQ]
      exact wr_v (q := (fun i => match i with | 0 => a8_1 | 1 => a17_2 | 2 => a26_3 | 3 => a34_4 | _ => 0)) (k := (fun i => match i with | 0 => k8_1 | 1 => k17_2 | 2 => k26_3 | 3 => k34_4 | _ => k8_1)) (g := (fun _ => fun _ => 0)) (gl := (fun i => match i with | 3 => wdG f | _ => fun _ => 0)) hx hb hr hlocks hS (hP.sub [0, 1, 2, 3, 4] rfl) (hK.sub [0, 1, 2, 3] rfl) (hD.sub [0, 1, 2, 3, 4] (by decide) rfl) dX9_init_117
    | succ k ih =>
      intro i wd x fw H locs ls hi hwd hg hP hD hS hl
      refine lv_iload hx hb dX9_init_46 (lv_at hl 0 rfl) ?_
      refine va_ldcS hx hb hown hE.1 dX9_init_48 ?_
      refine re_V (As := []) (rest := [.int (nI i)]) caV_SignalTable_Tokens_27 hx hb hml hown hts (j_length a v 119 f fm (by decide)) SF_bl (SF_of hE2 hS) (by obtain ⟨cell, h1, h2, h3, _⟩ := hE2.1.kept (fun q h1 h2 => hS.2.1 q h1 h2); exact ⟨cell, h1, h2, h3⟩) (by decide) rfl hl.1 (Nat.le_of_ble_eq_true rfl) (by decide) dX9_init_50 rfl ?_
      refine W.eq (g2 := F0 m 53 ls [.int (nI 119), .int (nI i)]) rfl ?_
      refine lv_icmp_ge (tgt := 117) hx hb dX9_init_53 (by decide) (fun h => absurd h (nI_ge (a := i) (b := 119) (by omega) (by decide))) (fun _ => ?_)
      refine va_ldcS hx hb hown hE.1 dX9_init_56 ?_
      refine lv_iload hx hb dX9_init_58 (lv_at hl 0 rfl) ?_
      refine re_V (As := [.int (nI i)]) (rest := []) caV_SignalTable_Tokens_33 hx hb hml hown hts (j_charAt a v 119 f fm i (by omega) (by decide)) SF_bl (SF_of hE2 hS) (by obtain ⟨cell, h1, h2, h3, _⟩ := hE2.1.kept (fun q h1 h2 => hS.2.1 q h1 h2); exact ⟨cell, h1, h2, h3⟩) (by decide) rfl hl.1 (Nat.le_of_ble_eq_true rfl) (by decide) dX9_init_60 rfl ?_
      refine lv_istore (lv' := [(5, .int (jch f i)), (4, .int (nI i)), (2, .long x), (1, .int (nI wd)), (0, .ref h0)]) hx hb dX9_init_63 hl (by decide) rfl (fun ls hl => ?_)
      refine lv_iload hx hb dX9_init_65 (lv_at hl 0 rfl) ?_
      refine lv_bipush (v := 32) hx hb dX9_init_67 (by decide) ?_
      refine lv_icmp_eq (tgt := 90) hx hb dX9_init_69 (by decide) (fun c_1 => ?_) (fun c_1 => ?_)
      · skip
        refine lv_iload_n hx hb dX9_init_90 rfl (lv_at hl 3 rfl) ?_
        refine lv_aload_n hx hb dX9_init_91 rfl (lv_at hl 4 rfl) ?_
        refine W.eq (g2 := F0 m 92 ls [.ref h0, .int (nI wd)]) rfl ?_
        refine va_get (D := D) (ci := 9) (v := .ref a34_4) (C := RX9) (T := TX9) (N := 5) hx hb hts inX9 hown hK hP 0 rfl rfl 3 (by decide) (hts _ kw_365) (fun _ h9 => h9) rfl dX9_init_92 ?_
        refine va_alen (v := 22) hx hb hK hP 4 3 rfl rfl rfl dX9_init_95 ?_
        refine lv_icmp_ge (tgt := 111) hx hb dX9_init_96 (by decide) (fun c_2 => ?_) (fun c_2 => ?_)
        · skip
          refine lv_iinc (v := (nI (i + 1))) (lv' := [(4, .int (nI (i + 1))), (5, .int (jch f i)), (2, .long x), (1, .int (nI wd)), (0, .ref h0)]) hx hb dX9_init_111 hl (k := 1) rfl (by show (nI i) + 1 = _; exact nI_1 _) (by decide) rfl (fun ls hl => ?_)
          refine lv_goto (tgt := 46) hx hb dX9_init_114 (by decide) ?_
          exact ih (i + 1) wd x fw _ _ _ (by omega) (by omega) ((wdF_1 c_1 c_2).symm.trans hg) hP hD hS (lv_sub hl [0, 2, 3, 4] rfl)
        · skip
          have hwl : wd < 22 := by
            rcases Nat.lt_or_ge wd 22 with q | q
            · exact q
            · exact absurd (nI_le (a := 22) (b := wd) q (by omega)) c_2
          refine lv_aload_n hx hb dX9_init_99 rfl (lv_at hl 4 rfl) ?_
          refine va_get (D := D) (ci := 9) (v := .ref a34_4) (C := RX9) (T := TX9) (N := 5) hx hb hts inX9 hown hK hP 0 rfl rfl 3 (by decide) (hts _ kw_365) (fun _ h9 => h9) rfl dX9_init_100 ?_
          refine lv_iload_n hx hb dX9_init_103 rfl (lv_at hl 3 rfl) ?_
          refine lv_lload_n hx hb dX9_init_104 rfl (lv_at hl 2 rfl) ?_
          refine va_last hx hb hK hP hD hS 4 3 rfl rfl (vp_in_nI (n := wd) (N := 22) (by omega) (by decide)) dX9_init_105 (fun H locs hP hD hS => ?_)
          obtain ⟨f105_5, hf105_5⟩ : ∃ z, z = vp_updL fw (((nI wd) : Int32).toNatClampNeg) x := ⟨_, rfl⟩
          rw [← hf105_5] at hP hD
          have hP : va_P D vwCl [(h0, .inr (9, [.ref a8_1, .ref a17_2, .ref a26_3, .ref a34_4, .int 0])), (a8_1, .inl (k8_1, 402, .inl (fun _ => 0))), (a17_2, .inl (k17_2, 402, .inl (fun _ => 0))), (a26_3, .inl (k26_3, 402, .inr (.inl (fun _ => 0)))), (a34_4, .inl (k34_4, 22, .inr (.inl f105_5)))] H := hP
          have hD : va_D A [(h0, .inr (9, [.ref a8_1, .ref a17_2, .ref a26_3, .ref a34_4, .int 0])), (a8_1, .inl (k8_1, 402, .inl (fun _ => 0))), (a17_2, .inl (k17_2, 402, .inl (fun _ => 0))), (a26_3, .inl (k26_3, 402, .inr (.inl (fun _ => 0)))), (a34_4, .inl (k34_4, 22, .inr (.inl f105_5)))] := hD
          refine W.eq (g2 := F0 m 106 ls []) rfl ?_
          refine lv_iinc (v := (nI (wd + 1))) (lv' := [(1, .int (nI (wd + 1))), (5, .int (jch f i)), (4, .int (nI i)), (2, .long x), (0, .ref h0)]) hx hb dX9_init_106 hl (k := 3) rfl (by show (nI wd) + 1 = _; exact nI_1 _) (by decide) rfl (fun ls hl => ?_)
          refine lv_lconst (v := 0) hx hb dX9_init_109 (by decide) ?_
          refine lv_lstore_n (lv' := [(2, .long 0), (1, .int (nI (wd + 1))), (5, .int (jch f i)), (4, .int (nI i)), (0, .ref h0)]) hx hb dX9_init_110 rfl hl (by decide) rfl (fun ls hl => ?_)
          refine lv_iinc (v := (nI (i + 1))) (lv' := [(4, .int (nI (i + 1))), (2, .long 0), (1, .int (nI (wd + 1))), (5, .int (jch f i)), (0, .ref h0)]) hx hb dX9_init_111 hl (k := 3) rfl (by show (nI i) + 1 = _; exact nI_1 _) (by decide) rfl (fun ls hl => ?_)
          refine lv_goto (tgt := 46) hx hb dX9_init_114 (by decide) ?_
          exact ih (i + 1) (wd + 1) 0 f105_5 _ _ _ (by omega) (by omega) (by rw [hf105_5]; exact (wdF_2 c_1 c_2).symm.trans hg) hP hD hS (lv_sub hl [0, 1, 2, 4] rfl)
      · skip
        refine lv_lload_n hx hb dX9_init_72 rfl (lv_at hl 2 rfl) ?_
        refine lv_ldc2 (v := 32) hx hb hown (hts _ kw_358) dX9_init_73 ?_
        refine lv_lmul hx hb dX9_init_76 ?_
        refine lv_iload hx hb dX9_init_77 (lv_at hl 0 rfl) ?_
        refine lv_bipush (v := 97) hx hb dX9_init_79 (by decide) ?_
        refine W.eq (g2 := F0 m 81 ls [.int 97, .int (jch f i), .long (x * 32)]) rfl ?_
        refine lv_isub hx hb dX9_init_81 ?_
        refine lv_iconst (v := 1) hx hb dX9_init_82 (by decide) ?_
        refine lv_iadd hx hb dX9_init_83 ?_
        refine lv_i2l (v := (((jch f i) - 97) + 1).toInt64) hx hb dX9_init_84 rfl ?_
        refine lv_ladd hx hb dX9_init_85 ?_
        refine lv_lstore_n (lv' := [(2, .long ((x * 32) + ((((jch f i) - 97) + 1)).toInt64)), (5, .int (jch f i)), (4, .int (nI i)), (1, .int (nI wd)), (0, .ref h0)]) hx hb dX9_init_86 rfl hl (by decide) rfl (fun ls hl => ?_)
        refine lv_goto (tgt := 111) hx hb dX9_init_87 (by decide) ?_
        refine lv_iinc (v := (nI (i + 1))) (lv' := [(4, .int (nI (i + 1))), (2, .long ((x * 32) + ((((jch f i) - 97) + 1)).toInt64)), (5, .int (jch f i)), (1, .int (nI wd)), (0, .ref h0)]) hx hb dX9_init_111 hl (k := 2) rfl (by show (nI i) + 1 = _; exact nI_1 _) (by decide) rfl (fun ls hl => ?_)
        refine lv_goto (tgt := 46) hx hb dX9_init_114 (by decide) ?_
        exact ih (i + 1) wd ((x * 32) + ((((jch f i) - 97) + 1)).toInt64) fw _ _ _ (by omega) (by omega) ((wdF_3 c_1).symm.trans hg) hP hD hS (lv_sub hl [0, 1, 3, 4] rfl)
  exact loop 119 0 0 0 (fun _ => 0) _ _ _ (by omega) (by omega) rfl hP hD hS (lv_sub hl [0, 1, 2, 3] rfl)
set_option maxHeartbeats 4000000 in
set_option maxRecDepth 100000 in
theorem wX8_init {l : Launch} {D : va_G} {sz : Nat} (h0 : Nat) (a1 : Nat) (a : Nat) (v : Nat) (f : Nat → Int32) (fm : Option Nat) : Wv l yX8_init cX8_init 2 5 6 1239 D [(h0, .inr (8, [.null, .null, .null, .int 0, .int 0, .int 0, .int 0, .int 0, .int 0, .int 0, .int 0]))] [] [.ref h0, .ref a1] sz (ES a v 119 f fm [(h0, .inr (8, [.null, .null, .null, .int 0, .int 0, .int 0, .int 0, .int 0, .int 0, .int 0, .int 0]))]) (fun q k g gl => [(h0, .inr (8, [.ref (q 0), .ref a1, .ref (q 1), .int 0, .int 0, .int 0, .int 0, .int 0, .int (-1), .int 0, .int 0])), ((q 0), .inr (9, [.ref (q 2), .ref (q 3), .ref (q 4), .ref (q 5), .int 0])), ((q 1), .inl ((k 1), 6, .inr (.inl (fun _ => 0)))), ((q 2), .inl ((k 2), 402, .inl (fun _ => 0))), ((q 3), .inl ((k 3), 402, .inl (fun _ => 0))), ((q 4), .inl ((k 4), 402, .inr (.inl (fun _ => 0)))), ((q 5), .inl ((k 5), 22, .inr (.inl (wdG f))))]) (fun k => [((k 1), .long), ((k 2), .int), ((k 3), .int), ((k 4), .long), ((k 5), .long)]) := by
  refine Wv.of (by decide) (Nat.le_of_ble_eq_true rfl) ?_
  intro p e s m below meth c ls A hx hb hr hml hown hts hlocks hin hP hK hD hA hS hE hAe hl
  have hown : s.vm.findClass "SignalTable$Reader" = some m.cls := hown
  have hin : meth.name = "<init>" := hin
  skip
  have hl : lv_has ls 2 [(0, .ref h0), (1, .ref a1)] := hl
  have hE2 : StrF a v 119 f fm A s s.heap := by rw [hAe]; exact hE.2
  refine lv_aload_n hx hb dX8_init_0 rfl (lv_at hl 0 rfl) ?_
  refine W.objInit hx hb hown (hts _ kw_302) (hts _ kw_180) (hts _ kw_181) rfl (by rw [hml]; exact hl.1) rfl dX8_init_1 (by decide) (Nat.le_of_ble_eq_true rfl) ?_
  refine W.eq (g2 := F0 m 4 ls []) rfl ?_
  refine lv_aload_n hx hb dX8_init_4 rfl (lv_at hl 0 rfl) ?_
  refine va_new (D := D) (ci := 9) (fs := [.null, .null, .null, .null, .int 0]) (C := RX9) (T := TX9) (N := 5) hx hb hts inX9 tyX9 tyX9_ok hown (hts _ kw_303) (hts _ kw_304) (hts _ kw_158) hK hP hD hS hA rfl dfX9 (by decide) (by decide) dX8_init_5 (fun a5_1 H hP hD hS => ?_)
  have hP : va_P D vwCl [(h0, .inr (8, [.null, .null, .null, .int 0, .int 0, .int 0, .int 0, .int 0, .int 0, .int 0, .int 0])), (a5_1, .inr (9, [.null, .null, .null, .null, .int 0]))] H := hP
  have hD : va_D A [(h0, .inr (8, [.null, .null, .null, .int 0, .int 0, .int 0, .int 0, .int 0, .int 0, .int 0, .int 0])), (a5_1, .inr (9, [.null, .null, .null, .null, .int 0]))] := hD
  refine W.cs (cells' := 1) (slots' := 5) rfl rfl ?_
  refine lv_dup hx hb dX8_init_8 rfl ?_
  refine wr_I (As := []) (rest := [.ref a5_1, .ref h0]) caI_SignalTable_Reader_11 hx hb hml hown hts hP hD hK hS hA (isC := [1]) (isR := [0]) (isT := []) (wr := [(h0, .inr (8, [.null, .null, .null, .int 0, .int 0, .int 0, .int 0, .int 0, .int 0, .int 0, .int 0]))]) ⟨rfl, rfl, rfl, rfl, by decide⟩ rfl (wX9_init a5_1 a v f fm) ES_bl (ES_of hE.1 hE2 hS (va_free hD hS hA [1] rfl)) (by decide) rfl hl.1 (Nat.le_of_ble_eq_true rfl) (by decide) dX8_init_9 rfl (fun q2 k2 g2 l2 H locs hP hD hK hS => ?_)
  have hP : va_P D vwCl [(h0, .inr (8, [.null, .null, .null, .int 0, .int 0, .int 0, .int 0, .int 0, .int 0, .int 0, .int 0])), (a5_1, .inr (9, [.ref (q2 0), .ref (q2 1), .ref (q2 2), .ref (q2 3), .int 0])), ((q2 0), .inl ((k2 0), 402, .inl (fun _ => 0))), ((q2 1), .inl ((k2 1), 402, .inl (fun _ => 0))), ((q2 2), .inl ((k2 2), 402, .inr (.inl (fun _ => 0)))), ((q2 3), .inl ((k2 3), 22, .inr (.inl (wdG f))))] H := hP
  have hD : va_D A [(h0, .inr (8, [.null, .null, .null, .int 0, .int 0, .int 0, .int 0, .int 0, .int 0, .int 0, .int 0])), (a5_1, .inr (9, [.ref (q2 0), .ref (q2 1), .ref (q2 2), .ref (q2 3), .int 0])), ((q2 0), .inl ((k2 0), 402, .inl (fun _ => 0))), ((q2 1), .inl ((k2 1), 402, .inl (fun _ => 0))), ((q2 2), .inl ((k2 2), 402, .inr (.inl (fun _ => 0)))), ((q2 3), .inl ((k2 3), 22, .inr (.inl (wdG f))))] := hD
  have hK : va_K D vwCl [((k2 0), .int), ((k2 1), .int), ((k2 2), .long), ((k2 3), .long)] s := hK
  refine W.cs (cells' := 5) (slots' := 1233) rfl rfl ?_
  refine va_putF (D := D) (ci := 8) (v := .ref a5_1) (ty := .object "SignalTable$Tokens") (C := RX8) (T := TX8) (N := 11) hx hb hts inX8 tyX8 tyX8_ok nmX8 hown hK hP hD hS 0 rfl rfl 0 (by decide) (hts _ kw_379) (fun _ h9 => h9) rfl hin rfl (by decide +kernel) rfl rfl (Nat.le_of_ble_eq_true rfl) dX8_init_12 (fun H locs hP hD hS => ?_)
  have hP : va_P D vwCl [(h0, .inr (8, [.ref a5_1, .null, .null, .int 0, .int 0, .int 0, .int 0, .int 0, .int 0, .int 0, .int 0])), (a5_1, .inr (9, [.ref (q2 0), .ref (q2 1), .ref (q2 2), .ref (q2 3), .int 0])), ((q2 0), .inl ((k2 0), 402, .inl (fun _ => 0))), ((q2 1), .inl ((k2 1), 402, .inl (fun _ => 0))), ((q2 2), .inl ((k2 2), 402, .inr (.inl (fun _ => 0)))), ((q2 3), .inl ((k2 3), 22, .inr (.inl (wdG f))))] H := hP
  have hD : va_D A [(h0, .inr (8, [.ref a5_1, .null, .null, .int 0, .int 0, .int 0, .int 0, .int 0, .int 0, .int 0, .int 0])), (a5_1, .inr (9, [.ref (q2 0), .ref (q2 1), .ref (q2 2), .ref (q2 3), .int 0])), ((q2 0), .inl ((k2 0), 402, .inl (fun _ => 0))), ((q2 1), .inl ((k2 1), 402, .inl (fun _ => 0))), ((q2 2), .inl ((k2 2), 402, .inr (.inl (fun _ => 0)))), ((q2 3), .inl ((k2 3), 22, .inr (.inl (wdG f))))] := hD
  refine lv_aload_n hx hb dX8_init_15 rfl (lv_at hl 0 rfl) ?_
  refine lv_bipush (v := 6) hx hb dX8_init_16 (by decide) ?_
  refine va_newa (atype := .long) (a0 := (6, .inr (.inl (fun _ => 0)))) (ty := .long) hx hb (hts _ kw_378) rfl hK hP hD hS hA (fun _ => rfl) (by decide) (by decide) (by decide) (by decide) (by decide) dX8_init_18 (fun a18_3 k18_3 H hK hP hD hS => ?_)
  have hP : va_P D vwCl [(h0, .inr (8, [.ref a5_1, .null, .null, .int 0, .int 0, .int 0, .int 0, .int 0, .int 0, .int 0, .int 0])), (a5_1, .inr (9, [.ref (q2 0), .ref (q2 1), .ref (q2 2), .ref (q2 3), .int 0])), ((q2 0), .inl ((k2 0), 402, .inl (fun _ => 0))), ((q2 1), .inl ((k2 1), 402, .inl (fun _ => 0))), ((q2 2), .inl ((k2 2), 402, .inr (.inl (fun _ => 0)))), ((q2 3), .inl ((k2 3), 22, .inr (.inl (wdG f)))), (a18_3, .inl (k18_3, 6, .inr (.inl (fun _ => 0))))] H := hP
  have hD : va_D A [(h0, .inr (8, [.ref a5_1, .null, .null, .int 0, .int 0, .int 0, .int 0, .int 0, .int 0, .int 0, .int 0])), (a5_1, .inr (9, [.ref (q2 0), .ref (q2 1), .ref (q2 2), .ref (q2 3), .int 0])), ((q2 0), .inl ((k2 0), 402, .inl (fun _ => 0))), ((q2 1), .inl ((k2 1), 402, .inl (fun _ => 0))), ((q2 2), .inl ((k2 2), 402, .inr (.inl (fun _ => 0)))), ((q2 3), .inl ((k2 3), 22, .inr (.inl (wdG f)))), (a18_3, .inl (k18_3, 6, .inr (.inl (fun _ => 0))))] := hD
  have hK : va_K D vwCl [((k2 0), .int), ((k2 1), .int), ((k2 2), .long), ((k2 3), .long), (k18_3, .long)] s := hK
  refine W.cs (cells' := 6) (slots' := 1239) rfl rfl ?_
  refine va_putF (D := D) (ci := 8) (v := .ref a18_3) (ty := .array .long) (C := RX8) (T := TX8) (N := 11) hx hb hts inX8 tyX8 tyX8_ok nmX8 hown hK hP hD hS 0 rfl rfl 2 (by decide) (hts _ kw_381) (fun _ h9 => h9) rfl hin rfl (by decide +kernel) rfl rfl (Nat.le_of_ble_eq_true rfl) dX8_init_20 (fun H locs hP hD hS => ?_)
  have hP : va_P D vwCl [(h0, .inr (8, [.ref a5_1, .null, .ref a18_3, .int 0, .int 0, .int 0, .int 0, .int 0, .int 0, .int 0, .int 0])), (a5_1, .inr (9, [.ref (q2 0), .ref (q2 1), .ref (q2 2), .ref (q2 3), .int 0])), ((q2 0), .inl ((k2 0), 402, .inl (fun _ => 0))), ((q2 1), .inl ((k2 1), 402, .inl (fun _ => 0))), ((q2 2), .inl ((k2 2), 402, .inr (.inl (fun _ => 0)))), ((q2 3), .inl ((k2 3), 22, .inr (.inl (wdG f)))), (a18_3, .inl (k18_3, 6, .inr (.inl (fun _ => 0))))] H := hP
  have hD : va_D A [(h0, .inr (8, [.ref a5_1, .null, .ref a18_3, .int 0, .int 0, .int 0, .int 0, .int 0, .int 0, .int 0, .int 0])), (a5_1, .inr (9, [.ref (q2 0), .ref (q2 1), .ref (q2 2), .ref (q2 3), .int 0])), ((q2 0), .inl ((k2 0), 402, .inl (fun _ => 0))), ((q2 1), .inl ((k2 1), 402, .inl (fun _ => 0))), ((q2 2), .inl ((k2 2), 402, .inr (.inl (fun _ => 0)))), ((q2 3), .inl ((k2 3), 22, .inr (.inl (wdG f)))), (a18_3, .inl (k18_3, 6, .inr (.inl (fun _ => 0))))] := hD
  refine lv_aload_n hx hb dX8_init_23 rfl (lv_at hl 0 rfl) ?_
  refine W.eq (g2 := F0 m 24 ls [.ref h0]) rfl ?_
  refine lv_iconst (v := (-1)) hx hb dX8_init_24 (by decide) ?_
  refine va_put (D := D) (ci := 8) (v := .int (-1)) (ty := .int) (C := RX8) (T := TX8) (N := 11) hx hb hts inX8 tyX8 tyX8_ok nmX8 hown hK hP hD hS 0 rfl rfl 8 (by decide) (hts _ kw_387) (fun _ h9 => h9) rfl (by decide +kernel) rfl rfl (Nat.le_of_ble_eq_true rfl) dX8_init_25 (fun H locs hP hD hS => ?_)
  have hP : va_P D vwCl [(h0, .inr (8, [.ref a5_1, .null, .ref a18_3, .int 0, .int 0, .int 0, .int 0, .int 0, .int (-1), .int 0, .int 0])), (a5_1, .inr (9, [.ref (q2 0), .ref (q2 1), .ref (q2 2), .ref (q2 3), .int 0])), ((q2 0), .inl ((k2 0), 402, .inl (fun _ => 0))), ((q2 1), .inl ((k2 1), 402, .inl (fun _ => 0))), ((q2 2), .inl ((k2 2), 402, .inr (.inl (fun _ => 0)))), ((q2 3), .inl ((k2 3), 22, .inr (.inl (wdG f)))), (a18_3, .inl (k18_3, 6, .inr (.inl (fun _ => 0))))] H := hP
  have hD : va_D A [(h0, .inr (8, [.ref a5_1, .null, .ref a18_3, .int 0, .int 0, .int 0, .int 0, .int 0, .int (-1), .int 0, .int 0])), (a5_1, .inr (9, [.ref (q2 0), .ref (q2 1), .ref (q2 2), .ref (q2 3), .int 0])), ((q2 0), .inl ((k2 0), 402, .inl (fun _ => 0))), ((q2 1), .inl ((k2 1), 402, .inl (fun _ => 0))), ((q2 2), .inl ((k2 2), 402, .inr (.inl (fun _ => 0)))), ((q2 3), .inl ((k2 3), 22, .inr (.inl (wdG f)))), (a18_3, .inl (k18_3, 6, .inr (.inl (fun _ => 0))))] := hD
  refine lv_aload_n hx hb dX8_init_28 rfl (lv_at hl 0 rfl) ?_
  refine lv_aload_n hx hb dX8_init_29 rfl (lv_at hl 1 rfl) ?_
  refine va_putF (D := D) (ci := 8) (v := .ref a1) (ty := .object "SignalTable$Laws") (C := RX8) (T := TX8) (N := 11) hx hb hts inX8 tyX8 tyX8_ok nmX8 hown hK hP hD hS 0 rfl rfl 1 (by decide) (hts _ kw_380) (fun _ h9 => h9) rfl hin rfl (by decide +kernel) rfl rfl (Nat.le_of_ble_eq_true rfl) dX8_init_30 (fun H locs hP hD hS => ?_)
  have hP : va_P D vwCl [(h0, .inr (8, [.ref a5_1, .ref a1, .ref a18_3, .int 0, .int 0, .int 0, .int 0, .int 0, .int (-1), .int 0, .int 0])), (a5_1, .inr (9, [.ref (q2 0), .ref (q2 1), .ref (q2 2), .ref (q2 3), .int 0])), ((q2 0), .inl ((k2 0), 402, .inl (fun _ => 0))), ((q2 1), .inl ((k2 1), 402, .inl (fun _ => 0))), ((q2 2), .inl ((k2 2), 402, .inr (.inl (fun _ => 0)))), ((q2 3), .inl ((k2 3), 22, .inr (.inl (wdG f)))), (a18_3, .inl (k18_3, 6, .inr (.inl (fun _ => 0))))] H := hP
  have hD : va_D A [(h0, .inr (8, [.ref a5_1, .ref a1, .ref a18_3, .int 0, .int 0, .int 0, .int 0, .int 0, .int (-1), .int 0, .int 0])), (a5_1, .inr (9, [.ref (q2 0), .ref (q2 1), .ref (q2 2), .ref (q2 3), .int 0])), ((q2 0), .inl ((k2 0), 402, .inl (fun _ => 0))), ((q2 1), .inl ((k2 1), 402, .inl (fun _ => 0))), ((q2 2), .inl ((k2 2), 402, .inr (.inl (fun _ => 0)))), ((q2 3), .inl ((k2 3), 22, .inr (.inl (wdG f)))), (a18_3, .inl (k18_3, 6, .inr (.inl (fun _ => 0))))] := hD
  exact wr_v (q := (fun i => match i with | 0 => a5_1 | 1 => a18_3 | 2 => (q2 0) | 3 => (q2 1) | 4 => (q2 2) | 5 => (q2 3) | _ => 0)) (k := (fun i => match i with | 1 => k18_3 | 2 => (k2 0) | 3 => (k2 1) | 4 => (k2 2) | 5 => (k2 3) | _ => k18_3)) (g := (fun _ => fun _ => 0)) (gl := (fun i => match i with | 5 => (wdG f) | _ => fun _ => 0)) hx hb hr hlocks hS (hP.sub [0, 1, 6, 2, 3, 4, 5] rfl) (hK.sub [4, 0, 1, 2, 3] rfl) (hD.sub [0, 1, 6, 2, 3, 4, 5] (by decide) rfl) dX8_init_33
