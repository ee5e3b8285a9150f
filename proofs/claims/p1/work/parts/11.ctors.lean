set_option maxHeartbeats 4000000 in
set_option maxRecDepth 100000 in
theorem wX5_init {l : Launch} {D : va_G} {sz : Nat} (h0 : Nat) : Wv l yX5_init cX5_init 1 1 8 2276 D [(h0, .inr (5, [.int 0, .int 0, .int 0, .int 0, .null, .null, .null, .null, .null, .int 0, .int 0, .int 0, .null, .null, .null, .int 0]))] [] [.ref h0] sz (fun _ => True) (fun q k g gl => [(h0, .inr (5, [.int 0, .int 0, .int 0, .int 0, .ref (q 0), .ref (q 1), .ref (q 2), .ref (q 3), .ref (q 4), .int 0, .int 0, .int 0, .ref (q 5), .ref (q 6), .ref (q 7), .int 0])), ((q 5), .inl ((k 5), 4, .inl (fun _ => 0))), ((q 6), .inl ((k 6), 16, .inl (fun _ => 0))), ((q 7), .inl ((k 7), 1820, .inl (fun _ => 0)))]) (fun k => [((k 5), .int), ((k 6), .int), ((k 7), .int)]) := by
  refine Wv.of (by decide) (Nat.le_of_ble_eq_true rfl) ?_
  intro p e s m below meth c ls A hx hb hr hml hown hts hlocks hin hP hK hD hA hS hE hAe hl
  have hown : s.vm.findClass "SignalTable$Laws" = some m.cls := hown
  have hin : meth.name = "<init>" := hin
  skip
  have hl : lv_has ls 1 [(0, .ref h0)] := hl
  refine lv_aload_n hx hb dX5_init_0 rfl (lv_at hl 0 rfl) ?_
  refine W.objInit hx hb hown (hts _ kw_187) (hts _ kw_180) (hts _ kw_181) rfl (by rw [hml]; exact hl.1) rfl dX5_init_1 (by decide) (Nat.le_of_ble_eq_true rfl) ?_
  refine W.eq (g2 := F0 m 4 ls []) rfl ?_
  refine lv_aload_n hx hb dX5_init_4 rfl (lv_at hl 0 rfl) ?_
  refine lv_bipush (v := 6) hx hb dX5_init_5 (by decide) ?_
  refine va_newa (atype := .int) (a0 := (6, .inl (fun _ => 0))) (ty := .int) hx hb (hts _ kw_280) rfl hK hP hD hS hA (fun _ => rfl) (by decide) (by decide) (by decide) (by decide) (by decide) dX5_init_7 (fun a7_1 k7_1 H hK hP hD hS => ?_)
  have hP : va_P D vwCl [(h0, .inr (5, [.int 0, .int 0, .int 0, .int 0, .null, .null, .null, .null, .null, .int 0, .int 0, .int 0, .null, .null, .null, .int 0])), (a7_1, .inl (k7_1, 6, .inl (fun _ => 0)))] H := hP
  have hD : va_D A [(h0, .inr (5, [.int 0, .int 0, .int 0, .int 0, .null, .null, .null, .null, .null, .int 0, .int 0, .int 0, .null, .null, .null, .int 0])), (a7_1, .inl (k7_1, 6, .inl (fun _ => 0)))] := hD
  have hK : va_K D vwCl [(k7_1, .int)] s := hK
  refine W.cs (cells' := 1) (slots' := 6) rfl rfl ?_
  refine va_putF (D := D) (ci := 5) (v := .ref a7_1) (ty := .array .int) (C := RX5) (T := TX5) (N := 16) hx hb hts inX5 tyX5 tyX5_ok nmX5 hown hK hP hD hS 0 rfl rfl 4 (by decide) (hts _ kw_205) (fun _ h9 => h9) rfl hin rfl (by decide +kernel) rfl rfl (Nat.le_of_ble_eq_true rfl) dX5_init_9 (fun H locs hP hD hS => ?_)
  have hP : va_P D vwCl [(h0, .inr (5, [.int 0, .int 0, .int 0, .int 0, .ref a7_1, .null, .null, .null, .null, .int 0, .int 0, .int 0, .null, .null, .null, .int 0])), (a7_1, .inl (k7_1, 6, .inl (fun _ => 0)))] H := hP
  have hD : va_D A [(h0, .inr (5, [.int 0, .int 0, .int 0, .int 0, .ref a7_1, .null, .null, .null, .null, .int 0, .int 0, .int 0, .null, .null, .null, .int 0])), (a7_1, .inl (k7_1, 6, .inl (fun _ => 0)))] := hD
  refine lv_aload_n hx hb dX5_init_12 rfl (lv_at hl 0 rfl) ?_
  refine lv_bipush (v := 6) hx hb dX5_init_13 (by decide) ?_
  refine va_newa (atype := .int) (a0 := (6, .inl (fun _ => 0))) (ty := .int) hx hb (hts _ kw_280) rfl hK hP hD hS hA (fun _ => rfl) (by decide) (by decide) (by decide) (by decide) (by decide) dX5_init_15 (fun a15_2 k15_2 H hK hP hD hS => ?_)
  have hP : va_P D vwCl [(h0, .inr (5, [.int 0, .int 0, .int 0, .int 0, .ref a7_1, .null, .null, .null, .null, .int 0, .int 0, .int 0, .null, .null, .null, .int 0])), (a7_1, .inl (k7_1, 6, .inl (fun _ => 0))), (a15_2, .inl (k15_2, 6, .inl (fun _ => 0)))] H := hP
  have hD : va_D A [(h0, .inr (5, [.int 0, .int 0, .int 0, .int 0, .ref a7_1, .null, .null, .null, .null, .int 0, .int 0, .int 0, .null, .null, .null, .int 0])), (a7_1, .inl (k7_1, 6, .inl (fun _ => 0))), (a15_2, .inl (k15_2, 6, .inl (fun _ => 0)))] := hD
  have hK : va_K D vwCl [(k7_1, .int), (k15_2, .int)] s := hK
  refine W.cs (cells' := 2) (slots' := 12) rfl rfl ?_
  refine va_putF (D := D) (ci := 5) (v := .ref a15_2) (ty := .array .int) (C := RX5) (T := TX5) (N := 16) hx hb hts inX5 tyX5 tyX5_ok nmX5 hown hK hP hD hS 0 rfl rfl 5 (by decide) (hts _ kw_208) (fun _ h9 => h9) rfl hin rfl (by decide +kernel) rfl rfl (Nat.le_of_ble_eq_true rfl) dX5_init_17 (fun H locs hP hD hS => ?_)
  have hP : va_P D vwCl [(h0, .inr (5, [.int 0, .int 0, .int 0, .int 0, .ref a7_1, .ref a15_2, .null, .null, .null, .int 0, .int 0, .int 0, .null, .null, .null, .int 0])), (a7_1, .inl (k7_1, 6, .inl (fun _ => 0))), (a15_2, .inl (k15_2, 6, .inl (fun _ => 0)))] H := hP
  have hD : va_D A [(h0, .inr (5, [.int 0, .int 0, .int 0, .int 0, .ref a7_1, .ref a15_2, .null, .null, .null, .int 0, .int 0, .int 0, .null, .null, .null, .int 0])), (a7_1, .inl (k7_1, 6, .inl (fun _ => 0))), (a15_2, .inl (k15_2, 6, .inl (fun _ => 0)))] := hD
  refine lv_aload_n hx hb dX5_init_20 rfl (lv_at hl 0 rfl) ?_
  refine lv_bipush (v := 12) hx hb dX5_init_21 (by decide) ?_
  refine W.eq (g2 := F0 m 23 ls [.int 12, .ref h0]) rfl ?_
  refine va_newa (atype := .int) (a0 := (12, .inl (fun _ => 0))) (ty := .int) hx hb (hts _ kw_280) rfl hK hP hD hS hA (fun _ => rfl) (by decide) (by decide) (by decide) (by decide) (by decide) dX5_init_23 (fun a23_3 k23_3 H hK hP hD hS => ?_)
  have hP : va_P D vwCl [(h0, .inr (5, [.int 0, .int 0, .int 0, .int 0, .ref a7_1, .ref a15_2, .null, .null, .null, .int 0, .int 0, .int 0, .null, .null, .null, .int 0])), (a7_1, .inl (k7_1, 6, .inl (fun _ => 0))), (a15_2, .inl (k15_2, 6, .inl (fun _ => 0))), (a23_3, .inl (k23_3, 12, .inl (fun _ => 0)))] H := hP
  have hD : va_D A [(h0, .inr (5, [.int 0, .int 0, .int 0, .int 0, .ref a7_1, .ref a15_2, .null, .null, .null, .int 0, .int 0, .int 0, .null, .null, .null, .int 0])), (a7_1, .inl (k7_1, 6, .inl (fun _ => 0))), (a15_2, .inl (k15_2, 6, .inl (fun _ => 0))), (a23_3, .inl (k23_3, 12, .inl (fun _ => 0)))] := hD
  have hK : va_K D vwCl [(k7_1, .int), (k15_2, .int), (k23_3, .int)] s := hK
  refine W.cs (cells' := 3) (slots' := 24) rfl rfl ?_
  refine va_putF (D := D) (ci := 5) (v := .ref a23_3) (ty := .array .int) (C := RX5) (T := TX5) (N := 16) hx hb hts inX5 tyX5 tyX5_ok nmX5 hown hK hP hD hS 0 rfl rfl 6 (by decide) (hts _ kw_212) (fun _ h9 => h9) rfl hin rfl (by decide +kernel) rfl rfl (Nat.le_of_ble_eq_true rfl) dX5_init_25 (fun H locs hP hD hS => ?_)
  have hP : va_P D vwCl [(h0, .inr (5, [.int 0, .int 0, .int 0, .int 0, .ref a7_1, .ref a15_2, .ref a23_3, .null, .null, .int 0, .int 0, .int 0, .null, .null, .null, .int 0])), (a7_1, .inl (k7_1, 6, .inl (fun _ => 0))), (a15_2, .inl (k15_2, 6, .inl (fun _ => 0))), (a23_3, .inl (k23_3, 12, .inl (fun _ => 0)))] H := hP
  have hD : va_D A [(h0, .inr (5, [.int 0, .int 0, .int 0, .int 0, .ref a7_1, .ref a15_2, .ref a23_3, .null, .null, .int 0, .int 0, .int 0, .null, .null, .null, .int 0])), (a7_1, .inl (k7_1, 6, .inl (fun _ => 0))), (a15_2, .inl (k15_2, 6, .inl (fun _ => 0))), (a23_3, .inl (k23_3, 12, .inl (fun _ => 0)))] := hD
  refine lv_aload_n hx hb dX5_init_28 rfl (lv_at hl 0 rfl) ?_
  refine lv_bipush (v := 12) hx hb dX5_init_29 (by decide) ?_
  refine va_newa (atype := .int) (a0 := (12, .inl (fun _ => 0))) (ty := .int) hx hb (hts _ kw_280) rfl hK hP hD hS hA (fun _ => rfl) (by decide) (by decide) (by decide) (by decide) (by decide) dX5_init_31 (fun a31_4 k31_4 H hK hP hD hS => ?_)
  have hP : va_P D vwCl [(h0, .inr (5, [.int 0, .int 0, .int 0, .int 0, .ref a7_1, .ref a15_2, .ref a23_3, .null, .null, .int 0, .int 0, .int 0, .null, .null, .null, .int 0])), (a7_1, .inl (k7_1, 6, .inl (fun _ => 0))), (a15_2, .inl (k15_2, 6, .inl (fun _ => 0))), (a23_3, .inl (k23_3, 12, .inl (fun _ => 0))), (a31_4, .inl (k31_4, 12, .inl (fun _ => 0)))] H := hP
  have hD : va_D A [(h0, .inr (5, [.int 0, .int 0, .int 0, .int 0, .ref a7_1, .ref a15_2, .ref a23_3, .null, .null, .int 0, .int 0, .int 0, .null, .null, .null, .int 0])), (a7_1, .inl (k7_1, 6, .inl (fun _ => 0))), (a15_2, .inl (k15_2, 6, .inl (fun _ => 0))), (a23_3, .inl (k23_3, 12, .inl (fun _ => 0))), (a31_4, .inl (k31_4, 12, .inl (fun _ => 0)))] := hD
  have hK : va_K D vwCl [(k7_1, .int), (k15_2, .int), (k23_3, .int), (k31_4, .int)] s := hK
  refine W.cs (cells' := 4) (slots' := 36) rfl rfl ?_
  refine va_putF (D := D) (ci := 5) (v := .ref a31_4) (ty := .array .int) (C := RX5) (T := TX5) (N := 16) hx hb hts inX5 tyX5 tyX5_ok nmX5 hown hK hP hD hS 0 rfl rfl 7 (by decide) (hts _ kw_214) (fun _ h9 => h9) rfl hin rfl (by decide +kernel) rfl rfl (Nat.le_of_ble_eq_true rfl) dX5_init_33 (fun H locs hP hD hS => ?_)
  have hP : va_P D vwCl [(h0, .inr (5, [.int 0, .int 0, .int 0, .int 0, .ref a7_1, .ref a15_2, .ref a23_3, .ref a31_4, .null, .int 0, .int 0, .int 0, .null, .null, .null, .int 0])), (a7_1, .inl (k7_1, 6, .inl (fun _ => 0))), (a15_2, .inl (k15_2, 6, .inl (fun _ => 0))), (a23_3, .inl (k23_3, 12, .inl (fun _ => 0))), (a31_4, .inl (k31_4, 12, .inl (fun _ => 0)))] H := hP
  have hD : va_D A [(h0, .inr (5, [.int 0, .int 0, .int 0, .int 0, .ref a7_1, .ref a15_2, .ref a23_3, .ref a31_4, .null, .int 0, .int 0, .int 0, .null, .null, .null, .int 0])), (a7_1, .inl (k7_1, 6, .inl (fun _ => 0))), (a15_2, .inl (k15_2, 6, .inl (fun _ => 0))), (a23_3, .inl (k23_3, 12, .inl (fun _ => 0))), (a31_4, .inl (k31_4, 12, .inl (fun _ => 0)))] := hD
  refine lv_aload_n hx hb dX5_init_36 rfl (lv_at hl 0 rfl) ?_
  refine lv_sipush (v := 400) hx hb dX5_init_37 (by decide) ?_
  refine va_newa (atype := .int) (a0 := (400, .inl (fun _ => 0))) (ty := .int) hx hb (hts _ kw_280) rfl hK hP hD hS hA (fun _ => rfl) (by decide) (by decide) (by decide) (by decide) (by decide) dX5_init_40 (fun a40_5 k40_5 H hK hP hD hS => ?_)
  have hP : va_P D vwCl [(h0, .inr (5, [.int 0, .int 0, .int 0, .int 0, .ref a7_1, .ref a15_2, .ref a23_3, .ref a31_4, .null, .int 0, .int 0, .int 0, .null, .null, .null, .int 0])), (a7_1, .inl (k7_1, 6, .inl (fun _ => 0))), (a15_2, .inl (k15_2, 6, .inl (fun _ => 0))), (a23_3, .inl (k23_3, 12, .inl (fun _ => 0))), (a31_4, .inl (k31_4, 12, .inl (fun _ => 0))), (a40_5, .inl (k40_5, 400, .inl (fun _ => 0)))] H := hP
  have hD : va_D A [(h0, .inr (5, [.int 0, .int 0, .int 0, .int 0, .ref a7_1, .ref a15_2, .ref a23_3, .ref a31_4, .null, .int 0, .int 0, .int 0, .null, .null, .null, .int 0])), (a7_1, .inl (k7_1, 6, .inl (fun _ => 0))), (a15_2, .inl (k15_2, 6, .inl (fun _ => 0))), (a23_3, .inl (k23_3, 12, .inl (fun _ => 0))), (a31_4, .inl (k31_4, 12, .inl (fun _ => 0))), (a40_5, .inl (k40_5, 400, .inl (fun _ => 0)))] := hD
  have hK : va_K D vwCl [(k7_1, .int), (k15_2, .int), (k23_3, .int), (k31_4, .int), (k40_5, .int)] s := hK
  refine W.cs (cells' := 5) (slots' := 436) rfl rfl ?_
  refine va_putF (D := D) (ci := 5) (v := .ref a40_5) (ty := .array .int) (C := RX5) (T := TX5) (N := 16) hx hb hts inX5 tyX5 tyX5_ok nmX5 hown hK hP hD hS 0 rfl rfl 8 (by decide) (hts _ kw_216) (fun _ h9 => h9) rfl hin rfl (by decide +kernel) rfl rfl (Nat.le_of_ble_eq_true rfl) dX5_init_42 (fun H locs hP hD hS => ?_)
  have hP : va_P D vwCl [(h0, .inr (5, [.int 0, .int 0, .int 0, .int 0, .ref a7_1, .ref a15_2, .ref a23_3, .ref a31_4, .ref a40_5, .int 0, .int 0, .int 0, .null, .null, .null, .int 0])), (a7_1, .inl (k7_1, 6, .inl (fun _ => 0))), (a15_2, .inl (k15_2, 6, .inl (fun _ => 0))), (a23_3, .inl (k23_3, 12, .inl (fun _ => 0))), (a31_4, .inl (k31_4, 12, .inl (fun _ => 0))), (a40_5, .inl (k40_5, 400, .inl (fun _ => 0)))] H := hP
  have hD : va_D A [(h0, .inr (5, [.int 0, .int 0, .int 0, .int 0, .ref a7_1, .ref a15_2, .ref a23_3, .ref a31_4, .ref a40_5, .int 0, .int 0, .int 0, .null, .null, .null, .int 0])), (a7_1, .inl (k7_1, 6, .inl (fun _ => 0))), (a15_2, .inl (k15_2, 6, .inl (fun _ => 0))), (a23_3, .inl (k23_3, 12, .inl (fun _ => 0))), (a31_4, .inl (k31_4, 12, .inl (fun _ => 0))), (a40_5, .inl (k40_5, 400, .inl (fun _ => 0)))] := hD
  refine W.eq (g2 := F0 m 45 ls []) rfl ?_
  refine lv_aload_n hx hb dX5_init_45 rfl (lv_at hl 0 rfl) ?_
  refine lv_iconst (v := 4) hx hb dX5_init_46 (by decide) ?_
  refine va_newa (atype := .int) (a0 := (4, .inl (fun _ => 0))) (ty := .int) hx hb (hts _ kw_280) rfl hK hP hD hS hA (fun _ => rfl) (by decide) (by decide) (by decide) (by decide) (by decide) dX5_init_47 (fun a47_6 k47_6 H hK hP hD hS => ?_)
  have hP : va_P D vwCl [(h0, .inr (5, [.int 0, .int 0, .int 0, .int 0, .ref a7_1, .ref a15_2, .ref a23_3, .ref a31_4, .ref a40_5, .int 0, .int 0, .int 0, .null, .null, .null, .int 0])), (a7_1, .inl (k7_1, 6, .inl (fun _ => 0))), (a15_2, .inl (k15_2, 6, .inl (fun _ => 0))), (a23_3, .inl (k23_3, 12, .inl (fun _ => 0))), (a31_4, .inl (k31_4, 12, .inl (fun _ => 0))), (a40_5, .inl (k40_5, 400, .inl (fun _ => 0))), (a47_6, .inl (k47_6, 4, .inl (fun _ => 0)))] H := hP
  have hD : va_D A [(h0, .inr (5, [.int 0, .int 0, .int 0, .int 0, .ref a7_1, .ref a15_2, .ref a23_3, .ref a31_4, .ref a40_5, .int 0, .int 0, .int 0, .null, .null, .null, .int 0])), (a7_1, .inl (k7_1, 6, .inl (fun _ => 0))), (a15_2, .inl (k15_2, 6, .inl (fun _ => 0))), (a23_3, .inl (k23_3, 12, .inl (fun _ => 0))), (a31_4, .inl (k31_4, 12, .inl (fun _ => 0))), (a40_5, .inl (k40_5, 400, .inl (fun _ => 0))), (a47_6, .inl (k47_6, 4, .inl (fun _ => 0)))] := hD
  have hK : va_K D vwCl [(k7_1, .int), (k15_2, .int), (k23_3, .int), (k31_4, .int), (k40_5, .int), (k47_6, .int)] s := hK
  refine W.cs (cells' := 6) (slots' := 440) rfl rfl ?_
  refine va_putF (D := D) (ci := 5) (v := .ref a47_6) (ty := .array .int) (C := RX5) (T := TX5) (N := 16) hx hb hts inX5 tyX5 tyX5_ok nmX5 hown hK hP hD hS 0 rfl rfl 12 (by decide) (hts _ kw_231) (fun _ h9 => h9) rfl hin rfl (by decide +kernel) rfl rfl (Nat.le_of_ble_eq_true rfl) dX5_init_49 (fun H locs hP hD hS => ?_)
  have hP : va_P D vwCl [(h0, .inr (5, [.int 0, .int 0, .int 0, .int 0, .ref a7_1, .ref a15_2, .ref a23_3, .ref a31_4, .ref a40_5, .int 0, .int 0, .int 0, .ref a47_6, .null, .null, .int 0])), (a7_1, .inl (k7_1, 6, .inl (fun _ => 0))), (a15_2, .inl (k15_2, 6, .inl (fun _ => 0))), (a23_3, .inl (k23_3, 12, .inl (fun _ => 0))), (a31_4, .inl (k31_4, 12, .inl (fun _ => 0))), (a40_5, .inl (k40_5, 400, .inl (fun _ => 0))), (a47_6, .inl (k47_6, 4, .inl (fun _ => 0)))] H := hP
  have hD : va_D A [(h0, .inr (5, [.int 0, .int 0, .int 0, .int 0, .ref a7_1, .ref a15_2, .ref a23_3, .ref a31_4, .ref a40_5, .int 0, .int 0, .int 0, .ref a47_6, .null, .null, .int 0])), (a7_1, .inl (k7_1, 6, .inl (fun _ => 0))), (a15_2, .inl (k15_2, 6, .inl (fun _ => 0))), (a23_3, .inl (k23_3, 12, .inl (fun _ => 0))), (a31_4, .inl (k31_4, 12, .inl (fun _ => 0))), (a40_5, .inl (k40_5, 400, .inl (fun _ => 0))), (a47_6, .inl (k47_6, 4, .inl (fun _ => 0)))] := hD
  refine lv_aload_n hx hb dX5_init_52 rfl (lv_at hl 0 rfl) ?_
  refine lv_bipush (v := 16) hx hb dX5_init_53 (by decide) ?_
  refine va_newa (atype := .int) (a0 := (16, .inl (fun _ => 0))) (ty := .int) hx hb (hts _ kw_280) rfl hK hP hD hS hA (fun _ => rfl) (by decide) (by decide) (by decide) (by decide) (by decide) dX5_init_55 (fun a55_7 k55_7 H hK hP hD hS => ?_)
  have hP : va_P D vwCl [(h0, .inr (5, [.int 0, .int 0, .int 0, .int 0, .ref a7_1, .ref a15_2, .ref a23_3, .ref a31_4, .ref a40_5, .int 0, .int 0, .int 0, .ref a47_6, .null, .null, .int 0])), (a7_1, .inl (k7_1, 6, .inl (fun _ => 0))), (a15_2, .inl (k15_2, 6, .inl (fun _ => 0))), (a23_3, .inl (k23_3, 12, .inl (fun _ => 0))), (a31_4, .inl (k31_4, 12, .inl (fun _ => 0))), (a40_5, .inl (k40_5, 400, .inl (fun _ => 0))), (a47_6, .inl (k47_6, 4, .inl (fun _ => 0))), (a55_7, .inl (k55_7, 16, .inl (fun _ => 0)))] H := hP
  have hD : va_D A [(h0, .inr (5, [.int 0, .int 0, .int 0, .int 0, .ref a7_1, .ref a15_2, .ref a23_3, .ref a31_4, .ref a40_5, .int 0, .int 0, .int 0, .ref a47_6, .null, .null, .int 0])), (a7_1, .inl (k7_1, 6, .inl (fun _ => 0))), (a15_2, .inl (k15_2, 6, .inl (fun _ => 0))), (a23_3, .inl (k23_3, 12, .inl (fun _ => 0))), (a31_4, .inl (k31_4, 12, .inl (fun _ => 0))), (a40_5, .inl (k40_5, 400, .inl (fun _ => 0))), (a47_6, .inl (k47_6, 4, .inl (fun _ => 0))), (a55_7, .inl (k55_7, 16, .inl (fun _ => 0)))] := hD
  have hK : va_K D vwCl [(k7_1, .int), (k15_2, .int), (k23_3, .int), (k31_4, .int), (k40_5, .int), (k47_6, .int), (k55_7, .int)] s := hK
  refine W.cs (cells' := 7) (slots' := 456) rfl rfl ?_
  refine va_putF (D := D) (ci := 5) (v := .ref a55_7) (ty := .array .int) (C := RX5) (T := TX5) (N := 16) hx hb hts inX5 tyX5 tyX5_ok nmX5 hown hK hP hD hS 0 rfl rfl 13 (by decide) (hts _ kw_236) (fun _ h9 => h9) rfl hin rfl (by decide +kernel) rfl rfl (Nat.le_of_ble_eq_true rfl) dX5_init_57 (fun H locs hP hD hS => ?_)
  have hP : va_P D vwCl [(h0, .inr (5, [.int 0, .int 0, .int 0, .int 0, .ref a7_1, .ref a15_2, .ref a23_3, .ref a31_4, .ref a40_5, .int 0, .int 0, .int 0, .ref a47_6, .ref a55_7, .null, .int 0])), (a7_1, .inl (k7_1, 6, .inl (fun _ => 0))), (a15_2, .inl (k15_2, 6, .inl (fun _ => 0))), (a23_3, .inl (k23_3, 12, .inl (fun _ => 0))), (a31_4, .inl (k31_4, 12, .inl (fun _ => 0))), (a40_5, .inl (k40_5, 400, .inl (fun _ => 0))), (a47_6, .inl (k47_6, 4, .inl (fun _ => 0))), (a55_7, .inl (k55_7, 16, .inl (fun _ => 0)))] H := hP
  have hD : va_D A [(h0, .inr (5, [.int 0, .int 0, .int 0, .int 0, .ref a7_1, .ref a15_2, .ref a23_3, .ref a31_4, .ref a40_5, .int 0, .int 0, .int 0, .ref a47_6, .ref a55_7, .null, .int 0])), (a7_1, .inl (k7_1, 6, .inl (fun _ => 0))), (a15_2, .inl (k15_2, 6, .inl (fun _ => 0))), (a23_3, .inl (k23_3, 12, .inl (fun _ => 0))), (a31_4, .inl (k31_4, 12, .inl (fun _ => 0))), (a40_5, .inl (k40_5, 400, .inl (fun _ => 0))), (a47_6, .inl (k47_6, 4, .inl (fun _ => 0))), (a55_7, .inl (k55_7, 16, .inl (fun _ => 0)))] := hD
  refine lv_aload_n hx hb dX5_init_60 rfl (lv_at hl 0 rfl) ?_
  refine lv_sipush (v := 1820) hx hb dX5_init_61 (by decide) ?_
  refine W.eq (g2 := F0 m 64 ls [.int 1820, .ref h0]) rfl ?_
  refine va_newa (atype := .int) (a0 := (1820, .inl (fun _ => 0))) (ty := .int) hx hb (hts _ kw_280) rfl hK hP hD hS hA (fun _ => rfl) (by decide) (by decide) (by decide) (by decide) (by decide) dX5_init_64 (fun a64_8 k64_8 H hK hP hD hS => ?_)
  have hP : va_P D vwCl [(h0, .inr (5, [.int 0, .int 0, .int 0, .int 0, .ref a7_1, .ref a15_2, .ref a23_3, .ref a31_4, .ref a40_5, .int 0, .int 0, .int 0, .ref a47_6, .ref a55_7, .null, .int 0])), (a7_1, .inl (k7_1, 6, .inl (fun _ => 0))), (a15_2, .inl (k15_2, 6, .inl (fun _ => 0))), (a23_3, .inl (k23_3, 12, .inl (fun _ => 0))), (a31_4, .inl (k31_4, 12, .inl (fun _ => 0))), (a40_5, .inl (k40_5, 400, .inl (fun _ => 0))), (a47_6, .inl (k47_6, 4, .inl (fun _ => 0))), (a55_7, .inl (k55_7, 16, .inl (fun _ => 0))), (a64_8, .inl (k64_8, 1820, .inl (fun _ => 0)))] H := hP
  have hD : va_D A [(h0, .inr (5, [.int 0, .int 0, .int 0, .int 0, .ref a7_1, .ref a15_2, .ref a23_3, .ref a31_4, .ref a40_5, .int 0, .int 0, .int 0, .ref a47_6, .ref a55_7, .null, .int 0])), (a7_1, .inl (k7_1, 6, .inl (fun _ => 0))), (a15_2, .inl (k15_2, 6, .inl (fun _ => 0))), (a23_3, .inl (k23_3, 12, .inl (fun _ => 0))), (a31_4, .inl (k31_4, 12, .inl (fun _ => 0))), (a40_5, .inl (k40_5, 400, .inl (fun _ => 0))), (a47_6, .inl (k47_6, 4, .inl (fun _ => 0))), (a55_7, .inl (k55_7, 16, .inl (fun _ => 0))), (a64_8, .inl (k64_8, 1820, .inl (fun _ => 0)))] := hD
  have hK : va_K D vwCl [(k7_1, .int), (k15_2, .int), (k23_3, .int), (k31_4, .int), (k40_5, .int), (k47_6, .int), (k55_7, .int), (k64_8, .int)] s := hK
  refine W.cs (cells' := 8) (slots' := 2276) rfl rfl ?_
  refine va_putF (D := D) (ci := 5) (v := .ref a64_8) (ty := .array .int) (C := RX5) (T := TX5) (N := 16) hx hb hts inX5 tyX5 tyX5_ok nmX5 hown hK hP hD hS 0 rfl rfl 14 (by decide) (hts _ kw_240) (fun _ h9 => h9) rfl hin rfl (by decide +kernel) rfl rfl (Nat.le_of_ble_eq_true rfl) dX5_init_66 (fun H locs hP hD hS => ?_)
  have hP : va_P D vwCl [(h0, .inr (5, [.int 0, .int 0, .int 0, .int 0, .ref a7_1, .ref a15_2, .ref a23_3, .ref a31_4, .ref a40_5, .int 0, .int 0, .int 0, .ref a47_6, .ref a55_7, .ref a64_8, .int 0])), (a7_1, .inl (k7_1, 6, .inl (fun _ => 0))), (a15_2, .inl (k15_2, 6, .inl (fun _ => 0))), (a23_3, .inl (k23_3, 12, .inl (fun _ => 0))), (a31_4, .inl (k31_4, 12, .inl (fun _ => 0))), (a40_5, .inl (k40_5, 400, .inl (fun _ => 0))), (a47_6, .inl (k47_6, 4, .inl (fun _ => 0))), (a55_7, .inl (k55_7, 16, .inl (fun _ => 0))), (a64_8, .inl (k64_8, 1820, .inl (fun _ => 0)))] H := hP
  have hD : va_D A [(h0, .inr (5, [.int 0, .int 0, .int 0, .int 0, .ref a7_1, .ref a15_2, .ref a23_3, .ref a31_4, .ref a40_5, .int 0, .int 0, .int 0, .ref a47_6, .ref a55_7, .ref a64_8, .int 0])), (a7_1, .inl (k7_1, 6, .inl (fun _ => 0))), (a15_2, .inl (k15_2, 6, .inl (fun _ => 0))), (a23_3, .inl (k23_3, 12, .inl (fun _ => 0))), (a31_4, .inl (k31_4, 12, .inl (fun _ => 0))), (a40_5, .inl (k40_5, 400, .inl (fun _ => 0))), (a47_6, .inl (k47_6, 4, .inl (fun _ => 0))), (a55_7, .inl (k55_7, 16, .inl (fun _ => 0))), (a64_8, .inl (k64_8, 1820, .inl (fun _ => 0)))] := hD
  exact wr_v (q := (fun i => match i with | 0 => a7_1 | 1 => a15_2 | 2 => a23_3 | 3 => a31_4 | 4 => a40_5 | 5 => a47_6 | 6 => a55_7 | 7 => a64_8 | _ => 0)) (k := (fun i => match i with | 5 => k47_6 | 6 => k55_7 | 7 => k64_8 | _ => k47_6)) (g := (fun _ => fun _ => 0)) (gl := (fun _ => fun _ => 0)) hx hb hr hlocks hS (hP.sub [0, 6, 7, 8] rfl) (hK.sub [5, 6, 7] rfl) (hD.sub [0, 6, 7, 8] (by decide) rfl) dX5_init_69
set_option maxHeartbeats 4000000 in
set_option maxRecDepth 100000 in
theorem wX4_init {l : Launch} {D : va_G} {sz : Nat} (h0 : Nat) (a1 : Nat) : Wv l yX4_init cX4_init 2 1 2 78 D [(h0, .inr (4, [.null, .null, .null]))] [] [.ref h0, .ref a1] sz (fun _ => True) (fun q k g gl => []) (fun k => []) := by
  refine Wv.of (by decide) (Nat.le_of_ble_eq_true rfl) ?_
  intro p e s m below meth c ls A hx hb hr hml hown hts hlocks hin hP hK hD hA hS hE hAe hl
  have hown : s.vm.findClass "SignalTable$Judge" = some m.cls := hown
  have hin : meth.name = "<init>" := hin
  skip
  have hl : lv_has ls 2 [(0, .ref h0), (1, .ref a1)] := hl
  refine lv_aload_n hx hb dX4_init_0 rfl (lv_at hl 0 rfl) ?_
  refine W.objInit hx hb hown (hts _ kw_286) (hts _ kw_180) (hts _ kw_181) rfl (by rw [hml]; exact hl.1) rfl dX4_init_1 (by decide) (Nat.le_of_ble_eq_true rfl) ?_
  refine W.eq (g2 := F0 m 4 ls []) rfl ?_
  refine lv_aload_n hx hb dX4_init_4 rfl (lv_at hl 0 rfl) ?_
  refine lv_bipush (v := 14) hx hb dX4_init_5 (by decide) ?_
  refine va_newa (atype := .int) (a0 := (14, .inl (fun _ => 0))) (ty := .int) hx hb (hts _ kw_280) rfl hK hP hD hS hA (fun _ => rfl) (by decide) (by decide) (by decide) (by decide) (by decide) dX4_init_7 (fun a7_1 k7_1 H hK hP hD hS => ?_)
  have hP : va_P D vwCl [(h0, .inr (4, [.null, .null, .null])), (a7_1, .inl (k7_1, 14, .inl (fun _ => 0)))] H := hP
  have hD : va_D A [(h0, .inr (4, [.null, .null, .null])), (a7_1, .inl (k7_1, 14, .inl (fun _ => 0)))] := hD
  have hK : va_K D vwCl [(k7_1, .int)] s := hK
  refine W.cs (cells' := 1) (slots' := 14) rfl rfl ?_
  refine va_putF (D := D) (ci := 4) (v := .ref a7_1) (ty := .array .int) (C := RX4) (T := TX4) (N := 3) hx hb hts inX4 tyX4 tyX4_ok nmX4 hown hK hP hD hS 0 rfl rfl 1 (by decide) (hts _ kw_288) (fun _ h9 => h9) rfl hin rfl (by decide +kernel) rfl rfl (Nat.le_of_ble_eq_true rfl) dX4_init_9 (fun H locs hP hD hS => ?_)
  have hP : va_P D vwCl [(h0, .inr (4, [.null, .ref a7_1, .null])), (a7_1, .inl (k7_1, 14, .inl (fun _ => 0)))] H := hP
  have hD : va_D A [(h0, .inr (4, [.null, .ref a7_1, .null])), (a7_1, .inl (k7_1, 14, .inl (fun _ => 0)))] := hD
  refine lv_aload_n hx hb dX4_init_12 rfl (lv_at hl 0 rfl) ?_
  refine lv_bipush (v := 64) hx hb dX4_init_13 (by decide) ?_
  refine va_newa (atype := .int) (a0 := (64, .inl (fun _ => 0))) (ty := .int) hx hb (hts _ kw_280) rfl hK hP hD hS hA (fun _ => rfl) (by decide) (by decide) (by decide) (by decide) (by decide) dX4_init_15 (fun a15_2 k15_2 H hK hP hD hS => ?_)
  have hP : va_P D vwCl [(h0, .inr (4, [.null, .ref a7_1, .null])), (a7_1, .inl (k7_1, 14, .inl (fun _ => 0))), (a15_2, .inl (k15_2, 64, .inl (fun _ => 0)))] H := hP
  have hD : va_D A [(h0, .inr (4, [.null, .ref a7_1, .null])), (a7_1, .inl (k7_1, 14, .inl (fun _ => 0))), (a15_2, .inl (k15_2, 64, .inl (fun _ => 0)))] := hD
  have hK : va_K D vwCl [(k7_1, .int), (k15_2, .int)] s := hK
  refine W.cs (cells' := 2) (slots' := 78) rfl rfl ?_
  refine va_putF (D := D) (ci := 4) (v := .ref a15_2) (ty := .array .int) (C := RX4) (T := TX4) (N := 3) hx hb hts inX4 tyX4 tyX4_ok nmX4 hown hK hP hD hS 0 rfl rfl 2 (by decide) (hts _ kw_289) (fun _ h9 => h9) rfl hin rfl (by decide +kernel) rfl rfl (Nat.le_of_ble_eq_true rfl) dX4_init_17 (fun H locs hP hD hS => ?_)
  have hP : va_P D vwCl [(h0, .inr (4, [.null, .ref a7_1, .ref a15_2])), (a7_1, .inl (k7_1, 14, .inl (fun _ => 0))), (a15_2, .inl (k15_2, 64, .inl (fun _ => 0)))] H := hP
  have hD : va_D A [(h0, .inr (4, [.null, .ref a7_1, .ref a15_2])), (a7_1, .inl (k7_1, 14, .inl (fun _ => 0))), (a15_2, .inl (k15_2, 64, .inl (fun _ => 0)))] := hD
  refine lv_aload_n hx hb dX4_init_20 rfl (lv_at hl 0 rfl) ?_
  refine lv_aload_n hx hb dX4_init_21 rfl (lv_at hl 1 rfl) ?_
  refine W.eq (g2 := F0 m 22 ls [.ref a1, .ref h0]) rfl ?_
  refine va_putF (D := D) (ci := 4) (v := .ref a1) (ty := .object "SignalTable$Laws") (C := RX4) (T := TX4) (N := 3) hx hb hts inX4 tyX4 tyX4_ok nmX4 hown hK hP hD hS 0 rfl rfl 0 (by decide) (hts _ kw_287) (fun _ h9 => h9) rfl hin rfl (by decide +kernel) rfl rfl (Nat.le_of_ble_eq_true rfl) dX4_init_22 (fun H locs hP hD hS => ?_)
  have hP : va_P D vwCl [(h0, .inr (4, [.ref a1, .ref a7_1, .ref a15_2])), (a7_1, .inl (k7_1, 14, .inl (fun _ => 0))), (a15_2, .inl (k15_2, 64, .inl (fun _ => 0)))] H := hP
  have hD : va_D A [(h0, .inr (4, [.ref a1, .ref a7_1, .ref a15_2])), (a7_1, .inl (k7_1, 14, .inl (fun _ => 0))), (a15_2, .inl (k15_2, 64, .inl (fun _ => 0)))] := hD
  exact wr_v (q := (fun _ => 0)) (k := (fun _ => 0)) (g := (fun _ => fun _ => 0)) (gl := (fun _ => fun _ => 0)) hx hb hr hlocks hS (hP.sub [] rfl) (hK.sub [] rfl) (hD.sub [] (by decide) rfl) dX4_init_25
set_option maxHeartbeats 4000000 in
set_option maxRecDepth 100000 in
theorem wX3_init {l : Launch} {D : va_G} {sz : Nat} (h0 : Nat) (a1 : Nat) (a2 : Nat) : Wv l yX3_init cX3_init 3 1 11 140 D [(h0, .inr (3, [.null, .null, .int 0, .null, .null, .int 0, .int 0, .int 0, .null, .null, .null, .null, .null, .null, .null, .null, .null, .int 0]))] [] [.ref h0, .ref a1, .ref a2] sz (fun _ => True) (fun q k g gl => [(h0, .inr (3, [.ref a1, .ref a2, .int 0, .ref (q 0), .ref (q 1), .int 0, .int (-2), .int 0, .ref (q 2), .ref (q 3), .ref (q 4), .ref (q 5), .ref (q 6), .ref (q 7), .ref (q 8), .ref (q 9), .ref (q 10), .int 0])), ((q 0), .inl ((k 0), 4, .inl (fun _ => 0))), ((q 1), .inl ((k 1), 4, .inl (fun _ => 0))), ((q 2), .inl ((k 2), 16, .inl (fun _ => 0)))]) (fun k => [((k 0), .int), ((k 1), .int), ((k 2), .int)]) := by
  refine Wv.of (by decide) (Nat.le_of_ble_eq_true rfl) ?_
  intro p e s m below meth c ls A hx hb hr hml hown hts hlocks hin hP hK hD hA hS hE hAe hl
  have hown : s.vm.findClass "SignalTable$Game" = some m.cls := hown
  have hin : meth.name = "<init>" := hin
  skip
  have hl : lv_has ls 3 [(0, .ref h0), (1, .ref a1), (2, .ref a2)] := hl
  refine lv_aload_n hx hb dX3_init_0 rfl (lv_at hl 0 rfl) ?_
  refine W.objInit hx hb hown (hts _ kw_419) (hts _ kw_180) (hts _ kw_181) rfl (by rw [hml]; exact hl.1) rfl dX3_init_1 (by decide) (Nat.le_of_ble_eq_true rfl) ?_
  refine W.eq (g2 := F0 m 4 ls []) rfl ?_
  refine lv_aload_n hx hb dX3_init_4 rfl (lv_at hl 0 rfl) ?_
  refine lv_iconst (v := 4) hx hb dX3_init_5 (by decide) ?_
  refine va_newa (atype := .int) (a0 := (4, .inl (fun _ => 0))) (ty := .int) hx hb (hts _ kw_280) rfl hK hP hD hS hA (fun _ => rfl) (by decide) (by decide) (by decide) (by decide) (by decide) dX3_init_6 (fun a6_1 k6_1 H hK hP hD hS => ?_)
  have hP : va_P D vwCl [(h0, .inr (3, [.null, .null, .int 0, .null, .null, .int 0, .int 0, .int 0, .null, .null, .null, .null, .null, .null, .null, .null, .null, .int 0])), (a6_1, .inl (k6_1, 4, .inl (fun _ => 0)))] H := hP
  have hD : va_D A [(h0, .inr (3, [.null, .null, .int 0, .null, .null, .int 0, .int 0, .int 0, .null, .null, .null, .null, .null, .null, .null, .null, .null, .int 0])), (a6_1, .inl (k6_1, 4, .inl (fun _ => 0)))] := hD
  have hK : va_K D vwCl [(k6_1, .int)] s := hK
  refine W.cs (cells' := 1) (slots' := 4) rfl rfl ?_
  refine va_putF (D := D) (ci := 3) (v := .ref a6_1) (ty := .array .int) (C := RX3) (T := TX3) (N := 18) hx hb hts inX3 tyX3 tyX3_ok nmX3 hown hK hP hD hS 0 rfl rfl 3 (by decide) (hts _ kw_424) (fun _ h9 => h9) rfl hin rfl (by decide +kernel) rfl rfl (Nat.le_of_ble_eq_true rfl) dX3_init_8 (fun H locs hP hD hS => ?_)
  have hP : va_P D vwCl [(h0, .inr (3, [.null, .null, .int 0, .ref a6_1, .null, .int 0, .int 0, .int 0, .null, .null, .null, .null, .null, .null, .null, .null, .null, .int 0])), (a6_1, .inl (k6_1, 4, .inl (fun _ => 0)))] H := hP
  have hD : va_D A [(h0, .inr (3, [.null, .null, .int 0, .ref a6_1, .null, .int 0, .int 0, .int 0, .null, .null, .null, .null, .null, .null, .null, .null, .null, .int 0])), (a6_1, .inl (k6_1, 4, .inl (fun _ => 0)))] := hD
  refine lv_aload_n hx hb dX3_init_11 rfl (lv_at hl 0 rfl) ?_
  refine lv_iconst (v := 4) hx hb dX3_init_12 (by decide) ?_
  refine va_newa (atype := .int) (a0 := (4, .inl (fun _ => 0))) (ty := .int) hx hb (hts _ kw_280) rfl hK hP hD hS hA (fun _ => rfl) (by decide) (by decide) (by decide) (by decide) (by decide) dX3_init_13 (fun a13_2 k13_2 H hK hP hD hS => ?_)
  have hP : va_P D vwCl [(h0, .inr (3, [.null, .null, .int 0, .ref a6_1, .null, .int 0, .int 0, .int 0, .null, .null, .null, .null, .null, .null, .null, .null, .null, .int 0])), (a6_1, .inl (k6_1, 4, .inl (fun _ => 0))), (a13_2, .inl (k13_2, 4, .inl (fun _ => 0)))] H := hP
  have hD : va_D A [(h0, .inr (3, [.null, .null, .int 0, .ref a6_1, .null, .int 0, .int 0, .int 0, .null, .null, .null, .null, .null, .null, .null, .null, .null, .int 0])), (a6_1, .inl (k6_1, 4, .inl (fun _ => 0))), (a13_2, .inl (k13_2, 4, .inl (fun _ => 0)))] := hD
  have hK : va_K D vwCl [(k6_1, .int), (k13_2, .int)] s := hK
  refine W.cs (cells' := 2) (slots' := 8) rfl rfl ?_
  refine va_putF (D := D) (ci := 3) (v := .ref a13_2) (ty := .array .int) (C := RX3) (T := TX3) (N := 18) hx hb hts inX3 tyX3 tyX3_ok nmX3 hown hK hP hD hS 0 rfl rfl 4 (by decide) (hts _ kw_428) (fun _ h9 => h9) rfl hin rfl (by decide +kernel) rfl rfl (Nat.le_of_ble_eq_true rfl) dX3_init_15 (fun H locs hP hD hS => ?_)
  have hP : va_P D vwCl [(h0, .inr (3, [.null, .null, .int 0, .ref a6_1, .ref a13_2, .int 0, .int 0, .int 0, .null, .null, .null, .null, .null, .null, .null, .null, .null, .int 0])), (a6_1, .inl (k6_1, 4, .inl (fun _ => 0))), (a13_2, .inl (k13_2, 4, .inl (fun _ => 0)))] H := hP
  have hD : va_D A [(h0, .inr (3, [.null, .null, .int 0, .ref a6_1, .ref a13_2, .int 0, .int 0, .int 0, .null, .null, .null, .null, .null, .null, .null, .null, .null, .int 0])), (a6_1, .inl (k6_1, 4, .inl (fun _ => 0))), (a13_2, .inl (k13_2, 4, .inl (fun _ => 0)))] := hD
  refine lv_aload_n hx hb dX3_init_18 rfl (lv_at hl 0 rfl) ?_
  refine lv_bipush (v := (-2)) hx hb dX3_init_19 (by decide) ?_
  refine W.eq (g2 := F0 m 21 ls [.int (-2), .ref h0]) rfl ?_
  refine va_put (D := D) (ci := 3) (v := .int (-2)) (ty := .int) (C := RX3) (T := TX3) (N := 18) hx hb hts inX3 tyX3 tyX3_ok nmX3 hown hK hP hD hS 0 rfl rfl 6 (by decide) (hts _ kw_433) (fun _ h9 => h9) rfl (by decide +kernel) rfl rfl (Nat.le_of_ble_eq_true rfl) dX3_init_21 (fun H locs hP hD hS => ?_)
  have hP : va_P D vwCl [(h0, .inr (3, [.null, .null, .int 0, .ref a6_1, .ref a13_2, .int 0, .int (-2), .int 0, .null, .null, .null, .null, .null, .null, .null, .null, .null, .int 0])), (a6_1, .inl (k6_1, 4, .inl (fun _ => 0))), (a13_2, .inl (k13_2, 4, .inl (fun _ => 0)))] H := hP
  have hD : va_D A [(h0, .inr (3, [.null, .null, .int 0, .ref a6_1, .ref a13_2, .int 0, .int (-2), .int 0, .null, .null, .null, .null, .null, .null, .null, .null, .null, .int 0])), (a6_1, .inl (k6_1, 4, .inl (fun _ => 0))), (a13_2, .inl (k13_2, 4, .inl (fun _ => 0)))] := hD
  refine lv_aload_n hx hb dX3_init_24 rfl (lv_at hl 0 rfl) ?_
  refine lv_bipush (v := 16) hx hb dX3_init_25 (by decide) ?_
  refine va_newa (atype := .int) (a0 := (16, .inl (fun _ => 0))) (ty := .int) hx hb (hts _ kw_280) rfl hK hP hD hS hA (fun _ => rfl) (by decide) (by decide) (by decide) (by decide) (by decide) dX3_init_27 (fun a27_3 k27_3 H hK hP hD hS => ?_)
  have hP : va_P D vwCl [(h0, .inr (3, [.null, .null, .int 0, .ref a6_1, .ref a13_2, .int 0, .int (-2), .int 0, .null, .null, .null, .null, .null, .null, .null, .null, .null, .int 0])), (a6_1, .inl (k6_1, 4, .inl (fun _ => 0))), (a13_2, .inl (k13_2, 4, .inl (fun _ => 0))), (a27_3, .inl (k27_3, 16, .inl (fun _ => 0)))] H := hP
  have hD : va_D A [(h0, .inr (3, [.null, .null, .int 0, .ref a6_1, .ref a13_2, .int 0, .int (-2), .int 0, .null, .null, .null, .null, .null, .null, .null, .null, .null, .int 0])), (a6_1, .inl (k6_1, 4, .inl (fun _ => 0))), (a13_2, .inl (k13_2, 4, .inl (fun _ => 0))), (a27_3, .inl (k27_3, 16, .inl (fun _ => 0)))] := hD
  have hK : va_K D vwCl [(k6_1, .int), (k13_2, .int), (k27_3, .int)] s := hK
  refine W.cs (cells' := 3) (slots' := 24) rfl rfl ?_
  refine va_putF (D := D) (ci := 3) (v := .ref a27_3) (ty := .array .int) (C := RX3) (T := TX3) (N := 18) hx hb hts inX3 tyX3 tyX3_ok nmX3 hown hK hP hD hS 0 rfl rfl 8 (by decide) (hts _ kw_444) (fun _ h9 => h9) rfl hin rfl (by decide +kernel) rfl rfl (Nat.le_of_ble_eq_true rfl) dX3_init_29 (fun H locs hP hD hS => ?_)
  have hP : va_P D vwCl [(h0, .inr (3, [.null, .null, .int 0, .ref a6_1, .ref a13_2, .int 0, .int (-2), .int 0, .ref a27_3, .null, .null, .null, .null, .null, .null, .null, .null, .int 0])), (a6_1, .inl (k6_1, 4, .inl (fun _ => 0))), (a13_2, .inl (k13_2, 4, .inl (fun _ => 0))), (a27_3, .inl (k27_3, 16, .inl (fun _ => 0)))] H := hP
  have hD : va_D A [(h0, .inr (3, [.null, .null, .int 0, .ref a6_1, .ref a13_2, .int 0, .int (-2), .int 0, .ref a27_3, .null, .null, .null, .null, .null, .null, .null, .null, .int 0])), (a6_1, .inl (k6_1, 4, .inl (fun _ => 0))), (a13_2, .inl (k13_2, 4, .inl (fun _ => 0))), (a27_3, .inl (k27_3, 16, .inl (fun _ => 0)))] := hD
  refine lv_aload_n hx hb dX3_init_32 rfl (lv_at hl 0 rfl) ?_
  refine lv_bipush (v := 16) hx hb dX3_init_33 (by decide) ?_
  refine va_newa (atype := .int) (a0 := (16, .inl (fun _ => 0))) (ty := .int) hx hb (hts _ kw_280) rfl hK hP hD hS hA (fun _ => rfl) (by decide) (by decide) (by decide) (by decide) (by decide) dX3_init_35 (fun a35_4 k35_4 H hK hP hD hS => ?_)
  have hP : va_P D vwCl [(h0, .inr (3, [.null, .null, .int 0, .ref a6_1, .ref a13_2, .int 0, .int (-2), .int 0, .ref a27_3, .null, .null, .null, .null, .null, .null, .null, .null, .int 0])), (a6_1, .inl (k6_1, 4, .inl (fun _ => 0))), (a13_2, .inl (k13_2, 4, .inl (fun _ => 0))), (a27_3, .inl (k27_3, 16, .inl (fun _ => 0))), (a35_4, .inl (k35_4, 16, .inl (fun _ => 0)))] H := hP
  have hD : va_D A [(h0, .inr (3, [.null, .null, .int 0, .ref a6_1, .ref a13_2, .int 0, .int (-2), .int 0, .ref a27_3, .null, .null, .null, .null, .null, .null, .null, .null, .int 0])), (a6_1, .inl (k6_1, 4, .inl (fun _ => 0))), (a13_2, .inl (k13_2, 4, .inl (fun _ => 0))), (a27_3, .inl (k27_3, 16, .inl (fun _ => 0))), (a35_4, .inl (k35_4, 16, .inl (fun _ => 0)))] := hD
  have hK : va_K D vwCl [(k6_1, .int), (k13_2, .int), (k27_3, .int), (k35_4, .int)] s := hK
  refine W.cs (cells' := 4) (slots' := 40) rfl rfl ?_
  refine va_putF (D := D) (ci := 3) (v := .ref a35_4) (ty := .array .int) (C := RX3) (T := TX3) (N := 18) hx hb hts inX3 tyX3 tyX3_ok nmX3 hown hK hP hD hS 0 rfl rfl 9 (by decide) (hts _ kw_449) (fun _ h9 => h9) rfl hin rfl (by decide +kernel) rfl rfl (Nat.le_of_ble_eq_true rfl) dX3_init_37 (fun H locs hP hD hS => ?_)
  have hP : va_P D vwCl [(h0, .inr (3, [.null, .null, .int 0, .ref a6_1, .ref a13_2, .int 0, .int (-2), .int 0, .ref a27_3, .ref a35_4, .null, .null, .null, .null, .null, .null, .null, .int 0])), (a6_1, .inl (k6_1, 4, .inl (fun _ => 0))), (a13_2, .inl (k13_2, 4, .inl (fun _ => 0))), (a27_3, .inl (k27_3, 16, .inl (fun _ => 0))), (a35_4, .inl (k35_4, 16, .inl (fun _ => 0)))] H := hP
  have hD : va_D A [(h0, .inr (3, [.null, .null, .int 0, .ref a6_1, .ref a13_2, .int 0, .int (-2), .int 0, .ref a27_3, .ref a35_4, .null, .null, .null, .null, .null, .null, .null, .int 0])), (a6_1, .inl (k6_1, 4, .inl (fun _ => 0))), (a13_2, .inl (k13_2, 4, .inl (fun _ => 0))), (a27_3, .inl (k27_3, 16, .inl (fun _ => 0))), (a35_4, .inl (k35_4, 16, .inl (fun _ => 0)))] := hD
  refine lv_aload_n hx hb dX3_init_40 rfl (lv_at hl 0 rfl) ?_
  refine W.eq (g2 := F0 m 41 ls [.ref h0]) rfl ?_
  refine lv_bipush (v := 16) hx hb dX3_init_41 (by decide) ?_
  refine va_newa (atype := .int) (a0 := (16, .inl (fun _ => 0))) (ty := .int) hx hb (hts _ kw_280) rfl hK hP hD hS hA (fun _ => rfl) (by decide) (by decide) (by decide) (by decide) (by decide) dX3_init_43 (fun a43_5 k43_5 H hK hP hD hS => ?_)
  have hP : va_P D vwCl [(h0, .inr (3, [.null, .null, .int 0, .ref a6_1, .ref a13_2, .int 0, .int (-2), .int 0, .ref a27_3, .ref a35_4, .null, .null, .null, .null, .null, .null, .null, .int 0])), (a6_1, .inl (k6_1, 4, .inl (fun _ => 0))), (a13_2, .inl (k13_2, 4, .inl (fun _ => 0))), (a27_3, .inl (k27_3, 16, .inl (fun _ => 0))), (a35_4, .inl (k35_4, 16, .inl (fun _ => 0))), (a43_5, .inl (k43_5, 16, .inl (fun _ => 0)))] H := hP
  have hD : va_D A [(h0, .inr (3, [.null, .null, .int 0, .ref a6_1, .ref a13_2, .int 0, .int (-2), .int 0, .ref a27_3, .ref a35_4, .null, .null, .null, .null, .null, .null, .null, .int 0])), (a6_1, .inl (k6_1, 4, .inl (fun _ => 0))), (a13_2, .inl (k13_2, 4, .inl (fun _ => 0))), (a27_3, .inl (k27_3, 16, .inl (fun _ => 0))), (a35_4, .inl (k35_4, 16, .inl (fun _ => 0))), (a43_5, .inl (k43_5, 16, .inl (fun _ => 0)))] := hD
  have hK : va_K D vwCl [(k6_1, .int), (k13_2, .int), (k27_3, .int), (k35_4, .int), (k43_5, .int)] s := hK
  refine W.cs (cells' := 5) (slots' := 56) rfl rfl ?_
  refine va_putF (D := D) (ci := 3) (v := .ref a43_5) (ty := .array .int) (C := RX3) (T := TX3) (N := 18) hx hb hts inX3 tyX3 tyX3_ok nmX3 hown hK hP hD hS 0 rfl rfl 10 (by decide) (hts _ kw_454) (fun _ h9 => h9) rfl hin rfl (by decide +kernel) rfl rfl (Nat.le_of_ble_eq_true rfl) dX3_init_45 (fun H locs hP hD hS => ?_)
  have hP : va_P D vwCl [(h0, .inr (3, [.null, .null, .int 0, .ref a6_1, .ref a13_2, .int 0, .int (-2), .int 0, .ref a27_3, .ref a35_4, .ref a43_5, .null, .null, .null, .null, .null, .null, .int 0])), (a6_1, .inl (k6_1, 4, .inl (fun _ => 0))), (a13_2, .inl (k13_2, 4, .inl (fun _ => 0))), (a27_3, .inl (k27_3, 16, .inl (fun _ => 0))), (a35_4, .inl (k35_4, 16, .inl (fun _ => 0))), (a43_5, .inl (k43_5, 16, .inl (fun _ => 0)))] H := hP
  have hD : va_D A [(h0, .inr (3, [.null, .null, .int 0, .ref a6_1, .ref a13_2, .int 0, .int (-2), .int 0, .ref a27_3, .ref a35_4, .ref a43_5, .null, .null, .null, .null, .null, .null, .int 0])), (a6_1, .inl (k6_1, 4, .inl (fun _ => 0))), (a13_2, .inl (k13_2, 4, .inl (fun _ => 0))), (a27_3, .inl (k27_3, 16, .inl (fun _ => 0))), (a35_4, .inl (k35_4, 16, .inl (fun _ => 0))), (a43_5, .inl (k43_5, 16, .inl (fun _ => 0)))] := hD
  refine lv_aload_n hx hb dX3_init_48 rfl (lv_at hl 0 rfl) ?_
  refine lv_bipush (v := 16) hx hb dX3_init_49 (by decide) ?_
  refine va_newa (atype := .int) (a0 := (16, .inl (fun _ => 0))) (ty := .int) hx hb (hts _ kw_280) rfl hK hP hD hS hA (fun _ => rfl) (by decide) (by decide) (by decide) (by decide) (by decide) dX3_init_51 (fun a51_6 k51_6 H hK hP hD hS => ?_)
  have hP : va_P D vwCl [(h0, .inr (3, [.null, .null, .int 0, .ref a6_1, .ref a13_2, .int 0, .int (-2), .int 0, .ref a27_3, .ref a35_4, .ref a43_5, .null, .null, .null, .null, .null, .null, .int 0])), (a6_1, .inl (k6_1, 4, .inl (fun _ => 0))), (a13_2, .inl (k13_2, 4, .inl (fun _ => 0))), (a27_3, .inl (k27_3, 16, .inl (fun _ => 0))), (a35_4, .inl (k35_4, 16, .inl (fun _ => 0))), (a43_5, .inl (k43_5, 16, .inl (fun _ => 0))), (a51_6, .inl (k51_6, 16, .inl (fun _ => 0)))] H := hP
  have hD : va_D A [(h0, .inr (3, [.null, .null, .int 0, .ref a6_1, .ref a13_2, .int 0, .int (-2), .int 0, .ref a27_3, .ref a35_4, .ref a43_5, .null, .null, .null, .null, .null, .null, .int 0])), (a6_1, .inl (k6_1, 4, .inl (fun _ => 0))), (a13_2, .inl (k13_2, 4, .inl (fun _ => 0))), (a27_3, .inl (k27_3, 16, .inl (fun _ => 0))), (a35_4, .inl (k35_4, 16, .inl (fun _ => 0))), (a43_5, .inl (k43_5, 16, .inl (fun _ => 0))), (a51_6, .inl (k51_6, 16, .inl (fun _ => 0)))] := hD
  have hK : va_K D vwCl [(k6_1, .int), (k13_2, .int), (k27_3, .int), (k35_4, .int), (k43_5, .int), (k51_6, .int)] s := hK
  refine W.cs (cells' := 6) (slots' := 72) rfl rfl ?_
  refine va_putF (D := D) (ci := 3) (v := .ref a51_6) (ty := .array .int) (C := RX3) (T := TX3) (N := 18) hx hb hts inX3 tyX3 tyX3_ok nmX3 hown hK hP hD hS 0 rfl rfl 11 (by decide) (hts _ kw_457) (fun _ h9 => h9) rfl hin rfl (by decide +kernel) rfl rfl (Nat.le_of_ble_eq_true rfl) dX3_init_53 (fun H locs hP hD hS => ?_)
  have hP : va_P D vwCl [(h0, .inr (3, [.null, .null, .int 0, .ref a6_1, .ref a13_2, .int 0, .int (-2), .int 0, .ref a27_3, .ref a35_4, .ref a43_5, .ref a51_6, .null, .null, .null, .null, .null, .int 0])), (a6_1, .inl (k6_1, 4, .inl (fun _ => 0))), (a13_2, .inl (k13_2, 4, .inl (fun _ => 0))), (a27_3, .inl (k27_3, 16, .inl (fun _ => 0))), (a35_4, .inl (k35_4, 16, .inl (fun _ => 0))), (a43_5, .inl (k43_5, 16, .inl (fun _ => 0))), (a51_6, .inl (k51_6, 16, .inl (fun _ => 0)))] H := hP
  have hD : va_D A [(h0, .inr (3, [.null, .null, .int 0, .ref a6_1, .ref a13_2, .int 0, .int (-2), .int 0, .ref a27_3, .ref a35_4, .ref a43_5, .ref a51_6, .null, .null, .null, .null, .null, .int 0])), (a6_1, .inl (k6_1, 4, .inl (fun _ => 0))), (a13_2, .inl (k13_2, 4, .inl (fun _ => 0))), (a27_3, .inl (k27_3, 16, .inl (fun _ => 0))), (a35_4, .inl (k35_4, 16, .inl (fun _ => 0))), (a43_5, .inl (k43_5, 16, .inl (fun _ => 0))), (a51_6, .inl (k51_6, 16, .inl (fun _ => 0)))] := hD
  refine lv_aload_n hx hb dX3_init_56 rfl (lv_at hl 0 rfl) ?_
  refine lv_bipush (v := 16) hx hb dX3_init_57 (by decide) ?_
  refine va_newa (atype := .int) (a0 := (16, .inl (fun _ => 0))) (ty := .int) hx hb (hts _ kw_280) rfl hK hP hD hS hA (fun _ => rfl) (by decide) (by decide) (by decide) (by decide) (by decide) dX3_init_59 (fun a59_7 k59_7 H hK hP hD hS => ?_)
  have hP : va_P D vwCl [(h0, .inr (3, [.null, .null, .int 0, .ref a6_1, .ref a13_2, .int 0, .int (-2), .int 0, .ref a27_3, .ref a35_4, .ref a43_5, .ref a51_6, .null, .null, .null, .null, .null, .int 0])), (a6_1, .inl (k6_1, 4, .inl (fun _ => 0))), (a13_2, .inl (k13_2, 4, .inl (fun _ => 0))), (a27_3, .inl (k27_3, 16, .inl (fun _ => 0))), (a35_4, .inl (k35_4, 16, .inl (fun _ => 0))), (a43_5, .inl (k43_5, 16, .inl (fun _ => 0))), (a51_6, .inl (k51_6, 16, .inl (fun _ => 0))), (a59_7, .inl (k59_7, 16, .inl (fun _ => 0)))] H := hP
  have hD : va_D A [(h0, .inr (3, [.null, .null, .int 0, .ref a6_1, .ref a13_2, .int 0, .int (-2), .int 0, .ref a27_3, .ref a35_4, .ref a43_5, .ref a51_6, .null, .null, .null, .null, .null, .int 0])), (a6_1, .inl (k6_1, 4, .inl (fun _ => 0))), (a13_2, .inl (k13_2, 4, .inl (fun _ => 0))), (a27_3, .inl (k27_3, 16, .inl (fun _ => 0))), (a35_4, .inl (k35_4, 16, .inl (fun _ => 0))), (a43_5, .inl (k43_5, 16, .inl (fun _ => 0))), (a51_6, .inl (k51_6, 16, .inl (fun _ => 0))), (a59_7, .inl (k59_7, 16, .inl (fun _ => 0)))] := hD
  have hK : va_K D vwCl [(k6_1, .int), (k13_2, .int), (k27_3, .int), (k35_4, .int), (k43_5, .int), (k51_6, .int), (k59_7, .int)] s := hK
  refine W.cs (cells' := 7) (slots' := 88) rfl rfl ?_
  refine W.eq (g2 := F0 m 61 ls [.ref a59_7, .ref h0]) rfl ?_
  refine va_putF (D := D) (ci := 3) (v := .ref a59_7) (ty := .array .int) (C := RX3) (T := TX3) (N := 18) hx hb hts inX3 tyX3 tyX3_ok nmX3 hown hK hP hD hS 0 rfl rfl 12 (by decide) (hts _ kw_459) (fun _ h9 => h9) rfl hin rfl (by decide +kernel) rfl rfl (Nat.le_of_ble_eq_true rfl) dX3_init_61 (fun H locs hP hD hS => ?_)
  have hP : va_P D vwCl [(h0, .inr (3, [.null, .null, .int 0, .ref a6_1, .ref a13_2, .int 0, .int (-2), .int 0, .ref a27_3, .ref a35_4, .ref a43_5, .ref a51_6, .ref a59_7, .null, .null, .null, .null, .int 0])), (a6_1, .inl (k6_1, 4, .inl (fun _ => 0))), (a13_2, .inl (k13_2, 4, .inl (fun _ => 0))), (a27_3, .inl (k27_3, 16, .inl (fun _ => 0))), (a35_4, .inl (k35_4, 16, .inl (fun _ => 0))), (a43_5, .inl (k43_5, 16, .inl (fun _ => 0))), (a51_6, .inl (k51_6, 16, .inl (fun _ => 0))), (a59_7, .inl (k59_7, 16, .inl (fun _ => 0)))] H := hP
  have hD : va_D A [(h0, .inr (3, [.null, .null, .int 0, .ref a6_1, .ref a13_2, .int 0, .int (-2), .int 0, .ref a27_3, .ref a35_4, .ref a43_5, .ref a51_6, .ref a59_7, .null, .null, .null, .null, .int 0])), (a6_1, .inl (k6_1, 4, .inl (fun _ => 0))), (a13_2, .inl (k13_2, 4, .inl (fun _ => 0))), (a27_3, .inl (k27_3, 16, .inl (fun _ => 0))), (a35_4, .inl (k35_4, 16, .inl (fun _ => 0))), (a43_5, .inl (k43_5, 16, .inl (fun _ => 0))), (a51_6, .inl (k51_6, 16, .inl (fun _ => 0))), (a59_7, .inl (k59_7, 16, .inl (fun _ => 0)))] := hD
  refine lv_aload_n hx hb dX3_init_64 rfl (lv_at hl 0 rfl) ?_
  refine lv_bipush (v := 16) hx hb dX3_init_65 (by decide) ?_
  refine va_newa (atype := .int) (a0 := (16, .inl (fun _ => 0))) (ty := .int) hx hb (hts _ kw_280) rfl hK hP hD hS hA (fun _ => rfl) (by decide) (by decide) (by decide) (by decide) (by decide) dX3_init_67 (fun a67_8 k67_8 H hK hP hD hS => ?_)
  have hP : va_P D vwCl [(h0, .inr (3, [.null, .null, .int 0, .ref a6_1, .ref a13_2, .int 0, .int (-2), .int 0, .ref a27_3, .ref a35_4, .ref a43_5, .ref a51_6, .ref a59_7, .null, .null, .null, .null, .int 0])), (a6_1, .inl (k6_1, 4, .inl (fun _ => 0))), (a13_2, .inl (k13_2, 4, .inl (fun _ => 0))), (a27_3, .inl (k27_3, 16, .inl (fun _ => 0))), (a35_4, .inl (k35_4, 16, .inl (fun _ => 0))), (a43_5, .inl (k43_5, 16, .inl (fun _ => 0))), (a51_6, .inl (k51_6, 16, .inl (fun _ => 0))), (a59_7, .inl (k59_7, 16, .inl (fun _ => 0))), (a67_8, .inl (k67_8, 16, .inl (fun _ => 0)))] H := hP
  have hD : va_D A [(h0, .inr (3, [.null, .null, .int 0, .ref a6_1, .ref a13_2, .int 0, .int (-2), .int 0, .ref a27_3, .ref a35_4, .ref a43_5, .ref a51_6, .ref a59_7, .null, .null, .null, .null, .int 0])), (a6_1, .inl (k6_1, 4, .inl (fun _ => 0))), (a13_2, .inl (k13_2, 4, .inl (fun _ => 0))), (a27_3, .inl (k27_3, 16, .inl (fun _ => 0))), (a35_4, .inl (k35_4, 16, .inl (fun _ => 0))), (a43_5, .inl (k43_5, 16, .inl (fun _ => 0))), (a51_6, .inl (k51_6, 16, .inl (fun _ => 0))), (a59_7, .inl (k59_7, 16, .inl (fun _ => 0))), (a67_8, .inl (k67_8, 16, .inl (fun _ => 0)))] := hD
  have hK : va_K D vwCl [(k6_1, .int), (k13_2, .int), (k27_3, .int), (k35_4, .int), (k43_5, .int), (k51_6, .int), (k59_7, .int), (k67_8, .int)] s := hK
  refine W.cs (cells' := 8) (slots' := 104) rfl rfl ?_
  refine va_putF (D := D) (ci := 3) (v := .ref a67_8) (ty := .array .int) (C := RX3) (T := TX3) (N := 18) hx hb hts inX3 tyX3 tyX3_ok nmX3 hown hK hP hD hS 0 rfl rfl 13 (by decide) (hts _ kw_462) (fun _ h9 => h9) rfl hin rfl (by decide +kernel) rfl rfl (Nat.le_of_ble_eq_true rfl) dX3_init_69 (fun H locs hP hD hS => ?_)
  have hP : va_P D vwCl [(h0, .inr (3, [.null, .null, .int 0, .ref a6_1, .ref a13_2, .int 0, .int (-2), .int 0, .ref a27_3, .ref a35_4, .ref a43_5, .ref a51_6, .ref a59_7, .ref a67_8, .null, .null, .null, .int 0])), (a6_1, .inl (k6_1, 4, .inl (fun _ => 0))), (a13_2, .inl (k13_2, 4, .inl (fun _ => 0))), (a27_3, .inl (k27_3, 16, .inl (fun _ => 0))), (a35_4, .inl (k35_4, 16, .inl (fun _ => 0))), (a43_5, .inl (k43_5, 16, .inl (fun _ => 0))), (a51_6, .inl (k51_6, 16, .inl (fun _ => 0))), (a59_7, .inl (k59_7, 16, .inl (fun _ => 0))), (a67_8, .inl (k67_8, 16, .inl (fun _ => 0)))] H := hP
  have hD : va_D A [(h0, .inr (3, [.null, .null, .int 0, .ref a6_1, .ref a13_2, .int 0, .int (-2), .int 0, .ref a27_3, .ref a35_4, .ref a43_5, .ref a51_6, .ref a59_7, .ref a67_8, .null, .null, .null, .int 0])), (a6_1, .inl (k6_1, 4, .inl (fun _ => 0))), (a13_2, .inl (k13_2, 4, .inl (fun _ => 0))), (a27_3, .inl (k27_3, 16, .inl (fun _ => 0))), (a35_4, .inl (k35_4, 16, .inl (fun _ => 0))), (a43_5, .inl (k43_5, 16, .inl (fun _ => 0))), (a51_6, .inl (k51_6, 16, .inl (fun _ => 0))), (a59_7, .inl (k59_7, 16, .inl (fun _ => 0))), (a67_8, .inl (k67_8, 16, .inl (fun _ => 0)))] := hD
  refine lv_aload_n hx hb dX3_init_72 rfl (lv_at hl 0 rfl) ?_
  refine lv_bipush (v := 16) hx hb dX3_init_73 (by decide) ?_
  refine va_newa (atype := .int) (a0 := (16, .inl (fun _ => 0))) (ty := .int) hx hb (hts _ kw_280) rfl hK hP hD hS hA (fun _ => rfl) (by decide) (by decide) (by decide) (by decide) (by decide) dX3_init_75 (fun a75_9 k75_9 H hK hP hD hS => ?_)
  have hP : va_P D vwCl [(h0, .inr (3, [.null, .null, .int 0, .ref a6_1, .ref a13_2, .int 0, .int (-2), .int 0, .ref a27_3, .ref a35_4, .ref a43_5, .ref a51_6, .ref a59_7, .ref a67_8, .null, .null, .null, .int 0])), (a6_1, .inl (k6_1, 4, .inl (fun _ => 0))), (a13_2, .inl (k13_2, 4, .inl (fun _ => 0))), (a27_3, .inl (k27_3, 16, .inl (fun _ => 0))), (a35_4, .inl (k35_4, 16, .inl (fun _ => 0))), (a43_5, .inl (k43_5, 16, .inl (fun _ => 0))), (a51_6, .inl (k51_6, 16, .inl (fun _ => 0))), (a59_7, .inl (k59_7, 16, .inl (fun _ => 0))), (a67_8, .inl (k67_8, 16, .inl (fun _ => 0))), (a75_9, .inl (k75_9, 16, .inl (fun _ => 0)))] H := hP
  have hD : va_D A [(h0, .inr (3, [.null, .null, .int 0, .ref a6_1, .ref a13_2, .int 0, .int (-2), .int 0, .ref a27_3, .ref a35_4, .ref a43_5, .ref a51_6, .ref a59_7, .ref a67_8, .null, .null, .null, .int 0])), (a6_1, .inl (k6_1, 4, .inl (fun _ => 0))), (a13_2, .inl (k13_2, 4, .inl (fun _ => 0))), (a27_3, .inl (k27_3, 16, .inl (fun _ => 0))), (a35_4, .inl (k35_4, 16, .inl (fun _ => 0))), (a43_5, .inl (k43_5, 16, .inl (fun _ => 0))), (a51_6, .inl (k51_6, 16, .inl (fun _ => 0))), (a59_7, .inl (k59_7, 16, .inl (fun _ => 0))), (a67_8, .inl (k67_8, 16, .inl (fun _ => 0))), (a75_9, .inl (k75_9, 16, .inl (fun _ => 0)))] := hD
  have hK : va_K D vwCl [(k6_1, .int), (k13_2, .int), (k27_3, .int), (k35_4, .int), (k43_5, .int), (k51_6, .int), (k59_7, .int), (k67_8, .int), (k75_9, .int)] s := hK
  refine W.cs (cells' := 9) (slots' := 120) rfl rfl ?_
  refine va_putF (D := D) (ci := 3) (v := .ref a75_9) (ty := .array .int) (C := RX3) (T := TX3) (N := 18) hx hb hts inX3 tyX3 tyX3_ok nmX3 hown hK hP hD hS 0 rfl rfl 14 (by decide) (hts _ kw_464) (fun _ h9 => h9) rfl hin rfl (by decide +kernel) rfl rfl (Nat.le_of_ble_eq_true rfl) dX3_init_77 (fun H locs hP hD hS => ?_)
  have hP : va_P D vwCl [(h0, .inr (3, [.null, .null, .int 0, .ref a6_1, .ref a13_2, .int 0, .int (-2), .int 0, .ref a27_3, .ref a35_4, .ref a43_5, .ref a51_6, .ref a59_7, .ref a67_8, .ref a75_9, .null, .null, .int 0])), (a6_1, .inl (k6_1, 4, .inl (fun _ => 0))), (a13_2, .inl (k13_2, 4, .inl (fun _ => 0))), (a27_3, .inl (k27_3, 16, .inl (fun _ => 0))), (a35_4, .inl (k35_4, 16, .inl (fun _ => 0))), (a43_5, .inl (k43_5, 16, .inl (fun _ => 0))), (a51_6, .inl (k51_6, 16, .inl (fun _ => 0))), (a59_7, .inl (k59_7, 16, .inl (fun _ => 0))), (a67_8, .inl (k67_8, 16, .inl (fun _ => 0))), (a75_9, .inl (k75_9, 16, .inl (fun _ => 0)))] H := hP
  have hD : va_D A [(h0, .inr (3, [.null, .null, .int 0, .ref a6_1, .ref a13_2, .int 0, .int (-2), .int 0, .ref a27_3, .ref a35_4, .ref a43_5, .ref a51_6, .ref a59_7, .ref a67_8, .ref a75_9, .null, .null, .int 0])), (a6_1, .inl (k6_1, 4, .inl (fun _ => 0))), (a13_2, .inl (k13_2, 4, .inl (fun _ => 0))), (a27_3, .inl (k27_3, 16, .inl (fun _ => 0))), (a35_4, .inl (k35_4, 16, .inl (fun _ => 0))), (a43_5, .inl (k43_5, 16, .inl (fun _ => 0))), (a51_6, .inl (k51_6, 16, .inl (fun _ => 0))), (a59_7, .inl (k59_7, 16, .inl (fun _ => 0))), (a67_8, .inl (k67_8, 16, .inl (fun _ => 0))), (a75_9, .inl (k75_9, 16, .inl (fun _ => 0)))] := hD
  refine lv_aload_n hx hb dX3_init_80 rfl (lv_at hl 0 rfl) ?_
  refine W.eq (g2 := F0 m 81 ls [.ref h0]) rfl ?_
  refine lv_bipush (v := 16) hx hb dX3_init_81 (by decide) ?_
  refine va_newa (atype := .int) (a0 := (16, .inl (fun _ => 0))) (ty := .int) hx hb (hts _ kw_280) rfl hK hP hD hS hA (fun _ => rfl) (by decide) (by decide) (by decide) (by decide) (by decide) dX3_init_83 (fun a83_10 k83_10 H hK hP hD hS => ?_)
  have hP : va_P D vwCl [(h0, .inr (3, [.null, .null, .int 0, .ref a6_1, .ref a13_2, .int 0, .int (-2), .int 0, .ref a27_3, .ref a35_4, .ref a43_5, .ref a51_6, .ref a59_7, .ref a67_8, .ref a75_9, .null, .null, .int 0])), (a6_1, .inl (k6_1, 4, .inl (fun _ => 0))), (a13_2, .inl (k13_2, 4, .inl (fun _ => 0))), (a27_3, .inl (k27_3, 16, .inl (fun _ => 0))), (a35_4, .inl (k35_4, 16, .inl (fun _ => 0))), (a43_5, .inl (k43_5, 16, .inl (fun _ => 0))), (a51_6, .inl (k51_6, 16, .inl (fun _ => 0))), (a59_7, .inl (k59_7, 16, .inl (fun _ => 0))), (a67_8, .inl (k67_8, 16, .inl (fun _ => 0))), (a75_9, .inl (k75_9, 16, .inl (fun _ => 0))), (a83_10, .inl (k83_10, 16, .inl (fun _ => 0)))] H := hP
  have hD : va_D A [(h0, .inr (3, [.null, .null, .int 0, .ref a6_1, .ref a13_2, .int 0, .int (-2), .int 0, .ref a27_3, .ref a35_4, .ref a43_5, .ref a51_6, .ref a59_7, .ref a67_8, .ref a75_9, .null, .null, .int 0])), (a6_1, .inl (k6_1, 4, .inl (fun _ => 0))), (a13_2, .inl (k13_2, 4, .inl (fun _ => 0))), (a27_3, .inl (k27_3, 16, .inl (fun _ => 0))), (a35_4, .inl (k35_4, 16, .inl (fun _ => 0))), (a43_5, .inl (k43_5, 16, .inl (fun _ => 0))), (a51_6, .inl (k51_6, 16, .inl (fun _ => 0))), (a59_7, .inl (k59_7, 16, .inl (fun _ => 0))), (a67_8, .inl (k67_8, 16, .inl (fun _ => 0))), (a75_9, .inl (k75_9, 16, .inl (fun _ => 0))), (a83_10, .inl (k83_10, 16, .inl (fun _ => 0)))] := hD
  have hK : va_K D vwCl [(k6_1, .int), (k13_2, .int), (k27_3, .int), (k35_4, .int), (k43_5, .int), (k51_6, .int), (k59_7, .int), (k67_8, .int), (k75_9, .int), (k83_10, .int)] s := hK
  refine W.cs (cells' := 10) (slots' := 136) rfl rfl ?_
  refine va_putF (D := D) (ci := 3) (v := .ref a83_10) (ty := .array .int) (C := RX3) (T := TX3) (N := 18) hx hb hts inX3 tyX3 tyX3_ok nmX3 hown hK hP hD hS 0 rfl rfl 15 (by decide) (hts _ kw_469) (fun _ h9 => h9) rfl hin rfl (by decide +kernel) rfl rfl (Nat.le_of_ble_eq_true rfl) dX3_init_85 (fun H locs hP hD hS => ?_)
  have hP : va_P D vwCl [(h0, .inr (3, [.null, .null, .int 0, .ref a6_1, .ref a13_2, .int 0, .int (-2), .int 0, .ref a27_3, .ref a35_4, .ref a43_5, .ref a51_6, .ref a59_7, .ref a67_8, .ref a75_9, .ref a83_10, .null, .int 0])), (a6_1, .inl (k6_1, 4, .inl (fun _ => 0))), (a13_2, .inl (k13_2, 4, .inl (fun _ => 0))), (a27_3, .inl (k27_3, 16, .inl (fun _ => 0))), (a35_4, .inl (k35_4, 16, .inl (fun _ => 0))), (a43_5, .inl (k43_5, 16, .inl (fun _ => 0))), (a51_6, .inl (k51_6, 16, .inl (fun _ => 0))), (a59_7, .inl (k59_7, 16, .inl (fun _ => 0))), (a67_8, .inl (k67_8, 16, .inl (fun _ => 0))), (a75_9, .inl (k75_9, 16, .inl (fun _ => 0))), (a83_10, .inl (k83_10, 16, .inl (fun _ => 0)))] H := hP
  have hD : va_D A [(h0, .inr (3, [.null, .null, .int 0, .ref a6_1, .ref a13_2, .int 0, .int (-2), .int 0, .ref a27_3, .ref a35_4, .ref a43_5, .ref a51_6, .ref a59_7, .ref a67_8, .ref a75_9, .ref a83_10, .null, .int 0])), (a6_1, .inl (k6_1, 4, .inl (fun _ => 0))), (a13_2, .inl (k13_2, 4, .inl (fun _ => 0))), (a27_3, .inl (k27_3, 16, .inl (fun _ => 0))), (a35_4, .inl (k35_4, 16, .inl (fun _ => 0))), (a43_5, .inl (k43_5, 16, .inl (fun _ => 0))), (a51_6, .inl (k51_6, 16, .inl (fun _ => 0))), (a59_7, .inl (k59_7, 16, .inl (fun _ => 0))), (a67_8, .inl (k67_8, 16, .inl (fun _ => 0))), (a75_9, .inl (k75_9, 16, .inl (fun _ => 0))), (a83_10, .inl (k83_10, 16, .inl (fun _ => 0)))] := hD
  refine lv_aload_n hx hb dX3_init_88 rfl (lv_at hl 0 rfl) ?_
  refine lv_iconst (v := 4) hx hb dX3_init_89 (by decide) ?_
  refine va_newa (atype := .int) (a0 := (4, .inl (fun _ => 0))) (ty := .int) hx hb (hts _ kw_280) rfl hK hP hD hS hA (fun _ => rfl) (by decide) (by decide) (by decide) (by decide) (by decide) dX3_init_90 (fun a90_11 k90_11 H hK hP hD hS => ?_)
  have hP : va_P D vwCl [(h0, .inr (3, [.null, .null, .int 0, .ref a6_1, .ref a13_2, .int 0, .int (-2), .int 0, .ref a27_3, .ref a35_4, .ref a43_5, .ref a51_6, .ref a59_7, .ref a67_8, .ref a75_9, .ref a83_10, .null, .int 0])), (a6_1, .inl (k6_1, 4, .inl (fun _ => 0))), (a13_2, .inl (k13_2, 4, .inl (fun _ => 0))), (a27_3, .inl (k27_3, 16, .inl (fun _ => 0))), (a35_4, .inl (k35_4, 16, .inl (fun _ => 0))), (a43_5, .inl (k43_5, 16, .inl (fun _ => 0))), (a51_6, .inl (k51_6, 16, .inl (fun _ => 0))), (a59_7, .inl (k59_7, 16, .inl (fun _ => 0))), (a67_8, .inl (k67_8, 16, .inl (fun _ => 0))), (a75_9, .inl (k75_9, 16, .inl (fun _ => 0))), (a83_10, .inl (k83_10, 16, .inl (fun _ => 0))), (a90_11, .inl (k90_11, 4, .inl (fun _ => 0)))] H := hP
  have hD : va_D A [(h0, .inr (3, [.null, .null, .int 0, .ref a6_1, .ref a13_2, .int 0, .int (-2), .int 0, .ref a27_3, .ref a35_4, .ref a43_5, .ref a51_6, .ref a59_7, .ref a67_8, .ref a75_9, .ref a83_10, .null, .int 0])), (a6_1, .inl (k6_1, 4, .inl (fun _ => 0))), (a13_2, .inl (k13_2, 4, .inl (fun _ => 0))), (a27_3, .inl (k27_3, 16, .inl (fun _ => 0))), (a35_4, .inl (k35_4, 16, .inl (fun _ => 0))), (a43_5, .inl (k43_5, 16, .inl (fun _ => 0))), (a51_6, .inl (k51_6, 16, .inl (fun _ => 0))), (a59_7, .inl (k59_7, 16, .inl (fun _ => 0))), (a67_8, .inl (k67_8, 16, .inl (fun _ => 0))), (a75_9, .inl (k75_9, 16, .inl (fun _ => 0))), (a83_10, .inl (k83_10, 16, .inl (fun _ => 0))), (a90_11, .inl (k90_11, 4, .inl (fun _ => 0)))] := hD
  have hK : va_K D vwCl [(k6_1, .int), (k13_2, .int), (k27_3, .int), (k35_4, .int), (k43_5, .int), (k51_6, .int), (k59_7, .int), (k67_8, .int), (k75_9, .int), (k83_10, .int), (k90_11, .int)] s := hK
  refine W.cs (cells' := 11) (slots' := 140) rfl rfl ?_
  refine va_putF (D := D) (ci := 3) (v := .ref a90_11) (ty := .array .int) (C := RX3) (T := TX3) (N := 18) hx hb hts inX3 tyX3 tyX3_ok nmX3 hown hK hP hD hS 0 rfl rfl 16 (by decide) (hts _ kw_472) (fun _ h9 => h9) rfl hin rfl (by decide +kernel) rfl rfl (Nat.le_of_ble_eq_true rfl) dX3_init_92 (fun H locs hP hD hS => ?_)
  have hP : va_P D vwCl [(h0, .inr (3, [.null, .null, .int 0, .ref a6_1, .ref a13_2, .int 0, .int (-2), .int 0, .ref a27_3, .ref a35_4, .ref a43_5, .ref a51_6, .ref a59_7, .ref a67_8, .ref a75_9, .ref a83_10, .ref a90_11, .int 0])), (a6_1, .inl (k6_1, 4, .inl (fun _ => 0))), (a13_2, .inl (k13_2, 4, .inl (fun _ => 0))), (a27_3, .inl (k27_3, 16, .inl (fun _ => 0))), (a35_4, .inl (k35_4, 16, .inl (fun _ => 0))), (a43_5, .inl (k43_5, 16, .inl (fun _ => 0))), (a51_6, .inl (k51_6, 16, .inl (fun _ => 0))), (a59_7, .inl (k59_7, 16, .inl (fun _ => 0))), (a67_8, .inl (k67_8, 16, .inl (fun _ => 0))), (a75_9, .inl (k75_9, 16, .inl (fun _ => 0))), (a83_10, .inl (k83_10, 16, .inl (fun _ => 0))), (a90_11, .inl (k90_11, 4, .inl (fun _ => 0)))] H := hP
  have hD : va_D A [(h0, .inr (3, [.null, .null, .int 0, .ref a6_1, .ref a13_2, .int 0, .int (-2), .int 0, .ref a27_3, .ref a35_4, .ref a43_5, .ref a51_6, .ref a59_7, .ref a67_8, .ref a75_9, .ref a83_10, .ref a90_11, .int 0])), (a6_1, .inl (k6_1, 4, .inl (fun _ => 0))), (a13_2, .inl (k13_2, 4, .inl (fun _ => 0))), (a27_3, .inl (k27_3, 16, .inl (fun _ => 0))), (a35_4, .inl (k35_4, 16, .inl (fun _ => 0))), (a43_5, .inl (k43_5, 16, .inl (fun _ => 0))), (a51_6, .inl (k51_6, 16, .inl (fun _ => 0))), (a59_7, .inl (k59_7, 16, .inl (fun _ => 0))), (a67_8, .inl (k67_8, 16, .inl (fun _ => 0))), (a75_9, .inl (k75_9, 16, .inl (fun _ => 0))), (a83_10, .inl (k83_10, 16, .inl (fun _ => 0))), (a90_11, .inl (k90_11, 4, .inl (fun _ => 0)))] := hD
  refine lv_aload_n hx hb dX3_init_95 rfl (lv_at hl 0 rfl) ?_
  refine lv_aload_n hx hb dX3_init_96 rfl (lv_at hl 1 rfl) ?_
  refine va_putF (D := D) (ci := 3) (v := .ref a1) (ty := .object "SignalTable$Laws") (C := RX3) (T := TX3) (N := 18) hx hb hts inX3 tyX3 tyX3_ok nmX3 hown hK hP hD hS 0 rfl rfl 0 (by decide) (hts _ kw_420) (fun _ h9 => h9) rfl hin rfl (by decide +kernel) rfl rfl (Nat.le_of_ble_eq_true rfl) dX3_init_97 (fun H locs hP hD hS => ?_)
  have hP : va_P D vwCl [(h0, .inr (3, [.ref a1, .null, .int 0, .ref a6_1, .ref a13_2, .int 0, .int (-2), .int 0, .ref a27_3, .ref a35_4, .ref a43_5, .ref a51_6, .ref a59_7, .ref a67_8, .ref a75_9, .ref a83_10, .ref a90_11, .int 0])), (a6_1, .inl (k6_1, 4, .inl (fun _ => 0))), (a13_2, .inl (k13_2, 4, .inl (fun _ => 0))), (a27_3, .inl (k27_3, 16, .inl (fun _ => 0))), (a35_4, .inl (k35_4, 16, .inl (fun _ => 0))), (a43_5, .inl (k43_5, 16, .inl (fun _ => 0))), (a51_6, .inl (k51_6, 16, .inl (fun _ => 0))), (a59_7, .inl (k59_7, 16, .inl (fun _ => 0))), (a67_8, .inl (k67_8, 16, .inl (fun _ => 0))), (a75_9, .inl (k75_9, 16, .inl (fun _ => 0))), (a83_10, .inl (k83_10, 16, .inl (fun _ => 0))), (a90_11, .inl (k90_11, 4, .inl (fun _ => 0)))] H := hP
  have hD : va_D A [(h0, .inr (3, [.ref a1, .null, .int 0, .ref a6_1, .ref a13_2, .int 0, .int (-2), .int 0, .ref a27_3, .ref a35_4, .ref a43_5, .ref a51_6, .ref a59_7, .ref a67_8, .ref a75_9, .ref a83_10, .ref a90_11, .int 0])), (a6_1, .inl (k6_1, 4, .inl (fun _ => 0))), (a13_2, .inl (k13_2, 4, .inl (fun _ => 0))), (a27_3, .inl (k27_3, 16, .inl (fun _ => 0))), (a35_4, .inl (k35_4, 16, .inl (fun _ => 0))), (a43_5, .inl (k43_5, 16, .inl (fun _ => 0))), (a51_6, .inl (k51_6, 16, .inl (fun _ => 0))), (a59_7, .inl (k59_7, 16, .inl (fun _ => 0))), (a67_8, .inl (k67_8, 16, .inl (fun _ => 0))), (a75_9, .inl (k75_9, 16, .inl (fun _ => 0))), (a83_10, .inl (k83_10, 16, .inl (fun _ => 0))), (a90_11, .inl (k90_11, 4, .inl (fun _ => 0)))] := hD
  refine W.eq (g2 := F0 m 100 ls []) rfl ?_
  refine lv_aload_n hx hb dX3_init_100 rfl (lv_at hl 0 rfl) ?_
  refine lv_aload_n hx hb dX3_init_101 rfl (lv_at hl 2 rfl) ?_
  refine va_putF (D := D) (ci := 3) (v := .ref a2) (ty := .object "SignalTable$Judge") (C := RX3) (T := TX3) (N := 18) hx hb hts inX3 tyX3 tyX3_ok nmX3 hown hK hP hD hS 0 rfl rfl 1 (by decide) (hts _ kw_421) (fun _ h9 => h9) rfl hin rfl (by decide +kernel) rfl rfl (Nat.le_of_ble_eq_true rfl) dX3_init_102 (fun H locs hP hD hS => ?_)
  have hP : va_P D vwCl [(h0, .inr (3, [.ref a1, .ref a2, .int 0, .ref a6_1, .ref a13_2, .int 0, .int (-2), .int 0, .ref a27_3, .ref a35_4, .ref a43_5, .ref a51_6, .ref a59_7, .ref a67_8, .ref a75_9, .ref a83_10, .ref a90_11, .int 0])), (a6_1, .inl (k6_1, 4, .inl (fun _ => 0))), (a13_2, .inl (k13_2, 4, .inl (fun _ => 0))), (a27_3, .inl (k27_3, 16, .inl (fun _ => 0))), (a35_4, .inl (k35_4, 16, .inl (fun _ => 0))), (a43_5, .inl (k43_5, 16, .inl (fun _ => 0))), (a51_6, .inl (k51_6, 16, .inl (fun _ => 0))), (a59_7, .inl (k59_7, 16, .inl (fun _ => 0))), (a67_8, .inl (k67_8, 16, .inl (fun _ => 0))), (a75_9, .inl (k75_9, 16, .inl (fun _ => 0))), (a83_10, .inl (k83_10, 16, .inl (fun _ => 0))), (a90_11, .inl (k90_11, 4, .inl (fun _ => 0)))] H := hP
  have hD : va_D A [(h0, .inr (3, [.ref a1, .ref a2, .int 0, .ref a6_1, .ref a13_2, .int 0, .int (-2), .int 0, .ref a27_3, .ref a35_4, .ref a43_5, .ref a51_6, .ref a59_7, .ref a67_8, .ref a75_9, .ref a83_10, .ref a90_11, .int 0])), (a6_1, .inl (k6_1, 4, .inl (fun _ => 0))), (a13_2, .inl (k13_2, 4, .inl (fun _ => 0))), (a27_3, .inl (k27_3, 16, .inl (fun _ => 0))), (a35_4, .inl (k35_4, 16, .inl (fun _ => 0))), (a43_5, .inl (k43_5, 16, .inl (fun _ => 0))), (a51_6, .inl (k51_6, 16, .inl (fun _ => 0))), (a59_7, .inl (k59_7, 16, .inl (fun _ => 0))), (a67_8, .inl (k67_8, 16, .inl (fun _ => 0))), (a75_9, .inl (k75_9, 16, .inl (fun _ => 0))), (a83_10, .inl (k83_10, 16, .inl (fun _ => 0))), (a90_11, .inl (k90_11, 4, .inl (fun _ => 0)))] := hD
  exact wr_v (q := (fun i => match i with | 0 => a6_1 | 1 => a13_2 | 2 => a27_3 | 3 => a35_4 | 4 => a43_5 | 5 => a51_6 | 6 => a59_7 | 7 => a67_8 | 8 => a75_9 | 9 => a83_10 | 10 => a90_11 | _ => 0)) (k := (fun i => match i with | 0 => k6_1 | 1 => k13_2 | 2 => k27_3 | _ => k6_1)) (g := (fun _ => fun _ => 0)) (gl := (fun _ => fun _ => 0)) hx hb hr hlocks hS (hP.sub [0, 1, 2, 3] rfl) (hK.sub [0, 1, 2] rfl) (hD.sub [0, 1, 2, 3] (by decide) rfl) dX3_init_105
set_option maxHeartbeats 4000000 in
set_option maxRecDepth 100000 in
theorem wX6_init {l : Launch} {D : va_G} {sz : Nat} (h0 : Nat) (a1 : Nat) (b0 : Nat) (b1 : Nat) (b2 : Nat) (b3 : Nat) (b4 : Nat) (b5 : Nat) (b6 : Nat) (b7 : Nat) : Wv l yX6_init cX6_init 2 1 4 2072 D [(h0, .inr (6, [.null, .null, .null, .null, .int 0, .int 0, .int 0, .int 0, .null, .int 0, .int 0, .null, .null, .int 0])), (a1, .inr (5, [.int 0, .int 0, .int 0, .int 0, .ref b0, .ref b1, .ref b2, .ref b3, .ref b4, .int 0, .int 0, .int 0, .ref b5, .ref b6, .ref b7, .int 0]))] [] [.ref h0, .ref a1] sz (fun _ => True) (fun q k g gl => [(h0, .inr (6, [.ref a1, .ref b5, .ref b6, .ref (q 0), .int 0, .int 0, .int 0, .int 0, .ref (q 1), .int 0, .int 1, .ref (q 2), .ref (q 3), .int (-1)])), ((q 2), .inl ((k 2), 4, .inl (fun _ => 0))), (a1, .inr (5, [.int 0, .int 0, .int 0, .int 0, .ref b0, .ref b1, .ref b2, .ref b3, .ref b4, .int 0, .int 0, .int 0, .ref b5, .ref b6, .ref b7, .int 0]))]) (fun k => [((k 2), .int)]) := by
  refine Wv.of (by decide) (Nat.le_of_ble_eq_true rfl) ?_
  intro p e s m below meth c ls A hx hb hr hml hown hts hlocks hin hP hK hD hA hS hE hAe hl
  have hown : s.vm.findClass "SignalTable$Open" = some m.cls := hown
  have hin : meth.name = "<init>" := hin
  skip
  have hl : lv_has ls 2 [(0, .ref h0), (1, .ref a1)] := hl
  refine lv_aload_n hx hb dX6_init_0 rfl (lv_at hl 0 rfl) ?_
  refine W.objInit hx hb hown (hts _ kw_520) (hts _ kw_180) (hts _ kw_181) rfl (by rw [hml]; exact hl.1) rfl dX6_init_1 (by decide) (Nat.le_of_ble_eq_true rfl) ?_
  refine W.eq (g2 := F0 m 4 ls []) rfl ?_
  refine lv_aload_n hx hb dX6_init_4 rfl (lv_at hl 0 rfl) ?_
  refine lv_iconst (v := 4) hx hb dX6_init_5 (by decide) ?_
  refine va_newa (atype := .int) (a0 := (4, .inl (fun _ => 0))) (ty := .int) hx hb (hts _ kw_280) rfl hK hP hD hS hA (fun _ => rfl) (by decide) (by decide) (by decide) (by decide) (by decide) dX6_init_6 (fun a6_1 k6_1 H hK hP hD hS => ?_)
  have hP : va_P D vwCl [(h0, .inr (6, [.null, .null, .null, .null, .int 0, .int 0, .int 0, .int 0, .null, .int 0, .int 0, .null, .null, .int 0])), (a1, .inr (5, [.int 0, .int 0, .int 0, .int 0, .ref b0, .ref b1, .ref b2, .ref b3, .ref b4, .int 0, .int 0, .int 0, .ref b5, .ref b6, .ref b7, .int 0])), (a6_1, .inl (k6_1, 4, .inl (fun _ => 0)))] H := hP
  have hD : va_D A [(h0, .inr (6, [.null, .null, .null, .null, .int 0, .int 0, .int 0, .int 0, .null, .int 0, .int 0, .null, .null, .int 0])), (a1, .inr (5, [.int 0, .int 0, .int 0, .int 0, .ref b0, .ref b1, .ref b2, .ref b3, .ref b4, .int 0, .int 0, .int 0, .ref b5, .ref b6, .ref b7, .int 0])), (a6_1, .inl (k6_1, 4, .inl (fun _ => 0)))] := hD
  have hK : va_K D vwCl [(k6_1, .int)] s := hK
  refine W.cs (cells' := 1) (slots' := 4) rfl rfl ?_
  refine va_putF (D := D) (ci := 6) (v := .ref a6_1) (ty := .array .int) (C := RX6) (T := TX6) (N := 14) hx hb hts inX6 tyX6 tyX6_ok nmX6 hown hK hP hD hS 0 rfl rfl 3 (by decide) (hts _ kw_524) (fun _ h9 => h9) rfl hin rfl (by decide +kernel) rfl rfl (Nat.le_of_ble_eq_true rfl) dX6_init_8 (fun H locs hP hD hS => ?_)
  have hP : va_P D vwCl [(h0, .inr (6, [.null, .null, .null, .ref a6_1, .int 0, .int 0, .int 0, .int 0, .null, .int 0, .int 0, .null, .null, .int 0])), (a1, .inr (5, [.int 0, .int 0, .int 0, .int 0, .ref b0, .ref b1, .ref b2, .ref b3, .ref b4, .int 0, .int 0, .int 0, .ref b5, .ref b6, .ref b7, .int 0])), (a6_1, .inl (k6_1, 4, .inl (fun _ => 0)))] H := hP
  have hD : va_D A [(h0, .inr (6, [.null, .null, .null, .ref a6_1, .int 0, .int 0, .int 0, .int 0, .null, .int 0, .int 0, .null, .null, .int 0])), (a1, .inr (5, [.int 0, .int 0, .int 0, .int 0, .ref b0, .ref b1, .ref b2, .ref b3, .ref b4, .int 0, .int 0, .int 0, .ref b5, .ref b6, .ref b7, .int 0])), (a6_1, .inl (k6_1, 4, .inl (fun _ => 0)))] := hD
  refine lv_aload_n hx hb dX6_init_11 rfl (lv_at hl 0 rfl) ?_
  refine lv_sipush (v := 2048) hx hb dX6_init_12 (by decide) ?_
  refine va_newa (atype := .int) (a0 := (2048, .inl (fun _ => 0))) (ty := .int) hx hb (hts _ kw_280) rfl hK hP hD hS hA (fun _ => rfl) (by decide) (by decide) (by decide) (by decide) (by decide) dX6_init_15 (fun a15_2 k15_2 H hK hP hD hS => ?_)
  have hP : va_P D vwCl [(h0, .inr (6, [.null, .null, .null, .ref a6_1, .int 0, .int 0, .int 0, .int 0, .null, .int 0, .int 0, .null, .null, .int 0])), (a1, .inr (5, [.int 0, .int 0, .int 0, .int 0, .ref b0, .ref b1, .ref b2, .ref b3, .ref b4, .int 0, .int 0, .int 0, .ref b5, .ref b6, .ref b7, .int 0])), (a6_1, .inl (k6_1, 4, .inl (fun _ => 0))), (a15_2, .inl (k15_2, 2048, .inl (fun _ => 0)))] H := hP
  have hD : va_D A [(h0, .inr (6, [.null, .null, .null, .ref a6_1, .int 0, .int 0, .int 0, .int 0, .null, .int 0, .int 0, .null, .null, .int 0])), (a1, .inr (5, [.int 0, .int 0, .int 0, .int 0, .ref b0, .ref b1, .ref b2, .ref b3, .ref b4, .int 0, .int 0, .int 0, .ref b5, .ref b6, .ref b7, .int 0])), (a6_1, .inl (k6_1, 4, .inl (fun _ => 0))), (a15_2, .inl (k15_2, 2048, .inl (fun _ => 0)))] := hD
  have hK : va_K D vwCl [(k6_1, .int), (k15_2, .int)] s := hK
  refine W.cs (cells' := 2) (slots' := 2052) rfl rfl ?_
  refine va_putF (D := D) (ci := 6) (v := .ref a15_2) (ty := .array .int) (C := RX6) (T := TX6) (N := 14) hx hb hts inX6 tyX6 tyX6_ok nmX6 hown hK hP hD hS 0 rfl rfl 8 (by decide) (hts _ kw_531) (fun _ h9 => h9) rfl hin rfl (by decide +kernel) rfl rfl (Nat.le_of_ble_eq_true rfl) dX6_init_17 (fun H locs hP hD hS => ?_)
  have hP : va_P D vwCl [(h0, .inr (6, [.null, .null, .null, .ref a6_1, .int 0, .int 0, .int 0, .int 0, .ref a15_2, .int 0, .int 0, .null, .null, .int 0])), (a1, .inr (5, [.int 0, .int 0, .int 0, .int 0, .ref b0, .ref b1, .ref b2, .ref b3, .ref b4, .int 0, .int 0, .int 0, .ref b5, .ref b6, .ref b7, .int 0])), (a6_1, .inl (k6_1, 4, .inl (fun _ => 0))), (a15_2, .inl (k15_2, 2048, .inl (fun _ => 0)))] H := hP
  have hD : va_D A [(h0, .inr (6, [.null, .null, .null, .ref a6_1, .int 0, .int 0, .int 0, .int 0, .ref a15_2, .int 0, .int 0, .null, .null, .int 0])), (a1, .inr (5, [.int 0, .int 0, .int 0, .int 0, .ref b0, .ref b1, .ref b2, .ref b3, .ref b4, .int 0, .int 0, .int 0, .ref b5, .ref b6, .ref b7, .int 0])), (a6_1, .inl (k6_1, 4, .inl (fun _ => 0))), (a15_2, .inl (k15_2, 2048, .inl (fun _ => 0)))] := hD
  refine lv_aload_n hx hb dX6_init_20 rfl (lv_at hl 0 rfl) ?_
  refine lv_iconst (v := 1) hx hb dX6_init_21 (by decide) ?_
  refine W.eq (g2 := F0 m 22 ls [.int 1, .ref h0]) rfl ?_
  refine va_put (D := D) (ci := 6) (v := .int 1) (ty := .int) (C := RX6) (T := TX6) (N := 14) hx hb hts inX6 tyX6 tyX6_ok nmX6 hown hK hP hD hS 0 rfl rfl 10 (by decide) (hts _ kw_533) (fun _ h9 => h9) rfl (by decide +kernel) rfl rfl (Nat.le_of_ble_eq_true rfl) dX6_init_22 (fun H locs hP hD hS => ?_)
  have hP : va_P D vwCl [(h0, .inr (6, [.null, .null, .null, .ref a6_1, .int 0, .int 0, .int 0, .int 0, .ref a15_2, .int 0, .int 1, .null, .null, .int 0])), (a1, .inr (5, [.int 0, .int 0, .int 0, .int 0, .ref b0, .ref b1, .ref b2, .ref b3, .ref b4, .int 0, .int 0, .int 0, .ref b5, .ref b6, .ref b7, .int 0])), (a6_1, .inl (k6_1, 4, .inl (fun _ => 0))), (a15_2, .inl (k15_2, 2048, .inl (fun _ => 0)))] H := hP
  have hD : va_D A [(h0, .inr (6, [.null, .null, .null, .ref a6_1, .int 0, .int 0, .int 0, .int 0, .ref a15_2, .int 0, .int 1, .null, .null, .int 0])), (a1, .inr (5, [.int 0, .int 0, .int 0, .int 0, .ref b0, .ref b1, .ref b2, .ref b3, .ref b4, .int 0, .int 0, .int 0, .ref b5, .ref b6, .ref b7, .int 0])), (a6_1, .inl (k6_1, 4, .inl (fun _ => 0))), (a15_2, .inl (k15_2, 2048, .inl (fun _ => 0)))] := hD
  refine lv_aload_n hx hb dX6_init_25 rfl (lv_at hl 0 rfl) ?_
  refine lv_iconst (v := 4) hx hb dX6_init_26 (by decide) ?_
  refine va_newa (atype := .int) (a0 := (4, .inl (fun _ => 0))) (ty := .int) hx hb (hts _ kw_280) rfl hK hP hD hS hA (fun _ => rfl) (by decide) (by decide) (by decide) (by decide) (by decide) dX6_init_27 (fun a27_3 k27_3 H hK hP hD hS => ?_)
  have hP : va_P D vwCl [(h0, .inr (6, [.null, .null, .null, .ref a6_1, .int 0, .int 0, .int 0, .int 0, .ref a15_2, .int 0, .int 1, .null, .null, .int 0])), (a1, .inr (5, [.int 0, .int 0, .int 0, .int 0, .ref b0, .ref b1, .ref b2, .ref b3, .ref b4, .int 0, .int 0, .int 0, .ref b5, .ref b6, .ref b7, .int 0])), (a6_1, .inl (k6_1, 4, .inl (fun _ => 0))), (a15_2, .inl (k15_2, 2048, .inl (fun _ => 0))), (a27_3, .inl (k27_3, 4, .inl (fun _ => 0)))] H := hP
  have hD : va_D A [(h0, .inr (6, [.null, .null, .null, .ref a6_1, .int 0, .int 0, .int 0, .int 0, .ref a15_2, .int 0, .int 1, .null, .null, .int 0])), (a1, .inr (5, [.int 0, .int 0, .int 0, .int 0, .ref b0, .ref b1, .ref b2, .ref b3, .ref b4, .int 0, .int 0, .int 0, .ref b5, .ref b6, .ref b7, .int 0])), (a6_1, .inl (k6_1, 4, .inl (fun _ => 0))), (a15_2, .inl (k15_2, 2048, .inl (fun _ => 0))), (a27_3, .inl (k27_3, 4, .inl (fun _ => 0)))] := hD
  have hK : va_K D vwCl [(k6_1, .int), (k15_2, .int), (k27_3, .int)] s := hK
  refine W.cs (cells' := 3) (slots' := 2056) rfl rfl ?_
  refine va_putF (D := D) (ci := 6) (v := .ref a27_3) (ty := .array .int) (C := RX6) (T := TX6) (N := 14) hx hb hts inX6 tyX6 tyX6_ok nmX6 hown hK hP hD hS 0 rfl rfl 11 (by decide) (hts _ kw_534) (fun _ h9 => h9) rfl hin rfl (by decide +kernel) rfl rfl (Nat.le_of_ble_eq_true rfl) dX6_init_29 (fun H locs hP hD hS => ?_)
  have hP : va_P D vwCl [(h0, .inr (6, [.null, .null, .null, .ref a6_1, .int 0, .int 0, .int 0, .int 0, .ref a15_2, .int 0, .int 1, .ref a27_3, .null, .int 0])), (a1, .inr (5, [.int 0, .int 0, .int 0, .int 0, .ref b0, .ref b1, .ref b2, .ref b3, .ref b4, .int 0, .int 0, .int 0, .ref b5, .ref b6, .ref b7, .int 0])), (a6_1, .inl (k6_1, 4, .inl (fun _ => 0))), (a15_2, .inl (k15_2, 2048, .inl (fun _ => 0))), (a27_3, .inl (k27_3, 4, .inl (fun _ => 0)))] H := hP
  have hD : va_D A [(h0, .inr (6, [.null, .null, .null, .ref a6_1, .int 0, .int 0, .int 0, .int 0, .ref a15_2, .int 0, .int 1, .ref a27_3, .null, .int 0])), (a1, .inr (5, [.int 0, .int 0, .int 0, .int 0, .ref b0, .ref b1, .ref b2, .ref b3, .ref b4, .int 0, .int 0, .int 0, .ref b5, .ref b6, .ref b7, .int 0])), (a6_1, .inl (k6_1, 4, .inl (fun _ => 0))), (a15_2, .inl (k15_2, 2048, .inl (fun _ => 0))), (a27_3, .inl (k27_3, 4, .inl (fun _ => 0)))] := hD
  refine lv_aload_n hx hb dX6_init_32 rfl (lv_at hl 0 rfl) ?_
  refine lv_bipush (v := 16) hx hb dX6_init_33 (by decide) ?_
  refine va_newa (atype := .int) (a0 := (16, .inl (fun _ => 0))) (ty := .int) hx hb (hts _ kw_280) rfl hK hP hD hS hA (fun _ => rfl) (by decide) (by decide) (by decide) (by decide) (by decide) dX6_init_35 (fun a35_4 k35_4 H hK hP hD hS => ?_)
  have hP : va_P D vwCl [(h0, .inr (6, [.null, .null, .null, .ref a6_1, .int 0, .int 0, .int 0, .int 0, .ref a15_2, .int 0, .int 1, .ref a27_3, .null, .int 0])), (a1, .inr (5, [.int 0, .int 0, .int 0, .int 0, .ref b0, .ref b1, .ref b2, .ref b3, .ref b4, .int 0, .int 0, .int 0, .ref b5, .ref b6, .ref b7, .int 0])), (a6_1, .inl (k6_1, 4, .inl (fun _ => 0))), (a15_2, .inl (k15_2, 2048, .inl (fun _ => 0))), (a27_3, .inl (k27_3, 4, .inl (fun _ => 0))), (a35_4, .inl (k35_4, 16, .inl (fun _ => 0)))] H := hP
  have hD : va_D A [(h0, .inr (6, [.null, .null, .null, .ref a6_1, .int 0, .int 0, .int 0, .int 0, .ref a15_2, .int 0, .int 1, .ref a27_3, .null, .int 0])), (a1, .inr (5, [.int 0, .int 0, .int 0, .int 0, .ref b0, .ref b1, .ref b2, .ref b3, .ref b4, .int 0, .int 0, .int 0, .ref b5, .ref b6, .ref b7, .int 0])), (a6_1, .inl (k6_1, 4, .inl (fun _ => 0))), (a15_2, .inl (k15_2, 2048, .inl (fun _ => 0))), (a27_3, .inl (k27_3, 4, .inl (fun _ => 0))), (a35_4, .inl (k35_4, 16, .inl (fun _ => 0)))] := hD
  have hK : va_K D vwCl [(k6_1, .int), (k15_2, .int), (k27_3, .int), (k35_4, .int)] s := hK
  refine W.cs (cells' := 4) (slots' := 2072) rfl rfl ?_
  refine va_putF (D := D) (ci := 6) (v := .ref a35_4) (ty := .array .int) (C := RX6) (T := TX6) (N := 14) hx hb hts inX6 tyX6 tyX6_ok nmX6 hown hK hP hD hS 0 rfl rfl 12 (by decide) (hts _ kw_535) (fun _ h9 => h9) rfl hin rfl (by decide +kernel) rfl rfl (Nat.le_of_ble_eq_true rfl) dX6_init_37 (fun H locs hP hD hS => ?_)
  have hP : va_P D vwCl [(h0, .inr (6, [.null, .null, .null, .ref a6_1, .int 0, .int 0, .int 0, .int 0, .ref a15_2, .int 0, .int 1, .ref a27_3, .ref a35_4, .int 0])), (a1, .inr (5, [.int 0, .int 0, .int 0, .int 0, .ref b0, .ref b1, .ref b2, .ref b3, .ref b4, .int 0, .int 0, .int 0, .ref b5, .ref b6, .ref b7, .int 0])), (a6_1, .inl (k6_1, 4, .inl (fun _ => 0))), (a15_2, .inl (k15_2, 2048, .inl (fun _ => 0))), (a27_3, .inl (k27_3, 4, .inl (fun _ => 0))), (a35_4, .inl (k35_4, 16, .inl (fun _ => 0)))] H := hP
  have hD : va_D A [(h0, .inr (6, [.null, .null, .null, .ref a6_1, .int 0, .int 0, .int 0, .int 0, .ref a15_2, .int 0, .int 1, .ref a27_3, .ref a35_4, .int 0])), (a1, .inr (5, [.int 0, .int 0, .int 0, .int 0, .ref b0, .ref b1, .ref b2, .ref b3, .ref b4, .int 0, .int 0, .int 0, .ref b5, .ref b6, .ref b7, .int 0])), (a6_1, .inl (k6_1, 4, .inl (fun _ => 0))), (a15_2, .inl (k15_2, 2048, .inl (fun _ => 0))), (a27_3, .inl (k27_3, 4, .inl (fun _ => 0))), (a35_4, .inl (k35_4, 16, .inl (fun _ => 0)))] := hD
  refine lv_aload_n hx hb dX6_init_40 rfl (lv_at hl 0 rfl) ?_
  refine W.eq (g2 := F0 m 41 ls [.ref h0]) rfl ?_
  refine lv_iconst (v := (-1)) hx hb dX6_init_41 (by decide) ?_
  refine va_put (D := D) (ci := 6) (v := .int (-1)) (ty := .int) (C := RX6) (T := TX6) (N := 14) hx hb hts inX6 tyX6 tyX6_ok nmX6 hown hK hP hD hS 0 rfl rfl 13 (by decide) (hts _ kw_536) (fun _ h9 => h9) rfl (by decide +kernel) rfl rfl (Nat.le_of_ble_eq_true rfl) dX6_init_42 (fun H locs hP hD hS => ?_)
  have hP : va_P D vwCl [(h0, .inr (6, [.null, .null, .null, .ref a6_1, .int 0, .int 0, .int 0, .int 0, .ref a15_2, .int 0, .int 1, .ref a27_3, .ref a35_4, .int (-1)])), (a1, .inr (5, [.int 0, .int 0, .int 0, .int 0, .ref b0, .ref b1, .ref b2, .ref b3, .ref b4, .int 0, .int 0, .int 0, .ref b5, .ref b6, .ref b7, .int 0])), (a6_1, .inl (k6_1, 4, .inl (fun _ => 0))), (a15_2, .inl (k15_2, 2048, .inl (fun _ => 0))), (a27_3, .inl (k27_3, 4, .inl (fun _ => 0))), (a35_4, .inl (k35_4, 16, .inl (fun _ => 0)))] H := hP
  have hD : va_D A [(h0, .inr (6, [.null, .null, .null, .ref a6_1, .int 0, .int 0, .int 0, .int 0, .ref a15_2, .int 0, .int 1, .ref a27_3, .ref a35_4, .int (-1)])), (a1, .inr (5, [.int 0, .int 0, .int 0, .int 0, .ref b0, .ref b1, .ref b2, .ref b3, .ref b4, .int 0, .int 0, .int 0, .ref b5, .ref b6, .ref b7, .int 0])), (a6_1, .inl (k6_1, 4, .inl (fun _ => 0))), (a15_2, .inl (k15_2, 2048, .inl (fun _ => 0))), (a27_3, .inl (k27_3, 4, .inl (fun _ => 0))), (a35_4, .inl (k35_4, 16, .inl (fun _ => 0)))] := hD
  refine lv_aload_n hx hb dX6_init_45 rfl (lv_at hl 0 rfl) ?_
  refine lv_aload_n hx hb dX6_init_46 rfl (lv_at hl 1 rfl) ?_
  refine va_putF (D := D) (ci := 6) (v := .ref a1) (ty := .object "SignalTable$Laws") (C := RX6) (T := TX6) (N := 14) hx hb hts inX6 tyX6 tyX6_ok nmX6 hown hK hP hD hS 0 rfl rfl 0 (by decide) (hts _ kw_521) (fun _ h9 => h9) rfl hin rfl (by decide +kernel) rfl rfl (Nat.le_of_ble_eq_true rfl) dX6_init_47 (fun H locs hP hD hS => ?_)
  have hP : va_P D vwCl [(h0, .inr (6, [.ref a1, .null, .null, .ref a6_1, .int 0, .int 0, .int 0, .int 0, .ref a15_2, .int 0, .int 1, .ref a27_3, .ref a35_4, .int (-1)])), (a1, .inr (5, [.int 0, .int 0, .int 0, .int 0, .ref b0, .ref b1, .ref b2, .ref b3, .ref b4, .int 0, .int 0, .int 0, .ref b5, .ref b6, .ref b7, .int 0])), (a6_1, .inl (k6_1, 4, .inl (fun _ => 0))), (a15_2, .inl (k15_2, 2048, .inl (fun _ => 0))), (a27_3, .inl (k27_3, 4, .inl (fun _ => 0))), (a35_4, .inl (k35_4, 16, .inl (fun _ => 0)))] H := hP
  have hD : va_D A [(h0, .inr (6, [.ref a1, .null, .null, .ref a6_1, .int 0, .int 0, .int 0, .int 0, .ref a15_2, .int 0, .int 1, .ref a27_3, .ref a35_4, .int (-1)])), (a1, .inr (5, [.int 0, .int 0, .int 0, .int 0, .ref b0, .ref b1, .ref b2, .ref b3, .ref b4, .int 0, .int 0, .int 0, .ref b5, .ref b6, .ref b7, .int 0])), (a6_1, .inl (k6_1, 4, .inl (fun _ => 0))), (a15_2, .inl (k15_2, 2048, .inl (fun _ => 0))), (a27_3, .inl (k27_3, 4, .inl (fun _ => 0))), (a35_4, .inl (k35_4, 16, .inl (fun _ => 0)))] := hD
  refine lv_aload_n hx hb dX6_init_50 rfl (lv_at hl 0 rfl) ?_
  refine lv_aload_n hx hb dX6_init_51 rfl (lv_at hl 1 rfl) ?_
  refine va_get (D := D) (ci := 5) (v := .ref b5) (C := RX5) (T := TX5) (N := 16) hx hb hts inX5 hown hK hP 1 rfl rfl 12 (by decide) (hts _ kw_232) (fun _ h9 => h9) rfl dX6_init_52 ?_
  refine va_putF (D := D) (ci := 6) (v := .ref b5) (ty := .array .int) (C := RX6) (T := TX6) (N := 14) hx hb hts inX6 tyX6 tyX6_ok nmX6 hown hK hP hD hS 0 rfl rfl 1 (by decide) (hts _ kw_522) (fun _ h9 => h9) rfl hin rfl (by decide +kernel) rfl rfl (Nat.le_of_ble_eq_true rfl) dX6_init_55 (fun H locs hP hD hS => ?_)
  have hP : va_P D vwCl [(h0, .inr (6, [.ref a1, .ref b5, .null, .ref a6_1, .int 0, .int 0, .int 0, .int 0, .ref a15_2, .int 0, .int 1, .ref a27_3, .ref a35_4, .int (-1)])), (a1, .inr (5, [.int 0, .int 0, .int 0, .int 0, .ref b0, .ref b1, .ref b2, .ref b3, .ref b4, .int 0, .int 0, .int 0, .ref b5, .ref b6, .ref b7, .int 0])), (a6_1, .inl (k6_1, 4, .inl (fun _ => 0))), (a15_2, .inl (k15_2, 2048, .inl (fun _ => 0))), (a27_3, .inl (k27_3, 4, .inl (fun _ => 0))), (a35_4, .inl (k35_4, 16, .inl (fun _ => 0)))] H := hP
  have hD : va_D A [(h0, .inr (6, [.ref a1, .ref b5, .null, .ref a6_1, .int 0, .int 0, .int 0, .int 0, .ref a15_2, .int 0, .int 1, .ref a27_3, .ref a35_4, .int (-1)])), (a1, .inr (5, [.int 0, .int 0, .int 0, .int 0, .ref b0, .ref b1, .ref b2, .ref b3, .ref b4, .int 0, .int 0, .int 0, .ref b5, .ref b6, .ref b7, .int 0])), (a6_1, .inl (k6_1, 4, .inl (fun _ => 0))), (a15_2, .inl (k15_2, 2048, .inl (fun _ => 0))), (a27_3, .inl (k27_3, 4, .inl (fun _ => 0))), (a35_4, .inl (k35_4, 16, .inl (fun _ => 0)))] := hD
  refine lv_aload_n hx hb dX6_init_58 rfl (lv_at hl 0 rfl) ?_
  refine W.eq (g2 := F0 m 59 ls [.ref h0]) rfl ?_
  refine lv_aload_n hx hb dX6_init_59 rfl (lv_at hl 1 rfl) ?_
  refine va_get (D := D) (ci := 5) (v := .ref b6) (C := RX5) (T := TX5) (N := 16) hx hb hts inX5 hown hK hP 1 rfl rfl 13 (by decide) (hts _ kw_237) (fun _ h9 => h9) rfl dX6_init_60 ?_
  refine va_putF (D := D) (ci := 6) (v := .ref b6) (ty := .array .int) (C := RX6) (T := TX6) (N := 14) hx hb hts inX6 tyX6 tyX6_ok nmX6 hown hK hP hD hS 0 rfl rfl 2 (by decide) (hts _ kw_523) (fun _ h9 => h9) rfl hin rfl (by decide +kernel) rfl rfl (Nat.le_of_ble_eq_true rfl) dX6_init_63 (fun H locs hP hD hS => ?_)
  have hP : va_P D vwCl [(h0, .inr (6, [.ref a1, .ref b5, .ref b6, .ref a6_1, .int 0, .int 0, .int 0, .int 0, .ref a15_2, .int 0, .int 1, .ref a27_3, .ref a35_4, .int (-1)])), (a1, .inr (5, [.int 0, .int 0, .int 0, .int 0, .ref b0, .ref b1, .ref b2, .ref b3, .ref b4, .int 0, .int 0, .int 0, .ref b5, .ref b6, .ref b7, .int 0])), (a6_1, .inl (k6_1, 4, .inl (fun _ => 0))), (a15_2, .inl (k15_2, 2048, .inl (fun _ => 0))), (a27_3, .inl (k27_3, 4, .inl (fun _ => 0))), (a35_4, .inl (k35_4, 16, .inl (fun _ => 0)))] H := hP
  have hD : va_D A [(h0, .inr (6, [.ref a1, .ref b5, .ref b6, .ref a6_1, .int 0, .int 0, .int 0, .int 0, .ref a15_2, .int 0, .int 1, .ref a27_3, .ref a35_4, .int (-1)])), (a1, .inr (5, [.int 0, .int 0, .int 0, .int 0, .ref b0, .ref b1, .ref b2, .ref b3, .ref b4, .int 0, .int 0, .int 0, .ref b5, .ref b6, .ref b7, .int 0])), (a6_1, .inl (k6_1, 4, .inl (fun _ => 0))), (a15_2, .inl (k15_2, 2048, .inl (fun _ => 0))), (a27_3, .inl (k27_3, 4, .inl (fun _ => 0))), (a35_4, .inl (k35_4, 16, .inl (fun _ => 0)))] := hD
  exact wr_v (q := (fun i => match i with | 0 => a6_1 | 1 => a15_2 | 2 => a27_3 | 3 => a35_4 | _ => 0)) (k := (fun i => match i with | 2 => k27_3 | _ => k27_3)) (g := (fun _ => fun _ => 0)) (gl := (fun _ => fun _ => 0)) hx hb hr hlocks hS (hP.sub [0, 4, 1] rfl) (hK.sub [2] rfl) (hD.sub [0, 4, 1] (by decide) rfl) dX6_init_66
set_option maxHeartbeats 4000000 in
set_option maxRecDepth 100000 in
theorem wX1_init {l : Launch} {D : va_G} {sz : Nat} (h0 : Nat) (a1 : Nat) (a2 : Nat) : Wv l yX1_init cX1_init 3 1 13 6096 D [(h0, .inr (1, [.null, .null, .null, .null, .null, .null, .null, .int 0, .int 0, .int 0, .int 0, .int 0, .int 0]))] [] [.ref h0, .ref a1, .ref a2] sz (fun U => AOA .int U ∧ AOA .long U) (fun q k g gl => []) (fun k => []) := by
  refine Wv.of (by decide) (Nat.le_of_ble_eq_true rfl) ?_
  intro p e s m below meth c ls A hx hb hr hml hown hts hlocks hin hP hK hD hA hS hE hAe hl
  have hown : s.vm.findClass "SignalTable$Deals" = some m.cls := hown
  have hin : meth.name = "<init>" := hin
  skip
  have hl : lv_has ls 3 [(0, .ref h0), (1, .ref a1), (2, .ref a2)] := hl
  refine lv_aload_n hx hb dX1_init_0 rfl (lv_at hl 0 rfl) ?_
  refine W.objInit hx hb hown (hts _ kw_571) (hts _ kw_180) (hts _ kw_181) rfl (by rw [hml]; exact hl.1) rfl dX1_init_1 (by decide) (Nat.le_of_ble_eq_true rfl) ?_
  refine W.eq (g2 := F0 m 4 ls []) rfl ?_
  refine lv_aload_n hx hb dX1_init_4 rfl (lv_at hl 0 rfl) ?_
  refine lv_iconst (v := 4) hx hb dX1_init_5 (by decide) ?_
  refine lv_sipush (v := 495) hx hb dX1_init_6 (by decide) ?_
  refine z_mna (ty := .int) (N' := 4) (K' := 495) hx hb hown (hts _ kw_572) hE.1 (hts _ kw_280) hP hS (by decide) (by decide) rfl rfl (by decide) (by decide) (by decide) rfl rfl (by decide) (by decide) dX1_init_9 (fun a9_1 H hP hS => ?_)
  have hP : va_P D vwCl [(h0, .inr (1, [.null, .null, .null, .null, .null, .null, .null, .int 0, .int 0, .int 0, .int 0, .int 0, .int 0]))] H := hP
  have hD : va_D A [(h0, .inr (1, [.null, .null, .null, .null, .null, .null, .null, .int 0, .int 0, .int 0, .int 0, .int 0, .int 0]))] := hD
  refine W.cs (cells' := 5) (slots' := 1984) rfl rfl ?_
  refine va_putF (D := D) (ci := 1) (v := .ref a9_1) (ty := .array (.array .int)) (C := RX1) (T := TX1) (N := 13) hx hb hts inX1 tyX1 tyX1_ok nmX1 hown hK hP hD hS 0 rfl rfl 2 (by decide) (hts _ kw_578) (fun _ h9 => h9) rfl hin rfl (by decide +kernel) rfl rfl (Nat.le_of_ble_eq_true rfl) dX1_init_13 (fun H locs hP hD hS => ?_)
  have hP : va_P D vwCl [(h0, .inr (1, [.null, .null, .ref a9_1, .null, .null, .null, .null, .int 0, .int 0, .int 0, .int 0, .int 0, .int 0]))] H := hP
  have hD : va_D A [(h0, .inr (1, [.null, .null, .ref a9_1, .null, .null, .null, .null, .int 0, .int 0, .int 0, .int 0, .int 0, .int 0]))] := hD
  refine lv_aload_n hx hb dX1_init_16 rfl (lv_at hl 0 rfl) ?_
  refine lv_iconst (v := 4) hx hb dX1_init_17 (by decide) ?_
  refine va_newa (atype := .int) (a0 := (4, .inl (fun _ => 0))) (ty := .int) hx hb (hts _ kw_280) rfl hK hP hD hS hA (fun _ => rfl) (by decide) (by decide) (by decide) (by decide) (by decide) dX1_init_18 (fun a18_2 k18_2 H hK hP hD hS => ?_)
  have hP : va_P D vwCl [(h0, .inr (1, [.null, .null, .ref a9_1, .null, .null, .null, .null, .int 0, .int 0, .int 0, .int 0, .int 0, .int 0])), (a18_2, .inl (k18_2, 4, .inl (fun _ => 0)))] H := hP
  have hD : va_D A [(h0, .inr (1, [.null, .null, .ref a9_1, .null, .null, .null, .null, .int 0, .int 0, .int 0, .int 0, .int 0, .int 0])), (a18_2, .inl (k18_2, 4, .inl (fun _ => 0)))] := hD
  have hK : va_K D vwCl [(k18_2, .int)] s := hK
  refine W.cs (cells' := 6) (slots' := 1988) rfl rfl ?_
  refine va_putF (D := D) (ci := 1) (v := .ref a18_2) (ty := .array .int) (C := RX1) (T := TX1) (N := 13) hx hb hts inX1 tyX1 tyX1_ok nmX1 hown hK hP hD hS 0 rfl rfl 3 (by decide) (hts _ kw_579) (fun _ h9 => h9) rfl hin rfl (by decide +kernel) rfl rfl (Nat.le_of_ble_eq_true rfl) dX1_init_20 (fun H locs hP hD hS => ?_)
  have hP : va_P D vwCl [(h0, .inr (1, [.null, .null, .ref a9_1, .ref a18_2, .null, .null, .null, .int 0, .int 0, .int 0, .int 0, .int 0, .int 0])), (a18_2, .inl (k18_2, 4, .inl (fun _ => 0)))] H := hP
  have hD : va_D A [(h0, .inr (1, [.null, .null, .ref a9_1, .ref a18_2, .null, .null, .null, .int 0, .int 0, .int 0, .int 0, .int 0, .int 0])), (a18_2, .inl (k18_2, 4, .inl (fun _ => 0)))] := hD
  refine lv_aload_n hx hb dX1_init_23 rfl (lv_at hl 0 rfl) ?_
  refine W.eq (g2 := F0 m 24 ls [.ref h0]) rfl ?_
  refine lv_iconst (v := 4) hx hb dX1_init_24 (by decide) ?_
  refine lv_sipush (v := 1024) hx hb dX1_init_25 (by decide) ?_
  refine z_mna (ty := .long) (N' := 4) (K' := 1024) hx hb hown (hts _ kw_574) hE.2 (hts _ kw_378) hP hS (by decide) (by decide) rfl rfl (by decide) (by decide) (by decide) rfl rfl (by decide) (by decide) dX1_init_28 (fun a28_3 H hP hS => ?_)
  have hP : va_P D vwCl [(h0, .inr (1, [.null, .null, .ref a9_1, .ref a18_2, .null, .null, .null, .int 0, .int 0, .int 0, .int 0, .int 0, .int 0])), (a18_2, .inl (k18_2, 4, .inl (fun _ => 0)))] H := hP
  have hD : va_D A [(h0, .inr (1, [.null, .null, .ref a9_1, .ref a18_2, .null, .null, .null, .int 0, .int 0, .int 0, .int 0, .int 0, .int 0])), (a18_2, .inl (k18_2, 4, .inl (fun _ => 0)))] := hD
  refine W.cs (cells' := 11) (slots' := 6088) rfl rfl ?_
  refine va_putF (D := D) (ci := 1) (v := .ref a28_3) (ty := .array (.array .long)) (C := RX1) (T := TX1) (N := 13) hx hb hts inX1 tyX1 tyX1_ok nmX1 hown hK hP hD hS 0 rfl rfl 4 (by decide) (hts _ kw_580) (fun _ h9 => h9) rfl hin rfl (by decide +kernel) rfl rfl (Nat.le_of_ble_eq_true rfl) dX1_init_32 (fun H locs hP hD hS => ?_)
  have hP : va_P D vwCl [(h0, .inr (1, [.null, .null, .ref a9_1, .ref a18_2, .ref a28_3, .null, .null, .int 0, .int 0, .int 0, .int 0, .int 0, .int 0])), (a18_2, .inl (k18_2, 4, .inl (fun _ => 0)))] H := hP
  have hD : va_D A [(h0, .inr (1, [.null, .null, .ref a9_1, .ref a18_2, .ref a28_3, .null, .null, .int 0, .int 0, .int 0, .int 0, .int 0, .int 0])), (a18_2, .inl (k18_2, 4, .inl (fun _ => 0)))] := hD
  refine lv_aload_n hx hb dX1_init_35 rfl (lv_at hl 0 rfl) ?_
  refine lv_iconst (v := 4) hx hb dX1_init_36 (by decide) ?_
  refine va_newa (atype := .int) (a0 := (4, .inl (fun _ => 0))) (ty := .int) hx hb (hts _ kw_280) rfl hK hP hD hS hA (fun _ => rfl) (by decide) (by decide) (by decide) (by decide) (by decide) dX1_init_37 (fun a37_4 k37_4 H hK hP hD hS => ?_)
  have hP : va_P D vwCl [(h0, .inr (1, [.null, .null, .ref a9_1, .ref a18_2, .ref a28_3, .null, .null, .int 0, .int 0, .int 0, .int 0, .int 0, .int 0])), (a18_2, .inl (k18_2, 4, .inl (fun _ => 0))), (a37_4, .inl (k37_4, 4, .inl (fun _ => 0)))] H := hP
  have hD : va_D A [(h0, .inr (1, [.null, .null, .ref a9_1, .ref a18_2, .ref a28_3, .null, .null, .int 0, .int 0, .int 0, .int 0, .int 0, .int 0])), (a18_2, .inl (k18_2, 4, .inl (fun _ => 0))), (a37_4, .inl (k37_4, 4, .inl (fun _ => 0)))] := hD
  have hK : va_K D vwCl [(k18_2, .int), (k37_4, .int)] s := hK
  refine W.cs (cells' := 12) (slots' := 6092) rfl rfl ?_
  refine va_putF (D := D) (ci := 1) (v := .ref a37_4) (ty := .array .int) (C := RX1) (T := TX1) (N := 13) hx hb hts inX1 tyX1 tyX1_ok nmX1 hown hK hP hD hS 0 rfl rfl 5 (by decide) (hts _ kw_581) (fun _ h9 => h9) rfl hin rfl (by decide +kernel) rfl rfl (Nat.le_of_ble_eq_true rfl) dX1_init_39 (fun H locs hP hD hS => ?_)
  have hP : va_P D vwCl [(h0, .inr (1, [.null, .null, .ref a9_1, .ref a18_2, .ref a28_3, .ref a37_4, .null, .int 0, .int 0, .int 0, .int 0, .int 0, .int 0])), (a18_2, .inl (k18_2, 4, .inl (fun _ => 0))), (a37_4, .inl (k37_4, 4, .inl (fun _ => 0)))] H := hP
  have hD : va_D A [(h0, .inr (1, [.null, .null, .ref a9_1, .ref a18_2, .ref a28_3, .ref a37_4, .null, .int 0, .int 0, .int 0, .int 0, .int 0, .int 0])), (a18_2, .inl (k18_2, 4, .inl (fun _ => 0))), (a37_4, .inl (k37_4, 4, .inl (fun _ => 0)))] := hD
  refine lv_aload_n hx hb dX1_init_42 rfl (lv_at hl 0 rfl) ?_
  refine lv_iconst (v := 4) hx hb dX1_init_43 (by decide) ?_
  refine W.eq (g2 := F0 m 44 ls [.int 4, .ref h0]) rfl ?_
  refine va_newa (atype := .int) (a0 := (4, .inl (fun _ => 0))) (ty := .int) hx hb (hts _ kw_280) rfl hK hP hD hS hA (fun _ => rfl) (by decide) (by decide) (by decide) (by decide) (by decide) dX1_init_44 (fun a44_5 k44_5 H hK hP hD hS => ?_)
  have hP : va_P D vwCl [(h0, .inr (1, [.null, .null, .ref a9_1, .ref a18_2, .ref a28_3, .ref a37_4, .null, .int 0, .int 0, .int 0, .int 0, .int 0, .int 0])), (a18_2, .inl (k18_2, 4, .inl (fun _ => 0))), (a37_4, .inl (k37_4, 4, .inl (fun _ => 0))), (a44_5, .inl (k44_5, 4, .inl (fun _ => 0)))] H := hP
  have hD : va_D A [(h0, .inr (1, [.null, .null, .ref a9_1, .ref a18_2, .ref a28_3, .ref a37_4, .null, .int 0, .int 0, .int 0, .int 0, .int 0, .int 0])), (a18_2, .inl (k18_2, 4, .inl (fun _ => 0))), (a37_4, .inl (k37_4, 4, .inl (fun _ => 0))), (a44_5, .inl (k44_5, 4, .inl (fun _ => 0)))] := hD
  have hK : va_K D vwCl [(k18_2, .int), (k37_4, .int), (k44_5, .int)] s := hK
  refine W.cs (cells' := 13) (slots' := 6096) rfl rfl ?_
  refine va_putF (D := D) (ci := 1) (v := .ref a44_5) (ty := .array .int) (C := RX1) (T := TX1) (N := 13) hx hb hts inX1 tyX1 tyX1_ok nmX1 hown hK hP hD hS 0 rfl rfl 6 (by decide) (hts _ kw_582) (fun _ h9 => h9) rfl hin rfl (by decide +kernel) rfl rfl (Nat.le_of_ble_eq_true rfl) dX1_init_46 (fun H locs hP hD hS => ?_)
  have hP : va_P D vwCl [(h0, .inr (1, [.null, .null, .ref a9_1, .ref a18_2, .ref a28_3, .ref a37_4, .ref a44_5, .int 0, .int 0, .int 0, .int 0, .int 0, .int 0])), (a18_2, .inl (k18_2, 4, .inl (fun _ => 0))), (a37_4, .inl (k37_4, 4, .inl (fun _ => 0))), (a44_5, .inl (k44_5, 4, .inl (fun _ => 0)))] H := hP
  have hD : va_D A [(h0, .inr (1, [.null, .null, .ref a9_1, .ref a18_2, .ref a28_3, .ref a37_4, .ref a44_5, .int 0, .int 0, .int 0, .int 0, .int 0, .int 0])), (a18_2, .inl (k18_2, 4, .inl (fun _ => 0))), (a37_4, .inl (k37_4, 4, .inl (fun _ => 0))), (a44_5, .inl (k44_5, 4, .inl (fun _ => 0)))] := hD
  refine lv_aload_n hx hb dX1_init_49 rfl (lv_at hl 0 rfl) ?_
  refine lv_aload_n hx hb dX1_init_50 rfl (lv_at hl 1 rfl) ?_
  refine va_putF (D := D) (ci := 1) (v := .ref a1) (ty := .object "SignalTable$Laws") (C := RX1) (T := TX1) (N := 13) hx hb hts inX1 tyX1 tyX1_ok nmX1 hown hK hP hD hS 0 rfl rfl 0 (by decide) (hts _ kw_576) (fun _ h9 => h9) rfl hin rfl (by decide +kernel) rfl rfl (Nat.le_of_ble_eq_true rfl) dX1_init_51 (fun H locs hP hD hS => ?_)
  have hP : va_P D vwCl [(h0, .inr (1, [.ref a1, .null, .ref a9_1, .ref a18_2, .ref a28_3, .ref a37_4, .ref a44_5, .int 0, .int 0, .int 0, .int 0, .int 0, .int 0])), (a18_2, .inl (k18_2, 4, .inl (fun _ => 0))), (a37_4, .inl (k37_4, 4, .inl (fun _ => 0))), (a44_5, .inl (k44_5, 4, .inl (fun _ => 0)))] H := hP
  have hD : va_D A [(h0, .inr (1, [.ref a1, .null, .ref a9_1, .ref a18_2, .ref a28_3, .ref a37_4, .ref a44_5, .int 0, .int 0, .int 0, .int 0, .int 0, .int 0])), (a18_2, .inl (k18_2, 4, .inl (fun _ => 0))), (a37_4, .inl (k37_4, 4, .inl (fun _ => 0))), (a44_5, .inl (k44_5, 4, .inl (fun _ => 0)))] := hD
  refine lv_aload_n hx hb dX1_init_54 rfl (lv_at hl 0 rfl) ?_
  refine lv_aload_n hx hb dX1_init_55 rfl (lv_at hl 2 rfl) ?_
  refine va_putF (D := D) (ci := 1) (v := .ref a2) (ty := .object "SignalTable$Judge") (C := RX1) (T := TX1) (N := 13) hx hb hts inX1 tyX1 tyX1_ok nmX1 hown hK hP hD hS 0 rfl rfl 1 (by decide) (hts _ kw_577) (fun _ h9 => h9) rfl hin rfl (by decide +kernel) rfl rfl (Nat.le_of_ble_eq_true rfl) dX1_init_56 (fun H locs hP hD hS => ?_)
  have hP : va_P D vwCl [(h0, .inr (1, [.ref a1, .ref a2, .ref a9_1, .ref a18_2, .ref a28_3, .ref a37_4, .ref a44_5, .int 0, .int 0, .int 0, .int 0, .int 0, .int 0])), (a18_2, .inl (k18_2, 4, .inl (fun _ => 0))), (a37_4, .inl (k37_4, 4, .inl (fun _ => 0))), (a44_5, .inl (k44_5, 4, .inl (fun _ => 0)))] H := hP
  have hD : va_D A [(h0, .inr (1, [.ref a1, .ref a2, .ref a9_1, .ref a18_2, .ref a28_3, .ref a37_4, .ref a44_5, .int 0, .int 0, .int 0, .int 0, .int 0, .int 0])), (a18_2, .inl (k18_2, 4, .inl (fun _ => 0))), (a37_4, .inl (k37_4, 4, .inl (fun _ => 0))), (a44_5, .inl (k44_5, 4, .inl (fun _ => 0)))] := hD
  exact wr_v (q := (fun _ => 0)) (k := (fun _ => 0)) (g := (fun _ => fun _ => 0)) (gl := (fun _ => fun _ => 0)) hx hb hr hlocks hS (hP.sub [] rfl) (hK.sub [] rfl) (hD.sub [] (by decide) rfl) dX1_init_59
set_option maxHeartbeats 4000000 in
set_option maxRecDepth 100000 in
theorem wX10_init {l : Launch} {D : va_G} {sz : Nat} (h0 : Nat) (a1 : Nat) (a2 : Nat) : Wv l yX10_init cX10_init 3 1 1 80 D [(h0, .inr (10, [.null, .null, .null, .int 0, .null, .int 0, .int 0]))] [] [.ref h0, .ref a1, .ref a2] sz (fun _ => True) (fun q k g gl => [(h0, .inr (10, [.ref a1, .ref a2, .ref (q 0), .int 0, .null, .int 0, .int 0]))]) (fun k => []) := by
  refine Wv.of (by decide) (Nat.le_of_ble_eq_true rfl) ?_
  intro p e s m below meth c ls A hx hb hr hml hown hts hlocks hin hP hK hD hA hS hE hAe hl
  have hown : s.vm.findClass "SignalTable$Weigher" = some m.cls := hown
  have hin : meth.name = "<init>" := hin
  skip
  have hl : lv_has ls 3 [(0, .ref h0), (1, .ref a1), (2, .ref a2)] := hl
  refine lv_aload_n hx hb dX10_init_0 rfl (lv_at hl 0 rfl) ?_
  refine W.objInit hx hb hown (hts _ kw_622) (hts _ kw_180) (hts _ kw_181) rfl (by rw [hml]; exact hl.1) rfl dX10_init_1 (by decide) (Nat.le_of_ble_eq_true rfl) ?_
  refine W.eq (g2 := F0 m 4 ls []) rfl ?_
  refine lv_aload_n hx hb dX10_init_4 rfl (lv_at hl 0 rfl) ?_
  refine lv_bipush (v := 80) hx hb dX10_init_5 (by decide) ?_
  refine va_newa (atype := .int) (a0 := (80, .inl (fun _ => 0))) (ty := .int) hx hb (hts _ kw_280) rfl hK hP hD hS hA (fun _ => rfl) (by decide) (by decide) (by decide) (by decide) (by decide) dX10_init_7 (fun a7_1 k7_1 H hK hP hD hS => ?_)
  have hP : va_P D vwCl [(h0, .inr (10, [.null, .null, .null, .int 0, .null, .int 0, .int 0])), (a7_1, .inl (k7_1, 80, .inl (fun _ => 0)))] H := hP
  have hD : va_D A [(h0, .inr (10, [.null, .null, .null, .int 0, .null, .int 0, .int 0])), (a7_1, .inl (k7_1, 80, .inl (fun _ => 0)))] := hD
  have hK : va_K D vwCl [(k7_1, .int)] s := hK
  refine W.cs (cells' := 1) (slots' := 80) rfl rfl ?_
  refine va_putF (D := D) (ci := 10) (v := .ref a7_1) (ty := .array .int) (C := RX10) (T := TX10) (N := 7) hx hb hts inX10 tyX10 tyX10_ok nmX10 hown hK hP hD hS 0 rfl rfl 2 (by decide) (hts _ kw_625) (fun _ h9 => h9) rfl hin rfl (by decide +kernel) rfl rfl (Nat.le_of_ble_eq_true rfl) dX10_init_9 (fun H locs hP hD hS => ?_)
  have hP : va_P D vwCl [(h0, .inr (10, [.null, .null, .ref a7_1, .int 0, .null, .int 0, .int 0])), (a7_1, .inl (k7_1, 80, .inl (fun _ => 0)))] H := hP
  have hD : va_D A [(h0, .inr (10, [.null, .null, .ref a7_1, .int 0, .null, .int 0, .int 0])), (a7_1, .inl (k7_1, 80, .inl (fun _ => 0)))] := hD
  refine lv_aload_n hx hb dX10_init_12 rfl (lv_at hl 0 rfl) ?_
  refine lv_aload_n hx hb dX10_init_13 rfl (lv_at hl 1 rfl) ?_
  refine va_putF (D := D) (ci := 10) (v := .ref a1) (ty := .object "SignalTable$Deals") (C := RX10) (T := TX10) (N := 7) hx hb hts inX10 tyX10 tyX10_ok nmX10 hown hK hP hD hS 0 rfl rfl 0 (by decide) (hts _ kw_623) (fun _ h9 => h9) rfl hin rfl (by decide +kernel) rfl rfl (Nat.le_of_ble_eq_true rfl) dX10_init_14 (fun H locs hP hD hS => ?_)
  have hP : va_P D vwCl [(h0, .inr (10, [.ref a1, .null, .ref a7_1, .int 0, .null, .int 0, .int 0])), (a7_1, .inl (k7_1, 80, .inl (fun _ => 0)))] H := hP
  have hD : va_D A [(h0, .inr (10, [.ref a1, .null, .ref a7_1, .int 0, .null, .int 0, .int 0])), (a7_1, .inl (k7_1, 80, .inl (fun _ => 0)))] := hD
  refine lv_aload_n hx hb dX10_init_17 rfl (lv_at hl 0 rfl) ?_
  refine lv_aload_n hx hb dX10_init_18 rfl (lv_at hl 2 rfl) ?_
  refine va_putF (D := D) (ci := 10) (v := .ref a2) (ty := .object "SignalTable$Open") (C := RX10) (T := TX10) (N := 7) hx hb hts inX10 tyX10 tyX10_ok nmX10 hown hK hP hD hS 0 rfl rfl 1 (by decide) (hts _ kw_624) (fun _ h9 => h9) rfl hin rfl (by decide +kernel) rfl rfl (Nat.le_of_ble_eq_true rfl) dX10_init_19 (fun H locs hP hD hS => ?_)
  have hP : va_P D vwCl [(h0, .inr (10, [.ref a1, .ref a2, .ref a7_1, .int 0, .null, .int 0, .int 0])), (a7_1, .inl (k7_1, 80, .inl (fun _ => 0)))] H := hP
  have hD : va_D A [(h0, .inr (10, [.ref a1, .ref a2, .ref a7_1, .int 0, .null, .int 0, .int 0])), (a7_1, .inl (k7_1, 80, .inl (fun _ => 0)))] := hD
  refine W.eq (g2 := F0 m 22 ls []) rfl ?_
  exact wr_v (q := (fun i => match i with | 0 => a7_1 | _ => 0)) (k := (fun _ => 0)) (g := (fun _ => fun _ => 0)) (gl := (fun _ => fun _ => 0)) hx hb hr hlocks hS (hP.sub [0] rfl) (hK.sub [] rfl) (hD.sub [0] (by decide) rfl) dX10_init_22
set_option maxHeartbeats 4000000 in
set_option maxRecDepth 100000 in
theorem wX2_init {l : Launch} {D : va_G} {sz : Nat} (h0 : Nat) (a1 : Nat) (a2 : Nat) : Wv l yX2_init cX2_init 3 1 1 1024 D [(h0, .inr (2, [.null, .null, .null]))] [] [.ref h0, .ref a1, .ref a2] sz (fun _ => True) (fun q k g gl => [(h0, .inr (2, [.ref a1, .ref a2, .ref (q 0)])), ((q 0), .inl ((k 0), 1024, .inl (fun _ => 0)))]) (fun k => [((k 0), .int)]) := by
  refine Wv.of (by decide) (Nat.le_of_ble_eq_true rfl) ?_
  intro p e s m below meth c ls A hx hb hr hml hown hts hlocks hin hP hK hD hA hS hE hAe hl
  have hown : s.vm.findClass "SignalTable$Gains" = some m.cls := hown
  have hin : meth.name = "<init>" := hin
  skip
  have hl : lv_has ls 3 [(0, .ref h0), (1, .ref a1), (2, .ref a2)] := hl
  refine lv_aload_n hx hb dX2_init_0 rfl (lv_at hl 0 rfl) ?_
  refine W.objInit hx hb hown (hts _ kw_650) (hts _ kw_180) (hts _ kw_181) rfl (by rw [hml]; exact hl.1) rfl dX2_init_1 (by decide) (Nat.le_of_ble_eq_true rfl) ?_
  refine W.eq (g2 := F0 m 4 ls []) rfl ?_
  refine lv_aload_n hx hb dX2_init_4 rfl (lv_at hl 0 rfl) ?_
  refine lv_sipush (v := 1024) hx hb dX2_init_5 (by decide) ?_
  refine va_newa (atype := .int) (a0 := (1024, .inl (fun _ => 0))) (ty := .int) hx hb (hts _ kw_280) rfl hK hP hD hS hA (fun _ => rfl) (by decide) (by decide) (by decide) (by decide) (by decide) dX2_init_8 (fun a8_1 k8_1 H hK hP hD hS => ?_)
  have hP : va_P D vwCl [(h0, .inr (2, [.null, .null, .null])), (a8_1, .inl (k8_1, 1024, .inl (fun _ => 0)))] H := hP
  have hD : va_D A [(h0, .inr (2, [.null, .null, .null])), (a8_1, .inl (k8_1, 1024, .inl (fun _ => 0)))] := hD
  have hK : va_K D vwCl [(k8_1, .int)] s := hK
  refine W.cs (cells' := 1) (slots' := 1024) rfl rfl ?_
  refine va_putF (D := D) (ci := 2) (v := .ref a8_1) (ty := .array .int) (C := RX2) (T := TX2) (N := 3) hx hb hts inX2 tyX2 tyX2_ok nmX2 hown hK hP hD hS 0 rfl rfl 2 (by decide) (hts _ kw_653) (fun _ h9 => h9) rfl hin rfl (by decide +kernel) rfl rfl (Nat.le_of_ble_eq_true rfl) dX2_init_10 (fun H locs hP hD hS => ?_)
  have hP : va_P D vwCl [(h0, .inr (2, [.null, .null, .ref a8_1])), (a8_1, .inl (k8_1, 1024, .inl (fun _ => 0)))] H := hP
  have hD : va_D A [(h0, .inr (2, [.null, .null, .ref a8_1])), (a8_1, .inl (k8_1, 1024, .inl (fun _ => 0)))] := hD
  refine lv_aload_n hx hb dX2_init_13 rfl (lv_at hl 0 rfl) ?_
  refine lv_aload_n hx hb dX2_init_14 rfl (lv_at hl 1 rfl) ?_
  refine va_putF (D := D) (ci := 2) (v := .ref a1) (ty := .object "SignalTable$Game") (C := RX2) (T := TX2) (N := 3) hx hb hts inX2 tyX2 tyX2_ok nmX2 hown hK hP hD hS 0 rfl rfl 0 (by decide) (hts _ kw_651) (fun _ h9 => h9) rfl hin rfl (by decide +kernel) rfl rfl (Nat.le_of_ble_eq_true rfl) dX2_init_15 (fun H locs hP hD hS => ?_)
  have hP : va_P D vwCl [(h0, .inr (2, [.ref a1, .null, .ref a8_1])), (a8_1, .inl (k8_1, 1024, .inl (fun _ => 0)))] H := hP
  have hD : va_D A [(h0, .inr (2, [.ref a1, .null, .ref a8_1])), (a8_1, .inl (k8_1, 1024, .inl (fun _ => 0)))] := hD
  refine lv_aload_n hx hb dX2_init_18 rfl (lv_at hl 0 rfl) ?_
  refine lv_aload_n hx hb dX2_init_19 rfl (lv_at hl 2 rfl) ?_
  refine va_putF (D := D) (ci := 2) (v := .ref a2) (ty := .object "SignalTable$Weigher") (C := RX2) (T := TX2) (N := 3) hx hb hts inX2 tyX2 tyX2_ok nmX2 hown hK hP hD hS 0 rfl rfl 1 (by decide) (hts _ kw_652) (fun _ h9 => h9) rfl hin rfl (by decide +kernel) rfl rfl (Nat.le_of_ble_eq_true rfl) dX2_init_20 (fun H locs hP hD hS => ?_)
  have hP : va_P D vwCl [(h0, .inr (2, [.ref a1, .ref a2, .ref a8_1])), (a8_1, .inl (k8_1, 1024, .inl (fun _ => 0)))] H := hP
  have hD : va_D A [(h0, .inr (2, [.ref a1, .ref a2, .ref a8_1])), (a8_1, .inl (k8_1, 1024, .inl (fun _ => 0)))] := hD
  refine W.eq (g2 := F0 m 23 ls []) rfl ?_
  exact wr_v (q := (fun i => match i with | 0 => a8_1 | _ => 0)) (k := (fun i => match i with | 0 => k8_1 | _ => k8_1)) (g := (fun _ => fun _ => 0)) (gl := (fun _ => fun _ => 0)) hx hb hr hlocks hS (hP.sub [0, 1] rfl) (hK.sub [0] rfl) (hD.sub [0, 1] (by decide) rfl) dX2_init_23
set_option maxHeartbeats 4000000 in
set_option maxRecDepth 100000 in
theorem wX0_init {l : Launch} {D : va_G} {sz : Nat} (h0 : Nat) : Wv l yX0_init cX0_init 1 1 2 96 D [(h0, .inr (0, [.null, .null, .int 0]))] [] [.ref h0] sz (fun _ => True) (fun q k g gl => [(h0, .inr (0, [.ref (q 0), .ref (q 1), .int 0]))]) (fun k => []) := by
  refine Wv.of (by decide) (Nat.le_of_ble_eq_true rfl) ?_
  intro p e s m below meth c ls A hx hb hr hml hown hts hlocks hin hP hK hD hA hS hE hAe hl
  have hown : s.vm.findClass "SignalTable$Books" = some m.cls := hown
  have hin : meth.name = "<init>" := hin
  skip
  have hl : lv_has ls 1 [(0, .ref h0)] := hl
  refine lv_aload_n hx hb dX0_init_0 rfl (lv_at hl 0 rfl) ?_
  refine W.objInit hx hb hown (hts _ kw_666) (hts _ kw_180) (hts _ kw_181) rfl (by rw [hml]; exact hl.1) rfl dX0_init_1 (by decide) (Nat.le_of_ble_eq_true rfl) ?_
  refine W.eq (g2 := F0 m 4 ls []) rfl ?_
  refine lv_aload_n hx hb dX0_init_4 rfl (lv_at hl 0 rfl) ?_
  refine lv_bipush (v := 48) hx hb dX0_init_5 (by decide) ?_
  refine va_newa (atype := .int) (a0 := (48, .inl (fun _ => 0))) (ty := .int) hx hb (hts _ kw_280) rfl hK hP hD hS hA (fun _ => rfl) (by decide) (by decide) (by decide) (by decide) (by decide) dX0_init_7 (fun a7_1 k7_1 H hK hP hD hS => ?_)
  have hP : va_P D vwCl [(h0, .inr (0, [.null, .null, .int 0])), (a7_1, .inl (k7_1, 48, .inl (fun _ => 0)))] H := hP
  have hD : va_D A [(h0, .inr (0, [.null, .null, .int 0])), (a7_1, .inl (k7_1, 48, .inl (fun _ => 0)))] := hD
  have hK : va_K D vwCl [(k7_1, .int)] s := hK
  refine W.cs (cells' := 1) (slots' := 48) rfl rfl ?_
  refine va_putF (D := D) (ci := 0) (v := .ref a7_1) (ty := .array .int) (C := RX0) (T := TX0) (N := 3) hx hb hts inX0 tyX0 tyX0_ok nmX0 hown hK hP hD hS 0 rfl rfl 0 (by decide) (hts _ kw_667) (fun _ h9 => h9) rfl hin rfl (by decide +kernel) rfl rfl (Nat.le_of_ble_eq_true rfl) dX0_init_9 (fun H locs hP hD hS => ?_)
  have hP : va_P D vwCl [(h0, .inr (0, [.ref a7_1, .null, .int 0])), (a7_1, .inl (k7_1, 48, .inl (fun _ => 0)))] H := hP
  have hD : va_D A [(h0, .inr (0, [.ref a7_1, .null, .int 0])), (a7_1, .inl (k7_1, 48, .inl (fun _ => 0)))] := hD
  refine lv_aload_n hx hb dX0_init_12 rfl (lv_at hl 0 rfl) ?_
  refine lv_bipush (v := 48) hx hb dX0_init_13 (by decide) ?_
  refine va_newa (atype := .int) (a0 := (48, .inl (fun _ => 0))) (ty := .int) hx hb (hts _ kw_280) rfl hK hP hD hS hA (fun _ => rfl) (by decide) (by decide) (by decide) (by decide) (by decide) dX0_init_15 (fun a15_2 k15_2 H hK hP hD hS => ?_)
  have hP : va_P D vwCl [(h0, .inr (0, [.ref a7_1, .null, .int 0])), (a7_1, .inl (k7_1, 48, .inl (fun _ => 0))), (a15_2, .inl (k15_2, 48, .inl (fun _ => 0)))] H := hP
  have hD : va_D A [(h0, .inr (0, [.ref a7_1, .null, .int 0])), (a7_1, .inl (k7_1, 48, .inl (fun _ => 0))), (a15_2, .inl (k15_2, 48, .inl (fun _ => 0)))] := hD
  have hK : va_K D vwCl [(k7_1, .int), (k15_2, .int)] s := hK
  refine W.cs (cells' := 2) (slots' := 96) rfl rfl ?_
  refine va_putF (D := D) (ci := 0) (v := .ref a15_2) (ty := .array .int) (C := RX0) (T := TX0) (N := 3) hx hb hts inX0 tyX0 tyX0_ok nmX0 hown hK hP hD hS 0 rfl rfl 1 (by decide) (hts _ kw_668) (fun _ h9 => h9) rfl hin rfl (by decide +kernel) rfl rfl (Nat.le_of_ble_eq_true rfl) dX0_init_17 (fun H locs hP hD hS => ?_)
  have hP : va_P D vwCl [(h0, .inr (0, [.ref a7_1, .ref a15_2, .int 0])), (a7_1, .inl (k7_1, 48, .inl (fun _ => 0))), (a15_2, .inl (k15_2, 48, .inl (fun _ => 0)))] H := hP
  have hD : va_D A [(h0, .inr (0, [.ref a7_1, .ref a15_2, .int 0])), (a7_1, .inl (k7_1, 48, .inl (fun _ => 0))), (a15_2, .inl (k15_2, 48, .inl (fun _ => 0)))] := hD
  exact wr_v (q := (fun i => match i with | 0 => a7_1 | 1 => a15_2 | _ => 0)) (k := (fun _ => 0)) (g := (fun _ => fun _ => 0)) (gl := (fun _ => fun _ => 0)) hx hb hr hlocks hS (hP.sub [0] rfl) (hK.sub [] rfl) (hD.sub [0] (by decide) rfl) dX0_init_20
set_option maxHeartbeats 4000000 in
set_option maxRecDepth 100000 in
theorem wX7_init {l : Launch} {D : va_G} {sz : Nat} (h0 : Nat) (a1 : Nat) (a2 : Nat) : Wv l yX7_init cX7_init 3 1 0 0 D [(h0, .inr (7, [.null, .null]))] [] [.ref h0, .ref a1, .ref a2] sz (fun _ => True) (fun q k g gl => [(h0, .inr (7, [.ref a1, .ref a2]))]) (fun k => []) := by
  refine Wv.of (by decide) (Nat.le_of_ble_eq_true rfl) ?_
  intro p e s m below meth c ls A hx hb hr hml hown hts hlocks hin hP hK hD hA hS hE hAe hl
  have hown : s.vm.findClass "SignalTable$Openings" = some m.cls := hown
  have hin : meth.name = "<init>" := hin
  skip
  have hl : lv_has ls 3 [(0, .ref h0), (1, .ref a1), (2, .ref a2)] := hl
  refine lv_aload_n hx hb dX7_init_0 rfl (lv_at hl 0 rfl) ?_
  refine W.objInit hx hb hown (hts _ kw_683) (hts _ kw_180) (hts _ kw_181) rfl (by rw [hml]; exact hl.1) rfl dX7_init_1 (by decide) (Nat.le_of_ble_eq_true rfl) ?_
  refine W.eq (g2 := F0 m 4 ls []) rfl ?_
  refine lv_aload_n hx hb dX7_init_4 rfl (lv_at hl 0 rfl) ?_
  refine lv_aload_n hx hb dX7_init_5 rfl (lv_at hl 1 rfl) ?_
  refine va_putF (D := D) (ci := 7) (v := .ref a1) (ty := .object "SignalTable$Laws") (C := RX7) (T := TX7) (N := 2) hx hb hts inX7 tyX7 tyX7_ok nmX7 hown hK hP hD hS 0 rfl rfl 0 (by decide) (hts _ kw_684) (fun _ h9 => h9) rfl hin rfl (by decide +kernel) rfl rfl (Nat.le_of_ble_eq_true rfl) dX7_init_6 (fun H locs hP hD hS => ?_)
  have hP : va_P D vwCl [(h0, .inr (7, [.ref a1, .null]))] H := hP
  have hD : va_D A [(h0, .inr (7, [.ref a1, .null]))] := hD
  refine lv_aload_n hx hb dX7_init_9 rfl (lv_at hl 0 rfl) ?_
  refine lv_aload_n hx hb dX7_init_10 rfl (lv_at hl 2 rfl) ?_
  refine va_putF (D := D) (ci := 7) (v := .ref a2) (ty := .object "SignalTable$Judge") (C := RX7) (T := TX7) (N := 2) hx hb hts inX7 tyX7 tyX7_ok nmX7 hown hK hP hD hS 0 rfl rfl 1 (by decide) (hts _ kw_685) (fun _ h9 => h9) rfl hin rfl (by decide +kernel) rfl rfl (Nat.le_of_ble_eq_true rfl) dX7_init_11 (fun H locs hP hD hS => ?_)
  have hP : va_P D vwCl [(h0, .inr (7, [.ref a1, .ref a2]))] H := hP
  have hD : va_D A [(h0, .inr (7, [.ref a1, .ref a2]))] := hD
  exact wr_v (q := (fun _ => 0)) (k := (fun _ => 0)) (g := (fun _ => fun _ => 0)) (gl := (fun _ => fun _ => 0)) hx hb hr hlocks hS (hP.sub [0] rfl) (hK.sub [] rfl) (hD.sub [0] (by decide) rfl) dX7_init_14
