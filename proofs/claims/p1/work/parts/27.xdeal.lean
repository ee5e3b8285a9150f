def sbc (p1 : Int32) : Int32 := ((((((((p1 - ((jush p1 1) &&& 1431655765)) &&& 858993459) + ((jush (p1 - ((jush p1 1) &&& 1431655765)) 2) &&& 858993459)) + (jush (((p1 - ((jush p1 1) &&& 1431655765)) &&& 858993459) + ((jush (p1 - ((jush p1 1) &&& 1431655765)) 2) &&& 858993459)) 4)) &&& 252645135) + (jush (((((p1 - ((jush p1 1) &&& 1431655765)) &&& 858993459) + ((jush (p1 - ((jush p1 1) &&& 1431655765)) 2) &&& 858993459)) + (jush (((p1 - ((jush p1 1) &&& 1431655765)) &&& 858993459) + ((jush (p1 - ((jush p1 1) &&& 1431655765)) 2) &&& 858993459)) 4)) &&& 252645135) 8)) + (jush ((((((p1 - ((jush p1 1) &&& 1431655765)) &&& 858993459) + ((jush (p1 - ((jush p1 1) &&& 1431655765)) 2) &&& 858993459)) + (jush (((p1 - ((jush p1 1) &&& 1431655765)) &&& 858993459) + ((jush (p1 - ((jush p1 1) &&& 1431655765)) 2) &&& 858993459)) 4)) &&& 252645135) + (jush (((((p1 - ((jush p1 1) &&& 1431655765)) &&& 858993459) + ((jush (p1 - ((jush p1 1) &&& 1431655765)) 2) &&& 858993459)) + (jush (((p1 - ((jush p1 1) &&& 1431655765)) &&& 858993459) + ((jush (p1 - ((jush p1 1) &&& 1431655765)) 2) &&& 858993459)) 4)) &&& 252645135) 8)) 16)) &&& 63)
def okX (x : Int32) : Bool := decide ((x &&& (-65536)) = 0) && decide (sbc x = 4)
def hOK (ok : Int32 → Bool) (a b c : Int32) : Bool := ok a && ok b && ok c && decide ((a &&& b) = 0) && decide ((a &&& c) = 0) && decide ((b &&& c) = 0)
set_option maxHeartbeats 4000000 in
set_option maxRecDepth 100000 in
theorem e_mixed {l : Launch} (p1 p2 : Int32) : RdE l yX3_mixed cX3_mixed 3 (some .int) 0 (fun _ => True) [.int p1, .int p2] (.int (smix p1 p2)) := by
  refine RdE.of (by decide) (Nat.le_of_ble_eq_true rfl) ?_
  intro p e s m below meth c ls hx hb hr hml hown hts hlocks hE hl
  have hown : s.vm.findClass "SignalTable$Game" = some m.cls := hown
  have hl : lv_has ls 3 [(0, .int p1), (1, .int p2)] := hl
  refine lv_iload_n hx hb dX3_mixed_0 rfl (lv_at hl 0 rfl) ?_
  refine lv_iload_n hx hb dX3_mixed_1 rfl (lv_at hl 1 rfl) ?_
  refine lv_ixor hx hb dX3_mixed_2 ?_
  refine lv_ldc (v := 1103515245) hx hb hown (hts _ kw_918) dX3_mixed_3 ?_
  refine lv_imul hx hb dX3_mixed_5 ?_
  refine lv_sipush (v := 12345) hx hb dX3_mixed_6 (by decide) ?_
  refine lv_iadd hx hb dX3_mixed_9 ?_
  refine lv_istore_n (lv' := [(2, .int (((p1 ^^^ p2) * 1103515245) + 12345)), (0, .int p1), (1, .int p2)]) hx hb dX3_mixed_10 rfl hl (by decide) rfl (fun ls hl => ?_)
  refine lv_iload_n hx hb dX3_mixed_11 rfl (lv_at hl 0 rfl) ?_
  refine lv_iload_n hx hb dX3_mixed_12 rfl (lv_at hl 0 rfl) ?_
  refine lv_bipush (v := 15) hx hb dX3_mixed_13 (by decide) ?_
  refine lv_iushr (v := (jush (((p1 ^^^ p2) * 1103515245) + 12345) 15)) hx hb dX3_mixed_15 rfl ?_
  refine lv_ixor hx hb dX3_mixed_16 ?_
  exact rd_i hx hb hr hlocks (rfl) dX3_mixed_17
set_option maxHeartbeats 4000000 in
set_option maxRecDepth 100000 in
theorem e_lot {l : Launch} (n : Nat) (p2 p3 : Int32) (h0 : 0 < n) (h1 : n < 2 ^ 31) : RdE l yX3_lot cX3_lot 4 (some .int) 1 (fun _ => True) [.int (nI n), .int p2, .int p3] (.int (nI (lotv n p2 p3))) := by
  refine RdE.of (by decide) (Nat.le_of_ble_eq_true rfl) ?_
  intro p e s m below meth c ls hx hb hr hml hown hts hlocks hE hl
  have hown : s.vm.findClass "SignalTable$Game" = some m.cls := hown
  have hl : lv_has ls 4 [(0, .int (nI n)), (1, .int p2), (2, .int p3)] := hl
  refine lv_iload_n hx hb dX3_lot_0 rfl (lv_at hl 1 rfl) ?_
  refine lv_bipush (v := 20) hx hb dX3_lot_1 (by decide) ?_
  refine re_S (As := [.int p2, .int 20]) (rest := []) caS_SignalTable_Game_93 hx hb hml hown hts (e_mixed p2 20) bl_T (fun _ _ _ => trivial) (by decide) rfl hl.1 (Nat.le_of_ble_eq_true rfl) (by decide) dX3_lot_3 rfl ?_
  refine lv_iload_n hx hb dX3_lot_6 rfl (lv_at hl 2 rfl) ?_
  refine re_S (As := [.int (smix p2 20), .int p3]) (rest := []) caS_SignalTable_Game_93 hx hb hml hown hts (e_mixed (smix p2 20) p3) bl_T (fun _ _ _ => trivial) (by decide) rfl hl.1 (Nat.le_of_ble_eq_true rfl) (by decide) dX3_lot_7 rfl ?_
  refine lv_istore_n (lv' := [(3, .int (smix (smix p2 20) p3)), (0, .int (nI n)), (1, .int p2), (2, .int p3)]) hx hb dX3_lot_10 rfl hl (by decide) rfl (fun ls hl => ?_)
  refine lv_iload_n hx hb dX3_lot_11 rfl (lv_at hl 1 rfl) ?_
  refine lv_if_le (tgt := 23) hx hb dX3_lot_12 (by decide) (fun h => absurd h (nI_nle h0 h1)) (fun _ => ?_)
  refine lv_iload_n hx hb dX3_lot_15 rfl (lv_at hl 0 rfl) ?_
  refine lv_iconst (v := 1) hx hb dX3_lot_16 (by decide) ?_
  refine lv_iushr (v := (jush (smix (smix p2 20) p3) 1)) hx hb dX3_lot_17 rfl ?_
  refine lv_iload_n hx hb dX3_lot_18 rfl (lv_at hl 1 rfl) ?_
  refine lv_irem hx hb dX3_lot_19 (nI_ne0 h0 h1) ?_
  refine lv_goto (tgt := 24) hx hb dX3_lot_20 (by decide) ?_
  exact rd_i hx hb hr hlocks (congrArg Value.int (lot_eq h0 h1 _)) dX3_lot_24
set_option maxHeartbeats 4000000 in
set_option maxRecDepth 100000 in
theorem wX3_row0 {l : Launch} {D : va_G} (h0 : Nat) (a1 : Nat) (b8 : Nat) (b3 : Nat) (b4 : Nat) (gr1 : Nat) (gi2 : Int32) (gi5 : Int32) (gi6 : Int32) (gi7 : Int32) (gr9 : Nat) (gr10 : Nat) (gr11 : Nat) (gr12 : Nat) (gr13 : Nat) (gr14 : Nat) (gr15 : Nat) (gr16 : Nat) (gi17 : Int32) (li0 : Int32) (li1 : Int32) (li2 : Int32) (li3 : Int32) (lr4 : Nat) (lr5 : Nat) (lr6 : Nat) (lr7 : Nat) (lr8 : Nat) (li9 : Int32) (lr12 : Nat) (lr13 : Nat) (lr14 : Nat) (li15 : Int32) (k8 : ClassId) (f8 : Nat → Int32) : Rd l yX3_row cX3_row 4 (some .int) 0 D [(h0, .inr (3, [.ref a1, .ref gr1, .int gi2, .ref b3, .ref b4, .int gi5, .int gi6, .int gi7, .ref b8, .ref gr9, .ref gr10, .ref gr11, .ref gr12, .ref gr13, .ref gr14, .ref gr15, .ref gr16, .int gi17])), (a1, .inr (5, [.int li0, .int li1, .int li2, .int li3, .ref lr4, .ref lr5, .ref lr6, .ref lr7, .ref lr8, .int li9, .int 16, .int 4, .ref lr12, .ref lr13, .ref lr14, .int li15])), (b8, .inl (k8, 16, .inl f8))] [(k8, .int)] [.ref h0, .int 0] (.int (((((0 : Int32) ||| ((1 : Int32) <<< ((f8 (0 : Int32).toNatClampNeg) &&& 31))) ||| ((1 : Int32) <<< ((f8 (1 : Int32).toNatClampNeg) &&& 31))) ||| ((1 : Int32) <<< ((f8 (2 : Int32).toNatClampNeg) &&& 31))) ||| ((1 : Int32) <<< ((f8 (3 : Int32).toNatClampNeg) &&& 31)))) := by
  refine Rd.of (by decide) (Nat.le_of_ble_eq_true rfl) ?_
  intro p e s m below meth c ls hx hb hr hml hown hts hlocks hP hK hl
  have hown : s.vm.findClass "SignalTable$Game" = some m.cls := hown
  have hl : lv_has ls 4 [(0, .ref h0), (1, .int 0)] := hl
  refine lv_iconst (v := 0) hx hb dX3_row_0 (by decide) ?_
  refine lv_istore_n (lv' := [(2, .int 0), (0, .ref h0), (1, .int 0)]) hx hb dX3_row_1 rfl hl (by decide) rfl (fun ls hl => ?_)
  refine lv_iconst (v := 0) hx hb dX3_row_2 (by decide) ?_
  refine lv_istore_n (lv' := [(3, .int 0), (2, .int 0), (0, .ref h0), (1, .int 0)]) hx hb dX3_row_3 rfl hl (by decide) rfl (fun ls hl => ?_)
  refine lv_iload_n hx hb dX3_row_4 rfl (lv_at hl 0 rfl) ?_
  refine lv_aload_n hx hb dX3_row_5 rfl (lv_at hl 2 rfl) ?_
  refine va_get (D := D) (ci := 3) (v := .ref a1) (C := RX3) (T := TX3) (N := 18) hx hb hts inX3 hown hK hP 0 rfl rfl 0 (by decide) (hts _ kw_420) (fun _ h9 => h9) rfl dX3_row_6 ?_
  refine va_get (D := D) (ci := 5) (v := .int 4) (C := RX5) (T := TX5) (N := 16) hx hb hts inX5 hown hK hP 1 rfl rfl 11 (by decide) (hts _ kw_228) (fun _ h9 => h9) rfl dX3_row_9 ?_
  refine lv_icmp_ge (tgt := 42) hx hb dX3_row_12 (by decide) (fun h => absurd h (by decide)) (fun _ => ?_)
  refine W.eq (g2 := F0 m 15 ls []) rfl ?_
  refine lv_iload_n hx hb dX3_row_15 rfl (lv_at hl 1 rfl) ?_
  refine lv_iconst (v := 1) hx hb dX3_row_16 (by decide) ?_
  refine lv_aload_n hx hb dX3_row_17 rfl (lv_at hl 2 rfl) ?_
  refine va_get (D := D) (ci := 3) (v := .ref b8) (C := RX3) (T := TX3) (N := 18) hx hb hts inX3 hown hK hP 0 rfl rfl 8 (by decide) (hts _ kw_444) (fun _ h9 => h9) rfl dX3_row_18 ?_
  refine lv_iload_n hx hb dX3_row_21 rfl (lv_at hl 3 rfl) ?_
  refine lv_aload_n hx hb dX3_row_22 rfl (lv_at hl 2 rfl) ?_
  refine va_get (D := D) (ci := 3) (v := .ref a1) (C := RX3) (T := TX3) (N := 18) hx hb hts inX3 hown hK hP 0 rfl rfl 0 (by decide) (hts _ kw_420) (fun _ h9 => h9) rfl dX3_row_23 ?_
  refine va_get (D := D) (ci := 5) (v := .int 4) (C := RX5) (T := TX5) (N := 16) hx hb hts inX5 hown hK hP 1 rfl rfl 11 (by decide) (hts _ kw_228) (fun _ h9 => h9) rfl dX3_row_26 ?_
  refine lv_imul hx hb dX3_row_29 ?_
  refine z_i (v := 0) (by decide) ?_
  refine lv_iload_n hx hb dX3_row_30 rfl (lv_at hl 0 rfl) ?_
  refine W.eq (g2 := F0 m 31 ls [.int 0, .int 0, .ref b8, .int 1, .int 0]) rfl ?_
  refine lv_iadd hx hb dX3_row_31 ?_
  refine z_i (v := 0) (by decide) ?_
  refine va_iald hx hb hK hP 2 0 rfl rfl (z_in (by decide)) dX3_row_32 ?_
  refine lv_ishl hx hb dX3_row_33 ?_
  refine lv_ior hx hb dX3_row_34 ?_
  refine lv_istore_n (lv' := [(2, .int ((0 : Int32) ||| ((1 : Int32) <<< ((f8 (0 : Int32).toNatClampNeg) &&& 31)))), (3, .int 0), (0, .ref h0), (1, .int 0)]) hx hb dX3_row_35 rfl hl (by decide) rfl (fun ls hl => ?_)
  refine lv_iinc (v := 1) (lv' := [(3, .int 1), (2, .int ((0 : Int32) ||| ((1 : Int32) <<< ((f8 (0 : Int32).toNatClampNeg) &&& 31)))), (0, .ref h0), (1, .int 0)]) hx hb dX3_row_36 hl (k := 1) rfl (by decide) (by decide) rfl (fun ls hl => ?_)
  refine lv_goto (tgt := 4) hx hb dX3_row_39 (by decide) ?_
  refine lv_iload_n hx hb dX3_row_4 rfl (lv_at hl 0 rfl) ?_
  refine lv_aload_n hx hb dX3_row_5 rfl (lv_at hl 2 rfl) ?_
  refine va_get (D := D) (ci := 3) (v := .ref a1) (C := RX3) (T := TX3) (N := 18) hx hb hts inX3 hown hK hP 0 rfl rfl 0 (by decide) (hts _ kw_420) (fun _ h9 => h9) rfl dX3_row_6 ?_
  refine W.eq (g2 := F0 m 9 ls [.ref a1, .int 1]) rfl ?_
  refine va_get (D := D) (ci := 5) (v := .int 4) (C := RX5) (T := TX5) (N := 16) hx hb hts inX5 hown hK hP 1 rfl rfl 11 (by decide) (hts _ kw_228) (fun _ h9 => h9) rfl dX3_row_9 ?_
  refine lv_icmp_ge (tgt := 42) hx hb dX3_row_12 (by decide) (fun h => absurd h (by decide)) (fun _ => ?_)
  refine lv_iload_n hx hb dX3_row_15 rfl (lv_at hl 1 rfl) ?_
  refine lv_iconst (v := 1) hx hb dX3_row_16 (by decide) ?_
  refine lv_aload_n hx hb dX3_row_17 rfl (lv_at hl 2 rfl) ?_
  refine va_get (D := D) (ci := 3) (v := .ref b8) (C := RX3) (T := TX3) (N := 18) hx hb hts inX3 hown hK hP 0 rfl rfl 8 (by decide) (hts _ kw_444) (fun _ h9 => h9) rfl dX3_row_18 ?_
  refine lv_iload_n hx hb dX3_row_21 rfl (lv_at hl 3 rfl) ?_
  refine lv_aload_n hx hb dX3_row_22 rfl (lv_at hl 2 rfl) ?_
  refine va_get (D := D) (ci := 3) (v := .ref a1) (C := RX3) (T := TX3) (N := 18) hx hb hts inX3 hown hK hP 0 rfl rfl 0 (by decide) (hts _ kw_420) (fun _ h9 => h9) rfl dX3_row_23 ?_
  refine va_get (D := D) (ci := 5) (v := .int 4) (C := RX5) (T := TX5) (N := 16) hx hb hts inX5 hown hK hP 1 rfl rfl 11 (by decide) (hts _ kw_228) (fun _ h9 => h9) rfl dX3_row_26 ?_
  refine W.eq (g2 := F0 m 29 ls [.int 4, .int 0, .ref b8, .int 1, .int ((0 : Int32) ||| ((1 : Int32) <<< ((f8 (0 : Int32).toNatClampNeg) &&& 31)))]) rfl ?_
  refine lv_imul hx hb dX3_row_29 ?_
  refine z_i (v := 0) (by decide) ?_
  refine lv_iload_n hx hb dX3_row_30 rfl (lv_at hl 0 rfl) ?_
  refine lv_iadd hx hb dX3_row_31 ?_
  refine z_i (v := 1) (by decide) ?_
  refine va_iald hx hb hK hP 2 0 rfl rfl (z_in (by decide)) dX3_row_32 ?_
  refine lv_ishl hx hb dX3_row_33 ?_
  refine lv_ior hx hb dX3_row_34 ?_
  refine lv_istore_n (lv' := [(2, .int (((0 : Int32) ||| ((1 : Int32) <<< ((f8 (0 : Int32).toNatClampNeg) &&& 31))) ||| ((1 : Int32) <<< ((f8 (1 : Int32).toNatClampNeg) &&& 31)))), (3, .int 1), (0, .ref h0), (1, .int 0)]) hx hb dX3_row_35 rfl hl (by decide) rfl (fun ls hl => ?_)
  refine lv_iinc (v := 2) (lv' := [(3, .int 2), (2, .int (((0 : Int32) ||| ((1 : Int32) <<< ((f8 (0 : Int32).toNatClampNeg) &&& 31))) ||| ((1 : Int32) <<< ((f8 (1 : Int32).toNatClampNeg) &&& 31)))), (0, .ref h0), (1, .int 0)]) hx hb dX3_row_36 hl (k := 1) rfl (by decide) (by decide) rfl (fun ls hl => ?_)
  refine lv_goto (tgt := 4) hx hb dX3_row_39 (by decide) ?_
  refine lv_iload_n hx hb dX3_row_4 rfl (lv_at hl 0 rfl) ?_
  refine W.eq (g2 := F0 m 5 ls [.int 2]) rfl ?_
  refine lv_aload_n hx hb dX3_row_5 rfl (lv_at hl 2 rfl) ?_
  refine va_get (D := D) (ci := 3) (v := .ref a1) (C := RX3) (T := TX3) (N := 18) hx hb hts inX3 hown hK hP 0 rfl rfl 0 (by decide) (hts _ kw_420) (fun _ h9 => h9) rfl dX3_row_6 ?_
  refine va_get (D := D) (ci := 5) (v := .int 4) (C := RX5) (T := TX5) (N := 16) hx hb hts inX5 hown hK hP 1 rfl rfl 11 (by decide) (hts _ kw_228) (fun _ h9 => h9) rfl dX3_row_9 ?_
  refine lv_icmp_ge (tgt := 42) hx hb dX3_row_12 (by decide) (fun h => absurd h (by decide)) (fun _ => ?_)
  refine lv_iload_n hx hb dX3_row_15 rfl (lv_at hl 1 rfl) ?_
  refine lv_iconst (v := 1) hx hb dX3_row_16 (by decide) ?_
  refine lv_aload_n hx hb dX3_row_17 rfl (lv_at hl 2 rfl) ?_
  refine va_get (D := D) (ci := 3) (v := .ref b8) (C := RX3) (T := TX3) (N := 18) hx hb hts inX3 hown hK hP 0 rfl rfl 8 (by decide) (hts _ kw_444) (fun _ h9 => h9) rfl dX3_row_18 ?_
  refine lv_iload_n hx hb dX3_row_21 rfl (lv_at hl 3 rfl) ?_
  refine lv_aload_n hx hb dX3_row_22 rfl (lv_at hl 2 rfl) ?_
  refine W.eq (g2 := F0 m 23 ls [.ref h0, .int 0, .ref b8, .int 1, .int (((0 : Int32) ||| ((1 : Int32) <<< ((f8 (0 : Int32).toNatClampNeg) &&& 31))) ||| ((1 : Int32) <<< ((f8 (1 : Int32).toNatClampNeg) &&& 31)))]) rfl ?_
  refine va_get (D := D) (ci := 3) (v := .ref a1) (C := RX3) (T := TX3) (N := 18) hx hb hts inX3 hown hK hP 0 rfl rfl 0 (by decide) (hts _ kw_420) (fun _ h9 => h9) rfl dX3_row_23 ?_
  refine va_get (D := D) (ci := 5) (v := .int 4) (C := RX5) (T := TX5) (N := 16) hx hb hts inX5 hown hK hP 1 rfl rfl 11 (by decide) (hts _ kw_228) (fun _ h9 => h9) rfl dX3_row_26 ?_
  refine lv_imul hx hb dX3_row_29 ?_
  refine z_i (v := 0) (by decide) ?_
  refine lv_iload_n hx hb dX3_row_30 rfl (lv_at hl 0 rfl) ?_
  refine lv_iadd hx hb dX3_row_31 ?_
  refine z_i (v := 2) (by decide) ?_
  refine va_iald hx hb hK hP 2 0 rfl rfl (z_in (by decide)) dX3_row_32 ?_
  refine lv_ishl hx hb dX3_row_33 ?_
  refine lv_ior hx hb dX3_row_34 ?_
  refine lv_istore_n (lv' := [(2, .int ((((0 : Int32) ||| ((1 : Int32) <<< ((f8 (0 : Int32).toNatClampNeg) &&& 31))) ||| ((1 : Int32) <<< ((f8 (1 : Int32).toNatClampNeg) &&& 31))) ||| ((1 : Int32) <<< ((f8 (2 : Int32).toNatClampNeg) &&& 31)))), (3, .int 2), (0, .ref h0), (1, .int 0)]) hx hb dX3_row_35 rfl hl (by decide) rfl (fun ls hl => ?_)
  refine lv_iinc (v := 3) (lv' := [(3, .int 3), (2, .int ((((0 : Int32) ||| ((1 : Int32) <<< ((f8 (0 : Int32).toNatClampNeg) &&& 31))) ||| ((1 : Int32) <<< ((f8 (1 : Int32).toNatClampNeg) &&& 31))) ||| ((1 : Int32) <<< ((f8 (2 : Int32).toNatClampNeg) &&& 31)))), (0, .ref h0), (1, .int 0)]) hx hb dX3_row_36 hl (k := 1) rfl (by decide) (by decide) rfl (fun ls hl => ?_)
  refine W.eq (g2 := F0 m 39 ls []) rfl ?_
  refine lv_goto (tgt := 4) hx hb dX3_row_39 (by decide) ?_
  refine lv_iload_n hx hb dX3_row_4 rfl (lv_at hl 0 rfl) ?_
  refine lv_aload_n hx hb dX3_row_5 rfl (lv_at hl 2 rfl) ?_
  refine va_get (D := D) (ci := 3) (v := .ref a1) (C := RX3) (T := TX3) (N := 18) hx hb hts inX3 hown hK hP 0 rfl rfl 0 (by decide) (hts _ kw_420) (fun _ h9 => h9) rfl dX3_row_6 ?_
  refine va_get (D := D) (ci := 5) (v := .int 4) (C := RX5) (T := TX5) (N := 16) hx hb hts inX5 hown hK hP 1 rfl rfl 11 (by decide) (hts _ kw_228) (fun _ h9 => h9) rfl dX3_row_9 ?_
  refine lv_icmp_ge (tgt := 42) hx hb dX3_row_12 (by decide) (fun h => absurd h (by decide)) (fun _ => ?_)
  refine lv_iload_n hx hb dX3_row_15 rfl (lv_at hl 1 rfl) ?_
  refine lv_iconst (v := 1) hx hb dX3_row_16 (by decide) ?_
  refine lv_aload_n hx hb dX3_row_17 rfl (lv_at hl 2 rfl) ?_
  refine va_get (D := D) (ci := 3) (v := .ref b8) (C := RX3) (T := TX3) (N := 18) hx hb hts inX3 hown hK hP 0 rfl rfl 8 (by decide) (hts _ kw_444) (fun _ h9 => h9) rfl dX3_row_18 ?_
  refine W.eq (g2 := F0 m 21 ls [.ref b8, .int 1, .int ((((0 : Int32) ||| ((1 : Int32) <<< ((f8 (0 : Int32).toNatClampNeg) &&& 31))) ||| ((1 : Int32) <<< ((f8 (1 : Int32).toNatClampNeg) &&& 31))) ||| ((1 : Int32) <<< ((f8 (2 : Int32).toNatClampNeg) &&& 31)))]) rfl ?_
  refine lv_iload_n hx hb dX3_row_21 rfl (lv_at hl 3 rfl) ?_
  refine lv_aload_n hx hb dX3_row_22 rfl (lv_at hl 2 rfl) ?_
  refine va_get (D := D) (ci := 3) (v := .ref a1) (C := RX3) (T := TX3) (N := 18) hx hb hts inX3 hown hK hP 0 rfl rfl 0 (by decide) (hts _ kw_420) (fun _ h9 => h9) rfl dX3_row_23 ?_
  refine va_get (D := D) (ci := 5) (v := .int 4) (C := RX5) (T := TX5) (N := 16) hx hb hts inX5 hown hK hP 1 rfl rfl 11 (by decide) (hts _ kw_228) (fun _ h9 => h9) rfl dX3_row_26 ?_
  refine lv_imul hx hb dX3_row_29 ?_
  refine z_i (v := 0) (by decide) ?_
  refine lv_iload_n hx hb dX3_row_30 rfl (lv_at hl 0 rfl) ?_
  refine lv_iadd hx hb dX3_row_31 ?_
  refine z_i (v := 3) (by decide) ?_
  refine va_iald hx hb hK hP 2 0 rfl rfl (z_in (by decide)) dX3_row_32 ?_
  refine lv_ishl hx hb dX3_row_33 ?_
  refine lv_ior hx hb dX3_row_34 ?_
  refine W.eq (g2 := F0 m 35 ls [.int (((((0 : Int32) ||| ((1 : Int32) <<< ((f8 (0 : Int32).toNatClampNeg) &&& 31))) ||| ((1 : Int32) <<< ((f8 (1 : Int32).toNatClampNeg) &&& 31))) ||| ((1 : Int32) <<< ((f8 (2 : Int32).toNatClampNeg) &&& 31))) ||| ((1 : Int32) <<< ((f8 (3 : Int32).toNatClampNeg) &&& 31)))]) rfl ?_
  refine lv_istore_n (lv' := [(2, .int (((((0 : Int32) ||| ((1 : Int32) <<< ((f8 (0 : Int32).toNatClampNeg) &&& 31))) ||| ((1 : Int32) <<< ((f8 (1 : Int32).toNatClampNeg) &&& 31))) ||| ((1 : Int32) <<< ((f8 (2 : Int32).toNatClampNeg) &&& 31))) ||| ((1 : Int32) <<< ((f8 (3 : Int32).toNatClampNeg) &&& 31)))), (3, .int 3), (0, .ref h0), (1, .int 0)]) hx hb dX3_row_35 rfl hl (by decide) rfl (fun ls hl => ?_)
  refine lv_iinc (v := 4) (lv' := [(3, .int 4), (2, .int (((((0 : Int32) ||| ((1 : Int32) <<< ((f8 (0 : Int32).toNatClampNeg) &&& 31))) ||| ((1 : Int32) <<< ((f8 (1 : Int32).toNatClampNeg) &&& 31))) ||| ((1 : Int32) <<< ((f8 (2 : Int32).toNatClampNeg) &&& 31))) ||| ((1 : Int32) <<< ((f8 (3 : Int32).toNatClampNeg) &&& 31)))), (0, .ref h0), (1, .int 0)]) hx hb dX3_row_36 hl (k := 1) rfl (by decide) (by decide) rfl (fun ls hl => ?_)
  refine lv_goto (tgt := 4) hx hb dX3_row_39 (by decide) ?_
  refine lv_iload_n hx hb dX3_row_4 rfl (lv_at hl 0 rfl) ?_
  refine lv_aload_n hx hb dX3_row_5 rfl (lv_at hl 2 rfl) ?_
  refine va_get (D := D) (ci := 3) (v := .ref a1) (C := RX3) (T := TX3) (N := 18) hx hb hts inX3 hown hK hP 0 rfl rfl 0 (by decide) (hts _ kw_420) (fun _ h9 => h9) rfl dX3_row_6 ?_
  refine va_get (D := D) (ci := 5) (v := .int 4) (C := RX5) (T := TX5) (N := 16) hx hb hts inX5 hown hK hP 1 rfl rfl 11 (by decide) (hts _ kw_228) (fun _ h9 => h9) rfl dX3_row_9 ?_
  refine lv_icmp_ge (tgt := 42) hx hb dX3_row_12 (by decide) (fun _ => ?_) (fun h => absurd (by decide) h)
  refine lv_iload_n hx hb dX3_row_42 rfl (lv_at hl 1 rfl) ?_
  exact rd_i hx hb hr hlocks (rfl) dX3_row_43
set_option maxHeartbeats 4000000 in
set_option maxRecDepth 100000 in
theorem wX3_row1 {l : Launch} {D : va_G} (h0 : Nat) (a1 : Nat) (b8 : Nat) (b3 : Nat) (b4 : Nat) (gr1 : Nat) (gi2 : Int32) (gi5 : Int32) (gi6 : Int32) (gi7 : Int32) (gr9 : Nat) (gr10 : Nat) (gr11 : Nat) (gr12 : Nat) (gr13 : Nat) (gr14 : Nat) (gr15 : Nat) (gr16 : Nat) (gi17 : Int32) (li0 : Int32) (li1 : Int32) (li2 : Int32) (li3 : Int32) (lr4 : Nat) (lr5 : Nat) (lr6 : Nat) (lr7 : Nat) (lr8 : Nat) (li9 : Int32) (lr12 : Nat) (lr13 : Nat) (lr14 : Nat) (li15 : Int32) (k8 : ClassId) (f8 : Nat → Int32) : Rd l yX3_row cX3_row 4 (some .int) 0 D [(h0, .inr (3, [.ref a1, .ref gr1, .int gi2, .ref b3, .ref b4, .int gi5, .int gi6, .int gi7, .ref b8, .ref gr9, .ref gr10, .ref gr11, .ref gr12, .ref gr13, .ref gr14, .ref gr15, .ref gr16, .int gi17])), (a1, .inr (5, [.int li0, .int li1, .int li2, .int li3, .ref lr4, .ref lr5, .ref lr6, .ref lr7, .ref lr8, .int li9, .int 16, .int 4, .ref lr12, .ref lr13, .ref lr14, .int li15])), (b8, .inl (k8, 16, .inl f8))] [(k8, .int)] [.ref h0, .int 1] (.int (((((0 : Int32) ||| ((1 : Int32) <<< ((f8 (4 : Int32).toNatClampNeg) &&& 31))) ||| ((1 : Int32) <<< ((f8 (5 : Int32).toNatClampNeg) &&& 31))) ||| ((1 : Int32) <<< ((f8 (6 : Int32).toNatClampNeg) &&& 31))) ||| ((1 : Int32) <<< ((f8 (7 : Int32).toNatClampNeg) &&& 31)))) := by
  refine Rd.of (by decide) (Nat.le_of_ble_eq_true rfl) ?_
  intro p e s m below meth c ls hx hb hr hml hown hts hlocks hP hK hl
  have hown : s.vm.findClass "SignalTable$Game" = some m.cls := hown
  have hl : lv_has ls 4 [(0, .ref h0), (1, .int 1)] := hl
  refine lv_iconst (v := 0) hx hb dX3_row_0 (by decide) ?_
  refine lv_istore_n (lv' := [(2, .int 0), (0, .ref h0), (1, .int 1)]) hx hb dX3_row_1 rfl hl (by decide) rfl (fun ls hl => ?_)
  refine lv_iconst (v := 0) hx hb dX3_row_2 (by decide) ?_
  refine lv_istore_n (lv' := [(3, .int 0), (2, .int 0), (0, .ref h0), (1, .int 1)]) hx hb dX3_row_3 rfl hl (by decide) rfl (fun ls hl => ?_)
  refine lv_iload_n hx hb dX3_row_4 rfl (lv_at hl 0 rfl) ?_
  refine lv_aload_n hx hb dX3_row_5 rfl (lv_at hl 2 rfl) ?_
  refine va_get (D := D) (ci := 3) (v := .ref a1) (C := RX3) (T := TX3) (N := 18) hx hb hts inX3 hown hK hP 0 rfl rfl 0 (by decide) (hts _ kw_420) (fun _ h9 => h9) rfl dX3_row_6 ?_
  refine va_get (D := D) (ci := 5) (v := .int 4) (C := RX5) (T := TX5) (N := 16) hx hb hts inX5 hown hK hP 1 rfl rfl 11 (by decide) (hts _ kw_228) (fun _ h9 => h9) rfl dX3_row_9 ?_
  refine lv_icmp_ge (tgt := 42) hx hb dX3_row_12 (by decide) (fun h => absurd h (by decide)) (fun _ => ?_)
  refine W.eq (g2 := F0 m 15 ls []) rfl ?_
  refine lv_iload_n hx hb dX3_row_15 rfl (lv_at hl 1 rfl) ?_
  refine lv_iconst (v := 1) hx hb dX3_row_16 (by decide) ?_
  refine lv_aload_n hx hb dX3_row_17 rfl (lv_at hl 2 rfl) ?_
  refine va_get (D := D) (ci := 3) (v := .ref b8) (C := RX3) (T := TX3) (N := 18) hx hb hts inX3 hown hK hP 0 rfl rfl 8 (by decide) (hts _ kw_444) (fun _ h9 => h9) rfl dX3_row_18 ?_
  refine lv_iload_n hx hb dX3_row_21 rfl (lv_at hl 3 rfl) ?_
  refine lv_aload_n hx hb dX3_row_22 rfl (lv_at hl 2 rfl) ?_
  refine va_get (D := D) (ci := 3) (v := .ref a1) (C := RX3) (T := TX3) (N := 18) hx hb hts inX3 hown hK hP 0 rfl rfl 0 (by decide) (hts _ kw_420) (fun _ h9 => h9) rfl dX3_row_23 ?_
  refine va_get (D := D) (ci := 5) (v := .int 4) (C := RX5) (T := TX5) (N := 16) hx hb hts inX5 hown hK hP 1 rfl rfl 11 (by decide) (hts _ kw_228) (fun _ h9 => h9) rfl dX3_row_26 ?_
  refine lv_imul hx hb dX3_row_29 ?_
  refine z_i (v := 4) (by decide) ?_
  refine lv_iload_n hx hb dX3_row_30 rfl (lv_at hl 0 rfl) ?_
  refine W.eq (g2 := F0 m 31 ls [.int 0, .int 4, .ref b8, .int 1, .int 0]) rfl ?_
  refine lv_iadd hx hb dX3_row_31 ?_
  refine z_i (v := 4) (by decide) ?_
  refine va_iald hx hb hK hP 2 0 rfl rfl (z_in (by decide)) dX3_row_32 ?_
  refine lv_ishl hx hb dX3_row_33 ?_
  refine lv_ior hx hb dX3_row_34 ?_
  refine lv_istore_n (lv' := [(2, .int ((0 : Int32) ||| ((1 : Int32) <<< ((f8 (4 : Int32).toNatClampNeg) &&& 31)))), (3, .int 0), (0, .ref h0), (1, .int 1)]) hx hb dX3_row_35 rfl hl (by decide) rfl (fun ls hl => ?_)
  refine lv_iinc (v := 1) (lv' := [(3, .int 1), (2, .int ((0 : Int32) ||| ((1 : Int32) <<< ((f8 (4 : Int32).toNatClampNeg) &&& 31)))), (0, .ref h0), (1, .int 1)]) hx hb dX3_row_36 hl (k := 1) rfl (by decide) (by decide) rfl (fun ls hl => ?_)
  refine lv_goto (tgt := 4) hx hb dX3_row_39 (by decide) ?_
  refine lv_iload_n hx hb dX3_row_4 rfl (lv_at hl 0 rfl) ?_
  refine lv_aload_n hx hb dX3_row_5 rfl (lv_at hl 2 rfl) ?_
  refine va_get (D := D) (ci := 3) (v := .ref a1) (C := RX3) (T := TX3) (N := 18) hx hb hts inX3 hown hK hP 0 rfl rfl 0 (by decide) (hts _ kw_420) (fun _ h9 => h9) rfl dX3_row_6 ?_
  refine W.eq (g2 := F0 m 9 ls [.ref a1, .int 1]) rfl ?_
  refine va_get (D := D) (ci := 5) (v := .int 4) (C := RX5) (T := TX5) (N := 16) hx hb hts inX5 hown hK hP 1 rfl rfl 11 (by decide) (hts _ kw_228) (fun _ h9 => h9) rfl dX3_row_9 ?_
  refine lv_icmp_ge (tgt := 42) hx hb dX3_row_12 (by decide) (fun h => absurd h (by decide)) (fun _ => ?_)
  refine lv_iload_n hx hb dX3_row_15 rfl (lv_at hl 1 rfl) ?_
  refine lv_iconst (v := 1) hx hb dX3_row_16 (by decide) ?_
  refine lv_aload_n hx hb dX3_row_17 rfl (lv_at hl 2 rfl) ?_
  refine va_get (D := D) (ci := 3) (v := .ref b8) (C := RX3) (T := TX3) (N := 18) hx hb hts inX3 hown hK hP 0 rfl rfl 8 (by decide) (hts _ kw_444) (fun _ h9 => h9) rfl dX3_row_18 ?_
  refine lv_iload_n hx hb dX3_row_21 rfl (lv_at hl 3 rfl) ?_
  refine lv_aload_n hx hb dX3_row_22 rfl (lv_at hl 2 rfl) ?_
  refine va_get (D := D) (ci := 3) (v := .ref a1) (C := RX3) (T := TX3) (N := 18) hx hb hts inX3 hown hK hP 0 rfl rfl 0 (by decide) (hts _ kw_420) (fun _ h9 => h9) rfl dX3_row_23 ?_
  refine va_get (D := D) (ci := 5) (v := .int 4) (C := RX5) (T := TX5) (N := 16) hx hb hts inX5 hown hK hP 1 rfl rfl 11 (by decide) (hts _ kw_228) (fun _ h9 => h9) rfl dX3_row_26 ?_
  refine W.eq (g2 := F0 m 29 ls [.int 4, .int 1, .ref b8, .int 1, .int ((0 : Int32) ||| ((1 : Int32) <<< ((f8 (4 : Int32).toNatClampNeg) &&& 31)))]) rfl ?_
  refine lv_imul hx hb dX3_row_29 ?_
  refine z_i (v := 4) (by decide) ?_
  refine lv_iload_n hx hb dX3_row_30 rfl (lv_at hl 0 rfl) ?_
  refine lv_iadd hx hb dX3_row_31 ?_
  refine z_i (v := 5) (by decide) ?_
  refine va_iald hx hb hK hP 2 0 rfl rfl (z_in (by decide)) dX3_row_32 ?_
  refine lv_ishl hx hb dX3_row_33 ?_
  refine lv_ior hx hb dX3_row_34 ?_
  refine lv_istore_n (lv' := [(2, .int (((0 : Int32) ||| ((1 : Int32) <<< ((f8 (4 : Int32).toNatClampNeg) &&& 31))) ||| ((1 : Int32) <<< ((f8 (5 : Int32).toNatClampNeg) &&& 31)))), (3, .int 1), (0, .ref h0), (1, .int 1)]) hx hb dX3_row_35 rfl hl (by decide) rfl (fun ls hl => ?_)
  refine lv_iinc (v := 2) (lv' := [(3, .int 2), (2, .int (((0 : Int32) ||| ((1 : Int32) <<< ((f8 (4 : Int32).toNatClampNeg) &&& 31))) ||| ((1 : Int32) <<< ((f8 (5 : Int32).toNatClampNeg) &&& 31)))), (0, .ref h0), (1, .int 1)]) hx hb dX3_row_36 hl (k := 1) rfl (by decide) (by decide) rfl (fun ls hl => ?_)
  refine lv_goto (tgt := 4) hx hb dX3_row_39 (by decide) ?_
  refine lv_iload_n hx hb dX3_row_4 rfl (lv_at hl 0 rfl) ?_
  refine W.eq (g2 := F0 m 5 ls [.int 2]) rfl ?_
  refine lv_aload_n hx hb dX3_row_5 rfl (lv_at hl 2 rfl) ?_
  refine va_get (D := D) (ci := 3) (v := .ref a1) (C := RX3) (T := TX3) (N := 18) hx hb hts inX3 hown hK hP 0 rfl rfl 0 (by decide) (hts _ kw_420) (fun _ h9 => h9) rfl dX3_row_6 ?_
  refine va_get (D := D) (ci := 5) (v := .int 4) (C := RX5) (T := TX5) (N := 16) hx hb hts inX5 hown hK hP 1 rfl rfl 11 (by decide) (hts _ kw_228) (fun _ h9 => h9) rfl dX3_row_9 ?_
  refine lv_icmp_ge (tgt := 42) hx hb dX3_row_12 (by decide) (fun h => absurd h (by decide)) (fun _ => ?_)
  refine lv_iload_n hx hb dX3_row_15 rfl (lv_at hl 1 rfl) ?_
  refine lv_iconst (v := 1) hx hb dX3_row_16 (by decide) ?_
  refine lv_aload_n hx hb dX3_row_17 rfl (lv_at hl 2 rfl) ?_
  refine va_get (D := D) (ci := 3) (v := .ref b8) (C := RX3) (T := TX3) (N := 18) hx hb hts inX3 hown hK hP 0 rfl rfl 8 (by decide) (hts _ kw_444) (fun _ h9 => h9) rfl dX3_row_18 ?_
  refine lv_iload_n hx hb dX3_row_21 rfl (lv_at hl 3 rfl) ?_
  refine lv_aload_n hx hb dX3_row_22 rfl (lv_at hl 2 rfl) ?_
  refine W.eq (g2 := F0 m 23 ls [.ref h0, .int 1, .ref b8, .int 1, .int (((0 : Int32) ||| ((1 : Int32) <<< ((f8 (4 : Int32).toNatClampNeg) &&& 31))) ||| ((1 : Int32) <<< ((f8 (5 : Int32).toNatClampNeg) &&& 31)))]) rfl ?_
  refine va_get (D := D) (ci := 3) (v := .ref a1) (C := RX3) (T := TX3) (N := 18) hx hb hts inX3 hown hK hP 0 rfl rfl 0 (by decide) (hts _ kw_420) (fun _ h9 => h9) rfl dX3_row_23 ?_
  refine va_get (D := D) (ci := 5) (v := .int 4) (C := RX5) (T := TX5) (N := 16) hx hb hts inX5 hown hK hP 1 rfl rfl 11 (by decide) (hts _ kw_228) (fun _ h9 => h9) rfl dX3_row_26 ?_
  refine lv_imul hx hb dX3_row_29 ?_
  refine z_i (v := 4) (by decide) ?_
  refine lv_iload_n hx hb dX3_row_30 rfl (lv_at hl 0 rfl) ?_
  refine lv_iadd hx hb dX3_row_31 ?_
  refine z_i (v := 6) (by decide) ?_
  refine va_iald hx hb hK hP 2 0 rfl rfl (z_in (by decide)) dX3_row_32 ?_
  refine lv_ishl hx hb dX3_row_33 ?_
  refine lv_ior hx hb dX3_row_34 ?_
  refine lv_istore_n (lv' := [(2, .int ((((0 : Int32) ||| ((1 : Int32) <<< ((f8 (4 : Int32).toNatClampNeg) &&& 31))) ||| ((1 : Int32) <<< ((f8 (5 : Int32).toNatClampNeg) &&& 31))) ||| ((1 : Int32) <<< ((f8 (6 : Int32).toNatClampNeg) &&& 31)))), (3, .int 2), (0, .ref h0), (1, .int 1)]) hx hb dX3_row_35 rfl hl (by decide) rfl (fun ls hl => ?_)
  refine lv_iinc (v := 3) (lv' := [(3, .int 3), (2, .int ((((0 : Int32) ||| ((1 : Int32) <<< ((f8 (4 : Int32).toNatClampNeg) &&& 31))) ||| ((1 : Int32) <<< ((f8 (5 : Int32).toNatClampNeg) &&& 31))) ||| ((1 : Int32) <<< ((f8 (6 : Int32).toNatClampNeg) &&& 31)))), (0, .ref h0), (1, .int 1)]) hx hb dX3_row_36 hl (k := 1) rfl (by decide) (by decide) rfl (fun ls hl => ?_)
  refine W.eq (g2 := F0 m 39 ls []) rfl ?_
  refine lv_goto (tgt := 4) hx hb dX3_row_39 (by decide) ?_
  refine lv_iload_n hx hb dX3_row_4 rfl (lv_at hl 0 rfl) ?_
  refine lv_aload_n hx hb dX3_row_5 rfl (lv_at hl 2 rfl) ?_
  refine va_get (D := D) (ci := 3) (v := .ref a1) (C := RX3) (T := TX3) (N := 18) hx hb hts inX3 hown hK hP 0 rfl rfl 0 (by decide) (hts _ kw_420) (fun _ h9 => h9) rfl dX3_row_6 ?_
  refine va_get (D := D) (ci := 5) (v := .int 4) (C := RX5) (T := TX5) (N := 16) hx hb hts inX5 hown hK hP 1 rfl rfl 11 (by decide) (hts _ kw_228) (fun _ h9 => h9) rfl dX3_row_9 ?_
  refine lv_icmp_ge (tgt := 42) hx hb dX3_row_12 (by decide) (fun h => absurd h (by decide)) (fun _ => ?_)
  refine lv_iload_n hx hb dX3_row_15 rfl (lv_at hl 1 rfl) ?_
  refine lv_iconst (v := 1) hx hb dX3_row_16 (by decide) ?_
  refine lv_aload_n hx hb dX3_row_17 rfl (lv_at hl 2 rfl) ?_
  refine va_get (D := D) (ci := 3) (v := .ref b8) (C := RX3) (T := TX3) (N := 18) hx hb hts inX3 hown hK hP 0 rfl rfl 8 (by decide) (hts _ kw_444) (fun _ h9 => h9) rfl dX3_row_18 ?_
  refine W.eq (g2 := F0 m 21 ls [.ref b8, .int 1, .int ((((0 : Int32) ||| ((1 : Int32) <<< ((f8 (4 : Int32).toNatClampNeg) &&& 31))) ||| ((1 : Int32) <<< ((f8 (5 : Int32).toNatClampNeg) &&& 31))) ||| ((1 : Int32) <<< ((f8 (6 : Int32).toNatClampNeg) &&& 31)))]) rfl ?_
  refine lv_iload_n hx hb dX3_row_21 rfl (lv_at hl 3 rfl) ?_
  refine lv_aload_n hx hb dX3_row_22 rfl (lv_at hl 2 rfl) ?_
  refine va_get (D := D) (ci := 3) (v := .ref a1) (C := RX3) (T := TX3) (N := 18) hx hb hts inX3 hown hK hP 0 rfl rfl 0 (by decide) (hts _ kw_420) (fun _ h9 => h9) rfl dX3_row_23 ?_
  refine va_get (D := D) (ci := 5) (v := .int 4) (C := RX5) (T := TX5) (N := 16) hx hb hts inX5 hown hK hP 1 rfl rfl 11 (by decide) (hts _ kw_228) (fun _ h9 => h9) rfl dX3_row_26 ?_
  refine lv_imul hx hb dX3_row_29 ?_
  refine z_i (v := 4) (by decide) ?_
  refine lv_iload_n hx hb dX3_row_30 rfl (lv_at hl 0 rfl) ?_
  refine lv_iadd hx hb dX3_row_31 ?_
  refine z_i (v := 7) (by decide) ?_
  refine va_iald hx hb hK hP 2 0 rfl rfl (z_in (by decide)) dX3_row_32 ?_
  refine lv_ishl hx hb dX3_row_33 ?_
  refine lv_ior hx hb dX3_row_34 ?_
  refine W.eq (g2 := F0 m 35 ls [.int (((((0 : Int32) ||| ((1 : Int32) <<< ((f8 (4 : Int32).toNatClampNeg) &&& 31))) ||| ((1 : Int32) <<< ((f8 (5 : Int32).toNatClampNeg) &&& 31))) ||| ((1 : Int32) <<< ((f8 (6 : Int32).toNatClampNeg) &&& 31))) ||| ((1 : Int32) <<< ((f8 (7 : Int32).toNatClampNeg) &&& 31)))]) rfl ?_
  refine lv_istore_n (lv' := [(2, .int (((((0 : Int32) ||| ((1 : Int32) <<< ((f8 (4 : Int32).toNatClampNeg) &&& 31))) ||| ((1 : Int32) <<< ((f8 (5 : Int32).toNatClampNeg) &&& 31))) ||| ((1 : Int32) <<< ((f8 (6 : Int32).toNatClampNeg) &&& 31))) ||| ((1 : Int32) <<< ((f8 (7 : Int32).toNatClampNeg) &&& 31)))), (3, .int 3), (0, .ref h0), (1, .int 1)]) hx hb dX3_row_35 rfl hl (by decide) rfl (fun ls hl => ?_)
  refine lv_iinc (v := 4) (lv' := [(3, .int 4), (2, .int (((((0 : Int32) ||| ((1 : Int32) <<< ((f8 (4 : Int32).toNatClampNeg) &&& 31))) ||| ((1 : Int32) <<< ((f8 (5 : Int32).toNatClampNeg) &&& 31))) ||| ((1 : Int32) <<< ((f8 (6 : Int32).toNatClampNeg) &&& 31))) ||| ((1 : Int32) <<< ((f8 (7 : Int32).toNatClampNeg) &&& 31)))), (0, .ref h0), (1, .int 1)]) hx hb dX3_row_36 hl (k := 1) rfl (by decide) (by decide) rfl (fun ls hl => ?_)
  refine lv_goto (tgt := 4) hx hb dX3_row_39 (by decide) ?_
  refine lv_iload_n hx hb dX3_row_4 rfl (lv_at hl 0 rfl) ?_
  refine lv_aload_n hx hb dX3_row_5 rfl (lv_at hl 2 rfl) ?_
  refine va_get (D := D) (ci := 3) (v := .ref a1) (C := RX3) (T := TX3) (N := 18) hx hb hts inX3 hown hK hP 0 rfl rfl 0 (by decide) (hts _ kw_420) (fun _ h9 => h9) rfl dX3_row_6 ?_
  refine va_get (D := D) (ci := 5) (v := .int 4) (C := RX5) (T := TX5) (N := 16) hx hb hts inX5 hown hK hP 1 rfl rfl 11 (by decide) (hts _ kw_228) (fun _ h9 => h9) rfl dX3_row_9 ?_
  refine lv_icmp_ge (tgt := 42) hx hb dX3_row_12 (by decide) (fun _ => ?_) (fun h => absurd (by decide) h)
  refine lv_iload_n hx hb dX3_row_42 rfl (lv_at hl 1 rfl) ?_
  exact rd_i hx hb hr hlocks (rfl) dX3_row_43
set_option maxHeartbeats 4000000 in
set_option maxRecDepth 100000 in
theorem wX3_row2 {l : Launch} {D : va_G} (h0 : Nat) (a1 : Nat) (b8 : Nat) (b3 : Nat) (b4 : Nat) (gr1 : Nat) (gi2 : Int32) (gi5 : Int32) (gi6 : Int32) (gi7 : Int32) (gr9 : Nat) (gr10 : Nat) (gr11 : Nat) (gr12 : Nat) (gr13 : Nat) (gr14 : Nat) (gr15 : Nat) (gr16 : Nat) (gi17 : Int32) (li0 : Int32) (li1 : Int32) (li2 : Int32) (li3 : Int32) (lr4 : Nat) (lr5 : Nat) (lr6 : Nat) (lr7 : Nat) (lr8 : Nat) (li9 : Int32) (lr12 : Nat) (lr13 : Nat) (lr14 : Nat) (li15 : Int32) (k8 : ClassId) (f8 : Nat → Int32) : Rd l yX3_row cX3_row 4 (some .int) 0 D [(h0, .inr (3, [.ref a1, .ref gr1, .int gi2, .ref b3, .ref b4, .int gi5, .int gi6, .int gi7, .ref b8, .ref gr9, .ref gr10, .ref gr11, .ref gr12, .ref gr13, .ref gr14, .ref gr15, .ref gr16, .int gi17])), (a1, .inr (5, [.int li0, .int li1, .int li2, .int li3, .ref lr4, .ref lr5, .ref lr6, .ref lr7, .ref lr8, .int li9, .int 16, .int 4, .ref lr12, .ref lr13, .ref lr14, .int li15])), (b8, .inl (k8, 16, .inl f8))] [(k8, .int)] [.ref h0, .int 2] (.int (((((0 : Int32) ||| ((1 : Int32) <<< ((f8 (8 : Int32).toNatClampNeg) &&& 31))) ||| ((1 : Int32) <<< ((f8 (9 : Int32).toNatClampNeg) &&& 31))) ||| ((1 : Int32) <<< ((f8 (10 : Int32).toNatClampNeg) &&& 31))) ||| ((1 : Int32) <<< ((f8 (11 : Int32).toNatClampNeg) &&& 31)))) := by
  refine Rd.of (by decide) (Nat.le_of_ble_eq_true rfl) ?_
  intro p e s m below meth c ls hx hb hr hml hown hts hlocks hP hK hl
  have hown : s.vm.findClass "SignalTable$Game" = some m.cls := hown
  have hl : lv_has ls 4 [(0, .ref h0), (1, .int 2)] := hl
  refine lv_iconst (v := 0) hx hb dX3_row_0 (by decide) ?_
  refine lv_istore_n (lv' := [(2, .int 0), (0, .ref h0), (1, .int 2)]) hx hb dX3_row_1 rfl hl (by decide) rfl (fun ls hl => ?_)
  refine lv_iconst (v := 0) hx hb dX3_row_2 (by decide) ?_
  refine lv_istore_n (lv' := [(3, .int 0), (2, .int 0), (0, .ref h0), (1, .int 2)]) hx hb dX3_row_3 rfl hl (by decide) rfl (fun ls hl => ?_)
  refine lv_iload_n hx hb dX3_row_4 rfl (lv_at hl 0 rfl) ?_
  refine lv_aload_n hx hb dX3_row_5 rfl (lv_at hl 2 rfl) ?_
  refine va_get (D := D) (ci := 3) (v := .ref a1) (C := RX3) (T := TX3) (N := 18) hx hb hts inX3 hown hK hP 0 rfl rfl 0 (by decide) (hts _ kw_420) (fun _ h9 => h9) rfl dX3_row_6 ?_
  refine va_get (D := D) (ci := 5) (v := .int 4) (C := RX5) (T := TX5) (N := 16) hx hb hts inX5 hown hK hP 1 rfl rfl 11 (by decide) (hts _ kw_228) (fun _ h9 => h9) rfl dX3_row_9 ?_
  refine lv_icmp_ge (tgt := 42) hx hb dX3_row_12 (by decide) (fun h => absurd h (by decide)) (fun _ => ?_)
  refine W.eq (g2 := F0 m 15 ls []) rfl ?_
  refine lv_iload_n hx hb dX3_row_15 rfl (lv_at hl 1 rfl) ?_
  refine lv_iconst (v := 1) hx hb dX3_row_16 (by decide) ?_
  refine lv_aload_n hx hb dX3_row_17 rfl (lv_at hl 2 rfl) ?_
  refine va_get (D := D) (ci := 3) (v := .ref b8) (C := RX3) (T := TX3) (N := 18) hx hb hts inX3 hown hK hP 0 rfl rfl 8 (by decide) (hts _ kw_444) (fun _ h9 => h9) rfl dX3_row_18 ?_
  refine lv_iload_n hx hb dX3_row_21 rfl (lv_at hl 3 rfl) ?_
  refine lv_aload_n hx hb dX3_row_22 rfl (lv_at hl 2 rfl) ?_
  refine va_get (D := D) (ci := 3) (v := .ref a1) (C := RX3) (T := TX3) (N := 18) hx hb hts inX3 hown hK hP 0 rfl rfl 0 (by decide) (hts _ kw_420) (fun _ h9 => h9) rfl dX3_row_23 ?_
  refine va_get (D := D) (ci := 5) (v := .int 4) (C := RX5) (T := TX5) (N := 16) hx hb hts inX5 hown hK hP 1 rfl rfl 11 (by decide) (hts _ kw_228) (fun _ h9 => h9) rfl dX3_row_26 ?_
  refine lv_imul hx hb dX3_row_29 ?_
  refine z_i (v := 8) (by decide) ?_
  refine lv_iload_n hx hb dX3_row_30 rfl (lv_at hl 0 rfl) ?_
  refine W.eq (g2 := F0 m 31 ls [.int 0, .int 8, .ref b8, .int 1, .int 0]) rfl ?_
  refine lv_iadd hx hb dX3_row_31 ?_
  refine z_i (v := 8) (by decide) ?_
  refine va_iald hx hb hK hP 2 0 rfl rfl (z_in (by decide)) dX3_row_32 ?_
  refine lv_ishl hx hb dX3_row_33 ?_
  refine lv_ior hx hb dX3_row_34 ?_
  refine lv_istore_n (lv' := [(2, .int ((0 : Int32) ||| ((1 : Int32) <<< ((f8 (8 : Int32).toNatClampNeg) &&& 31)))), (3, .int 0), (0, .ref h0), (1, .int 2)]) hx hb dX3_row_35 rfl hl (by decide) rfl (fun ls hl => ?_)
  refine lv_iinc (v := 1) (lv' := [(3, .int 1), (2, .int ((0 : Int32) ||| ((1 : Int32) <<< ((f8 (8 : Int32).toNatClampNeg) &&& 31)))), (0, .ref h0), (1, .int 2)]) hx hb dX3_row_36 hl (k := 1) rfl (by decide) (by decide) rfl (fun ls hl => ?_)
  refine lv_goto (tgt := 4) hx hb dX3_row_39 (by decide) ?_
  refine lv_iload_n hx hb dX3_row_4 rfl (lv_at hl 0 rfl) ?_
  refine lv_aload_n hx hb dX3_row_5 rfl (lv_at hl 2 rfl) ?_
  refine va_get (D := D) (ci := 3) (v := .ref a1) (C := RX3) (T := TX3) (N := 18) hx hb hts inX3 hown hK hP 0 rfl rfl 0 (by decide) (hts _ kw_420) (fun _ h9 => h9) rfl dX3_row_6 ?_
  refine W.eq (g2 := F0 m 9 ls [.ref a1, .int 1]) rfl ?_
  refine va_get (D := D) (ci := 5) (v := .int 4) (C := RX5) (T := TX5) (N := 16) hx hb hts inX5 hown hK hP 1 rfl rfl 11 (by decide) (hts _ kw_228) (fun _ h9 => h9) rfl dX3_row_9 ?_
  refine lv_icmp_ge (tgt := 42) hx hb dX3_row_12 (by decide) (fun h => absurd h (by decide)) (fun _ => ?_)
  refine lv_iload_n hx hb dX3_row_15 rfl (lv_at hl 1 rfl) ?_
  refine lv_iconst (v := 1) hx hb dX3_row_16 (by decide) ?_
  refine lv_aload_n hx hb dX3_row_17 rfl (lv_at hl 2 rfl) ?_
  refine va_get (D := D) (ci := 3) (v := .ref b8) (C := RX3) (T := TX3) (N := 18) hx hb hts inX3 hown hK hP 0 rfl rfl 8 (by decide) (hts _ kw_444) (fun _ h9 => h9) rfl dX3_row_18 ?_
  refine lv_iload_n hx hb dX3_row_21 rfl (lv_at hl 3 rfl) ?_
  refine lv_aload_n hx hb dX3_row_22 rfl (lv_at hl 2 rfl) ?_
  refine va_get (D := D) (ci := 3) (v := .ref a1) (C := RX3) (T := TX3) (N := 18) hx hb hts inX3 hown hK hP 0 rfl rfl 0 (by decide) (hts _ kw_420) (fun _ h9 => h9) rfl dX3_row_23 ?_
  refine va_get (D := D) (ci := 5) (v := .int 4) (C := RX5) (T := TX5) (N := 16) hx hb hts inX5 hown hK hP 1 rfl rfl 11 (by decide) (hts _ kw_228) (fun _ h9 => h9) rfl dX3_row_26 ?_
  refine W.eq (g2 := F0 m 29 ls [.int 4, .int 2, .ref b8, .int 1, .int ((0 : Int32) ||| ((1 : Int32) <<< ((f8 (8 : Int32).toNatClampNeg) &&& 31)))]) rfl ?_
  refine lv_imul hx hb dX3_row_29 ?_
  refine z_i (v := 8) (by decide) ?_
  refine lv_iload_n hx hb dX3_row_30 rfl (lv_at hl 0 rfl) ?_
  refine lv_iadd hx hb dX3_row_31 ?_
  refine z_i (v := 9) (by decide) ?_
  refine va_iald hx hb hK hP 2 0 rfl rfl (z_in (by decide)) dX3_row_32 ?_
  refine lv_ishl hx hb dX3_row_33 ?_
  refine lv_ior hx hb dX3_row_34 ?_
  refine lv_istore_n (lv' := [(2, .int (((0 : Int32) ||| ((1 : Int32) <<< ((f8 (8 : Int32).toNatClampNeg) &&& 31))) ||| ((1 : Int32) <<< ((f8 (9 : Int32).toNatClampNeg) &&& 31)))), (3, .int 1), (0, .ref h0), (1, .int 2)]) hx hb dX3_row_35 rfl hl (by decide) rfl (fun ls hl => ?_)
  refine lv_iinc (v := 2) (lv' := [(3, .int 2), (2, .int (((0 : Int32) ||| ((1 : Int32) <<< ((f8 (8 : Int32).toNatClampNeg) &&& 31))) ||| ((1 : Int32) <<< ((f8 (9 : Int32).toNatClampNeg) &&& 31)))), (0, .ref h0), (1, .int 2)]) hx hb dX3_row_36 hl (k := 1) rfl (by decide) (by decide) rfl (fun ls hl => ?_)
  refine lv_goto (tgt := 4) hx hb dX3_row_39 (by decide) ?_
  refine lv_iload_n hx hb dX3_row_4 rfl (lv_at hl 0 rfl) ?_
  refine W.eq (g2 := F0 m 5 ls [.int 2]) rfl ?_
  refine lv_aload_n hx hb dX3_row_5 rfl (lv_at hl 2 rfl) ?_
  refine va_get (D := D) (ci := 3) (v := .ref a1) (C := RX3) (T := TX3) (N := 18) hx hb hts inX3 hown hK hP 0 rfl rfl 0 (by decide) (hts _ kw_420) (fun _ h9 => h9) rfl dX3_row_6 ?_
  refine va_get (D := D) (ci := 5) (v := .int 4) (C := RX5) (T := TX5) (N := 16) hx hb hts inX5 hown hK hP 1 rfl rfl 11 (by decide) (hts _ kw_228) (fun _ h9 => h9) rfl dX3_row_9 ?_
  refine lv_icmp_ge (tgt := 42) hx hb dX3_row_12 (by decide) (fun h => absurd h (by decide)) (fun _ => ?_)
  refine lv_iload_n hx hb dX3_row_15 rfl (lv_at hl 1 rfl) ?_
  refine lv_iconst (v := 1) hx hb dX3_row_16 (by decide) ?_
  refine lv_aload_n hx hb dX3_row_17 rfl (lv_at hl 2 rfl) ?_
  refine va_get (D := D) (ci := 3) (v := .ref b8) (C := RX3) (T := TX3) (N := 18) hx hb hts inX3 hown hK hP 0 rfl rfl 8 (by decide) (hts _ kw_444) (fun _ h9 => h9) rfl dX3_row_18 ?_
  refine lv_iload_n hx hb dX3_row_21 rfl (lv_at hl 3 rfl) ?_
  refine lv_aload_n hx hb dX3_row_22 rfl (lv_at hl 2 rfl) ?_
  refine W.eq (g2 := F0 m 23 ls [.ref h0, .int 2, .ref b8, .int 1, .int (((0 : Int32) ||| ((1 : Int32) <<< ((f8 (8 : Int32).toNatClampNeg) &&& 31))) ||| ((1 : Int32) <<< ((f8 (9 : Int32).toNatClampNeg) &&& 31)))]) rfl ?_
  refine va_get (D := D) (ci := 3) (v := .ref a1) (C := RX3) (T := TX3) (N := 18) hx hb hts inX3 hown hK hP 0 rfl rfl 0 (by decide) (hts _ kw_420) (fun _ h9 => h9) rfl dX3_row_23 ?_
  refine va_get (D := D) (ci := 5) (v := .int 4) (C := RX5) (T := TX5) (N := 16) hx hb hts inX5 hown hK hP 1 rfl rfl 11 (by decide) (hts _ kw_228) (fun _ h9 => h9) rfl dX3_row_26 ?_
  refine lv_imul hx hb dX3_row_29 ?_
  refine z_i (v := 8) (by decide) ?_
  refine lv_iload_n hx hb dX3_row_30 rfl (lv_at hl 0 rfl) ?_
  refine lv_iadd hx hb dX3_row_31 ?_
  refine z_i (v := 10) (by decide) ?_
  refine va_iald hx hb hK hP 2 0 rfl rfl (z_in (by decide)) dX3_row_32 ?_
  refine lv_ishl hx hb dX3_row_33 ?_
  refine lv_ior hx hb dX3_row_34 ?_
  refine lv_istore_n (lv' := [(2, .int ((((0 : Int32) ||| ((1 : Int32) <<< ((f8 (8 : Int32).toNatClampNeg) &&& 31))) ||| ((1 : Int32) <<< ((f8 (9 : Int32).toNatClampNeg) &&& 31))) ||| ((1 : Int32) <<< ((f8 (10 : Int32).toNatClampNeg) &&& 31)))), (3, .int 2), (0, .ref h0), (1, .int 2)]) hx hb dX3_row_35 rfl hl (by decide) rfl (fun ls hl => ?_)
  refine lv_iinc (v := 3) (lv' := [(3, .int 3), (2, .int ((((0 : Int32) ||| ((1 : Int32) <<< ((f8 (8 : Int32).toNatClampNeg) &&& 31))) ||| ((1 : Int32) <<< ((f8 (9 : Int32).toNatClampNeg) &&& 31))) ||| ((1 : Int32) <<< ((f8 (10 : Int32).toNatClampNeg) &&& 31)))), (0, .ref h0), (1, .int 2)]) hx hb dX3_row_36 hl (k := 1) rfl (by decide) (by decide) rfl (fun ls hl => ?_)
  refine W.eq (g2 := F0 m 39 ls []) rfl ?_
  refine lv_goto (tgt := 4) hx hb dX3_row_39 (by decide) ?_
  refine lv_iload_n hx hb dX3_row_4 rfl (lv_at hl 0 rfl) ?_
  refine lv_aload_n hx hb dX3_row_5 rfl (lv_at hl 2 rfl) ?_
  refine va_get (D := D) (ci := 3) (v := .ref a1) (C := RX3) (T := TX3) (N := 18) hx hb hts inX3 hown hK hP 0 rfl rfl 0 (by decide) (hts _ kw_420) (fun _ h9 => h9) rfl dX3_row_6 ?_
  refine va_get (D := D) (ci := 5) (v := .int 4) (C := RX5) (T := TX5) (N := 16) hx hb hts inX5 hown hK hP 1 rfl rfl 11 (by decide) (hts _ kw_228) (fun _ h9 => h9) rfl dX3_row_9 ?_
  refine lv_icmp_ge (tgt := 42) hx hb dX3_row_12 (by decide) (fun h => absurd h (by decide)) (fun _ => ?_)
  refine lv_iload_n hx hb dX3_row_15 rfl (lv_at hl 1 rfl) ?_
  refine lv_iconst (v := 1) hx hb dX3_row_16 (by decide) ?_
  refine lv_aload_n hx hb dX3_row_17 rfl (lv_at hl 2 rfl) ?_
  refine va_get (D := D) (ci := 3) (v := .ref b8) (C := RX3) (T := TX3) (N := 18) hx hb hts inX3 hown hK hP 0 rfl rfl 8 (by decide) (hts _ kw_444) (fun _ h9 => h9) rfl dX3_row_18 ?_
  refine W.eq (g2 := F0 m 21 ls [.ref b8, .int 1, .int ((((0 : Int32) ||| ((1 : Int32) <<< ((f8 (8 : Int32).toNatClampNeg) &&& 31))) ||| ((1 : Int32) <<< ((f8 (9 : Int32).toNatClampNeg) &&& 31))) ||| ((1 : Int32) <<< ((f8 (10 : Int32).toNatClampNeg) &&& 31)))]) rfl ?_
  refine lv_iload_n hx hb dX3_row_21 rfl (lv_at hl 3 rfl) ?_
  refine lv_aload_n hx hb dX3_row_22 rfl (lv_at hl 2 rfl) ?_
  refine va_get (D := D) (ci := 3) (v := .ref a1) (C := RX3) (T := TX3) (N := 18) hx hb hts inX3 hown hK hP 0 rfl rfl 0 (by decide) (hts _ kw_420) (fun _ h9 => h9) rfl dX3_row_23 ?_
  refine va_get (D := D) (ci := 5) (v := .int 4) (C := RX5) (T := TX5) (N := 16) hx hb hts inX5 hown hK hP 1 rfl rfl 11 (by decide) (hts _ kw_228) (fun _ h9 => h9) rfl dX3_row_26 ?_
  refine lv_imul hx hb dX3_row_29 ?_
  refine z_i (v := 8) (by decide) ?_
  refine lv_iload_n hx hb dX3_row_30 rfl (lv_at hl 0 rfl) ?_
  refine lv_iadd hx hb dX3_row_31 ?_
  refine z_i (v := 11) (by decide) ?_
  refine va_iald hx hb hK hP 2 0 rfl rfl (z_in (by decide)) dX3_row_32 ?_
  refine lv_ishl hx hb dX3_row_33 ?_
  refine lv_ior hx hb dX3_row_34 ?_
  refine W.eq (g2 := F0 m 35 ls [.int (((((0 : Int32) ||| ((1 : Int32) <<< ((f8 (8 : Int32).toNatClampNeg) &&& 31))) ||| ((1 : Int32) <<< ((f8 (9 : Int32).toNatClampNeg) &&& 31))) ||| ((1 : Int32) <<< ((f8 (10 : Int32).toNatClampNeg) &&& 31))) ||| ((1 : Int32) <<< ((f8 (11 : Int32).toNatClampNeg) &&& 31)))]) rfl ?_
  refine lv_istore_n (lv' := [(2, .int (((((0 : Int32) ||| ((1 : Int32) <<< ((f8 (8 : Int32).toNatClampNeg) &&& 31))) ||| ((1 : Int32) <<< ((f8 (9 : Int32).toNatClampNeg) &&& 31))) ||| ((1 : Int32) <<< ((f8 (10 : Int32).toNatClampNeg) &&& 31))) ||| ((1 : Int32) <<< ((f8 (11 : Int32).toNatClampNeg) &&& 31)))), (3, .int 3), (0, .ref h0), (1, .int 2)]) hx hb dX3_row_35 rfl hl (by decide) rfl (fun ls hl => ?_)
  refine lv_iinc (v := 4) (lv' := [(3, .int 4), (2, .int (((((0 : Int32) ||| ((1 : Int32) <<< ((f8 (8 : Int32).toNatClampNeg) &&& 31))) ||| ((1 : Int32) <<< ((f8 (9 : Int32).toNatClampNeg) &&& 31))) ||| ((1 : Int32) <<< ((f8 (10 : Int32).toNatClampNeg) &&& 31))) ||| ((1 : Int32) <<< ((f8 (11 : Int32).toNatClampNeg) &&& 31)))), (0, .ref h0), (1, .int 2)]) hx hb dX3_row_36 hl (k := 1) rfl (by decide) (by decide) rfl (fun ls hl => ?_)
  refine lv_goto (tgt := 4) hx hb dX3_row_39 (by decide) ?_
  refine lv_iload_n hx hb dX3_row_4 rfl (lv_at hl 0 rfl) ?_
  refine lv_aload_n hx hb dX3_row_5 rfl (lv_at hl 2 rfl) ?_
  refine va_get (D := D) (ci := 3) (v := .ref a1) (C := RX3) (T := TX3) (N := 18) hx hb hts inX3 hown hK hP 0 rfl rfl 0 (by decide) (hts _ kw_420) (fun _ h9 => h9) rfl dX3_row_6 ?_
  refine va_get (D := D) (ci := 5) (v := .int 4) (C := RX5) (T := TX5) (N := 16) hx hb hts inX5 hown hK hP 1 rfl rfl 11 (by decide) (hts _ kw_228) (fun _ h9 => h9) rfl dX3_row_9 ?_
  refine lv_icmp_ge (tgt := 42) hx hb dX3_row_12 (by decide) (fun _ => ?_) (fun h => absurd (by decide) h)
  refine lv_iload_n hx hb dX3_row_42 rfl (lv_at hl 1 rfl) ?_
  exact rd_i hx hb hr hlocks (rfl) dX3_row_43
set_option maxHeartbeats 4000000 in
set_option maxRecDepth 100000 in
theorem wX3_row3 {l : Launch} {D : va_G} (h0 : Nat) (a1 : Nat) (b8 : Nat) (b3 : Nat) (b4 : Nat) (gr1 : Nat) (gi2 : Int32) (gi5 : Int32) (gi6 : Int32) (gi7 : Int32) (gr9 : Nat) (gr10 : Nat) (gr11 : Nat) (gr12 : Nat) (gr13 : Nat) (gr14 : Nat) (gr15 : Nat) (gr16 : Nat) (gi17 : Int32) (li0 : Int32) (li1 : Int32) (li2 : Int32) (li3 : Int32) (lr4 : Nat) (lr5 : Nat) (lr6 : Nat) (lr7 : Nat) (lr8 : Nat) (li9 : Int32) (lr12 : Nat) (lr13 : Nat) (lr14 : Nat) (li15 : Int32) (k8 : ClassId) (f8 : Nat → Int32) : Rd l yX3_row cX3_row 4 (some .int) 0 D [(h0, .inr (3, [.ref a1, .ref gr1, .int gi2, .ref b3, .ref b4, .int gi5, .int gi6, .int gi7, .ref b8, .ref gr9, .ref gr10, .ref gr11, .ref gr12, .ref gr13, .ref gr14, .ref gr15, .ref gr16, .int gi17])), (a1, .inr (5, [.int li0, .int li1, .int li2, .int li3, .ref lr4, .ref lr5, .ref lr6, .ref lr7, .ref lr8, .int li9, .int 16, .int 4, .ref lr12, .ref lr13, .ref lr14, .int li15])), (b8, .inl (k8, 16, .inl f8))] [(k8, .int)] [.ref h0, .int 3] (.int (((((0 : Int32) ||| ((1 : Int32) <<< ((f8 (12 : Int32).toNatClampNeg) &&& 31))) ||| ((1 : Int32) <<< ((f8 (13 : Int32).toNatClampNeg) &&& 31))) ||| ((1 : Int32) <<< ((f8 (14 : Int32).toNatClampNeg) &&& 31))) ||| ((1 : Int32) <<< ((f8 (15 : Int32).toNatClampNeg) &&& 31)))) := by
  refine Rd.of (by decide) (Nat.le_of_ble_eq_true rfl) ?_
  intro p e s m below meth c ls hx hb hr hml hown hts hlocks hP hK hl
  have hown : s.vm.findClass "SignalTable$Game" = some m.cls := hown
  have hl : lv_has ls 4 [(0, .ref h0), (1, .int 3)] := hl
  refine lv_iconst (v := 0) hx hb dX3_row_0 (by decide) ?_
  refine lv_istore_n (lv' := [(2, .int 0), (0, .ref h0), (1, .int 3)]) hx hb dX3_row_1 rfl hl (by decide) rfl (fun ls hl => ?_)
  refine lv_iconst (v := 0) hx hb dX3_row_2 (by decide) ?_
  refine lv_istore_n (lv' := [(3, .int 0), (2, .int 0), (0, .ref h0), (1, .int 3)]) hx hb dX3_row_3 rfl hl (by decide) rfl (fun ls hl => ?_)
  refine lv_iload_n hx hb dX3_row_4 rfl (lv_at hl 0 rfl) ?_
  refine lv_aload_n hx hb dX3_row_5 rfl (lv_at hl 2 rfl) ?_
  refine va_get (D := D) (ci := 3) (v := .ref a1) (C := RX3) (T := TX3) (N := 18) hx hb hts inX3 hown hK hP 0 rfl rfl 0 (by decide) (hts _ kw_420) (fun _ h9 => h9) rfl dX3_row_6 ?_
  refine va_get (D := D) (ci := 5) (v := .int 4) (C := RX5) (T := TX5) (N := 16) hx hb hts inX5 hown hK hP 1 rfl rfl 11 (by decide) (hts _ kw_228) (fun _ h9 => h9) rfl dX3_row_9 ?_
  refine lv_icmp_ge (tgt := 42) hx hb dX3_row_12 (by decide) (fun h => absurd h (by decide)) (fun _ => ?_)
  refine W.eq (g2 := F0 m 15 ls []) rfl ?_
  refine lv_iload_n hx hb dX3_row_15 rfl (lv_at hl 1 rfl) ?_
  refine lv_iconst (v := 1) hx hb dX3_row_16 (by decide) ?_
  refine lv_aload_n hx hb dX3_row_17 rfl (lv_at hl 2 rfl) ?_
  refine va_get (D := D) (ci := 3) (v := .ref b8) (C := RX3) (T := TX3) (N := 18) hx hb hts inX3 hown hK hP 0 rfl rfl 8 (by decide) (hts _ kw_444) (fun _ h9 => h9) rfl dX3_row_18 ?_
  refine lv_iload_n hx hb dX3_row_21 rfl (lv_at hl 3 rfl) ?_
  refine lv_aload_n hx hb dX3_row_22 rfl (lv_at hl 2 rfl) ?_
  refine va_get (D := D) (ci := 3) (v := .ref a1) (C := RX3) (T := TX3) (N := 18) hx hb hts inX3 hown hK hP 0 rfl rfl 0 (by decide) (hts _ kw_420) (fun _ h9 => h9) rfl dX3_row_23 ?_
  refine va_get (D := D) (ci := 5) (v := .int 4) (C := RX5) (T := TX5) (N := 16) hx hb hts inX5 hown hK hP 1 rfl rfl 11 (by decide) (hts _ kw_228) (fun _ h9 => h9) rfl dX3_row_26 ?_
  refine lv_imul hx hb dX3_row_29 ?_
  refine z_i (v := 12) (by decide) ?_
  refine lv_iload_n hx hb dX3_row_30 rfl (lv_at hl 0 rfl) ?_
  refine W.eq (g2 := F0 m 31 ls [.int 0, .int 12, .ref b8, .int 1, .int 0]) rfl ?_
  refine lv_iadd hx hb dX3_row_31 ?_
  refine z_i (v := 12) (by decide) ?_
  refine va_iald hx hb hK hP 2 0 rfl rfl (z_in (by decide)) dX3_row_32 ?_
  refine lv_ishl hx hb dX3_row_33 ?_
  refine lv_ior hx hb dX3_row_34 ?_
  refine lv_istore_n (lv' := [(2, .int ((0 : Int32) ||| ((1 : Int32) <<< ((f8 (12 : Int32).toNatClampNeg) &&& 31)))), (3, .int 0), (0, .ref h0), (1, .int 3)]) hx hb dX3_row_35 rfl hl (by decide) rfl (fun ls hl => ?_)
  refine lv_iinc (v := 1) (lv' := [(3, .int 1), (2, .int ((0 : Int32) ||| ((1 : Int32) <<< ((f8 (12 : Int32).toNatClampNeg) &&& 31)))), (0, .ref h0), (1, .int 3)]) hx hb dX3_row_36 hl (k := 1) rfl (by decide) (by decide) rfl (fun ls hl => ?_)
  refine lv_goto (tgt := 4) hx hb dX3_row_39 (by decide) ?_
  refine lv_iload_n hx hb dX3_row_4 rfl (lv_at hl 0 rfl) ?_
  refine lv_aload_n hx hb dX3_row_5 rfl (lv_at hl 2 rfl) ?_
  refine va_get (D := D) (ci := 3) (v := .ref a1) (C := RX3) (T := TX3) (N := 18) hx hb hts inX3 hown hK hP 0 rfl rfl 0 (by decide) (hts _ kw_420) (fun _ h9 => h9) rfl dX3_row_6 ?_
  refine W.eq (g2 := F0 m 9 ls [.ref a1, .int 1]) rfl ?_
  refine va_get (D := D) (ci := 5) (v := .int 4) (C := RX5) (T := TX5) (N := 16) hx hb hts inX5 hown hK hP 1 rfl rfl 11 (by decide) (hts _ kw_228) (fun _ h9 => h9) rfl dX3_row_9 ?_
  refine lv_icmp_ge (tgt := 42) hx hb dX3_row_12 (by decide) (fun h => absurd h (by decide)) (fun _ => ?_)
  refine lv_iload_n hx hb dX3_row_15 rfl (lv_at hl 1 rfl) ?_
  refine lv_iconst (v := 1) hx hb dX3_row_16 (by decide) ?_
  refine lv_aload_n hx hb dX3_row_17 rfl (lv_at hl 2 rfl) ?_
  refine va_get (D := D) (ci := 3) (v := .ref b8) (C := RX3) (T := TX3) (N := 18) hx hb hts inX3 hown hK hP 0 rfl rfl 8 (by decide) (hts _ kw_444) (fun _ h9 => h9) rfl dX3_row_18 ?_
  refine lv_iload_n hx hb dX3_row_21 rfl (lv_at hl 3 rfl) ?_
  refine lv_aload_n hx hb dX3_row_22 rfl (lv_at hl 2 rfl) ?_
  refine va_get (D := D) (ci := 3) (v := .ref a1) (C := RX3) (T := TX3) (N := 18) hx hb hts inX3 hown hK hP 0 rfl rfl 0 (by decide) (hts _ kw_420) (fun _ h9 => h9) rfl dX3_row_23 ?_
  refine va_get (D := D) (ci := 5) (v := .int 4) (C := RX5) (T := TX5) (N := 16) hx hb hts inX5 hown hK hP 1 rfl rfl 11 (by decide) (hts _ kw_228) (fun _ h9 => h9) rfl dX3_row_26 ?_
  refine W.eq (g2 := F0 m 29 ls [.int 4, .int 3, .ref b8, .int 1, .int ((0 : Int32) ||| ((1 : Int32) <<< ((f8 (12 : Int32).toNatClampNeg) &&& 31)))]) rfl ?_
  refine lv_imul hx hb dX3_row_29 ?_
  refine z_i (v := 12) (by decide) ?_
  refine lv_iload_n hx hb dX3_row_30 rfl (lv_at hl 0 rfl) ?_
  refine lv_iadd hx hb dX3_row_31 ?_
  refine z_i (v := 13) (by decide) ?_
  refine va_iald hx hb hK hP 2 0 rfl rfl (z_in (by decide)) dX3_row_32 ?_
  refine lv_ishl hx hb dX3_row_33 ?_
  refine lv_ior hx hb dX3_row_34 ?_
  refine lv_istore_n (lv' := [(2, .int (((0 : Int32) ||| ((1 : Int32) <<< ((f8 (12 : Int32).toNatClampNeg) &&& 31))) ||| ((1 : Int32) <<< ((f8 (13 : Int32).toNatClampNeg) &&& 31)))), (3, .int 1), (0, .ref h0), (1, .int 3)]) hx hb dX3_row_35 rfl hl (by decide) rfl (fun ls hl => ?_)
  refine lv_iinc (v := 2) (lv' := [(3, .int 2), (2, .int (((0 : Int32) ||| ((1 : Int32) <<< ((f8 (12 : Int32).toNatClampNeg) &&& 31))) ||| ((1 : Int32) <<< ((f8 (13 : Int32).toNatClampNeg) &&& 31)))), (0, .ref h0), (1, .int 3)]) hx hb dX3_row_36 hl (k := 1) rfl (by decide) (by decide) rfl (fun ls hl => ?_)
  refine lv_goto (tgt := 4) hx hb dX3_row_39 (by decide) ?_
  refine lv_iload_n hx hb dX3_row_4 rfl (lv_at hl 0 rfl) ?_
  refine W.eq (g2 := F0 m 5 ls [.int 2]) rfl ?_
  refine lv_aload_n hx hb dX3_row_5 rfl (lv_at hl 2 rfl) ?_
  refine va_get (D := D) (ci := 3) (v := .ref a1) (C := RX3) (T := TX3) (N := 18) hx hb hts inX3 hown hK hP 0 rfl rfl 0 (by decide) (hts _ kw_420) (fun _ h9 => h9) rfl dX3_row_6 ?_
  refine va_get (D := D) (ci := 5) (v := .int 4) (C := RX5) (T := TX5) (N := 16) hx hb hts inX5 hown hK hP 1 rfl rfl 11 (by decide) (hts _ kw_228) (fun _ h9 => h9) rfl dX3_row_9 ?_
  refine lv_icmp_ge (tgt := 42) hx hb dX3_row_12 (by decide) (fun h => absurd h (by decide)) (fun _ => ?_)
  refine lv_iload_n hx hb dX3_row_15 rfl (lv_at hl 1 rfl) ?_
  refine lv_iconst (v := 1) hx hb dX3_row_16 (by decide) ?_
  refine lv_aload_n hx hb dX3_row_17 rfl (lv_at hl 2 rfl) ?_
  refine va_get (D := D) (ci := 3) (v := .ref b8) (C := RX3) (T := TX3) (N := 18) hx hb hts inX3 hown hK hP 0 rfl rfl 8 (by decide) (hts _ kw_444) (fun _ h9 => h9) rfl dX3_row_18 ?_
  refine lv_iload_n hx hb dX3_row_21 rfl (lv_at hl 3 rfl) ?_
  refine lv_aload_n hx hb dX3_row_22 rfl (lv_at hl 2 rfl) ?_
  refine W.eq (g2 := F0 m 23 ls [.ref h0, .int 3, .ref b8, .int 1, .int (((0 : Int32) ||| ((1 : Int32) <<< ((f8 (12 : Int32).toNatClampNeg) &&& 31))) ||| ((1 : Int32) <<< ((f8 (13 : Int32).toNatClampNeg) &&& 31)))]) rfl ?_
  refine va_get (D := D) (ci := 3) (v := .ref a1) (C := RX3) (T := TX3) (N := 18) hx hb hts inX3 hown hK hP 0 rfl rfl 0 (by decide) (hts _ kw_420) (fun _ h9 => h9) rfl dX3_row_23 ?_
  refine va_get (D := D) (ci := 5) (v := .int 4) (C := RX5) (T := TX5) (N := 16) hx hb hts inX5 hown hK hP 1 rfl rfl 11 (by decide) (hts _ kw_228) (fun _ h9 => h9) rfl dX3_row_26 ?_
  refine lv_imul hx hb dX3_row_29 ?_
  refine z_i (v := 12) (by decide) ?_
  refine lv_iload_n hx hb dX3_row_30 rfl (lv_at hl 0 rfl) ?_
  refine lv_iadd hx hb dX3_row_31 ?_
  refine z_i (v := 14) (by decide) ?_
  refine va_iald hx hb hK hP 2 0 rfl rfl (z_in (by decide)) dX3_row_32 ?_
  refine lv_ishl hx hb dX3_row_33 ?_
  refine lv_ior hx hb dX3_row_34 ?_
  refine lv_istore_n (lv' := [(2, .int ((((0 : Int32) ||| ((1 : Int32) <<< ((f8 (12 : Int32).toNatClampNeg) &&& 31))) ||| ((1 : Int32) <<< ((f8 (13 : Int32).toNatClampNeg) &&& 31))) ||| ((1 : Int32) <<< ((f8 (14 : Int32).toNatClampNeg) &&& 31)))), (3, .int 2), (0, .ref h0), (1, .int 3)]) hx hb dX3_row_35 rfl hl (by decide) rfl (fun ls hl => ?_)
  refine lv_iinc (v := 3) (lv' := [(3, .int 3), (2, .int ((((0 : Int32) ||| ((1 : Int32) <<< ((f8 (12 : Int32).toNatClampNeg) &&& 31))) ||| ((1 : Int32) <<< ((f8 (13 : Int32).toNatClampNeg) &&& 31))) ||| ((1 : Int32) <<< ((f8 (14 : Int32).toNatClampNeg) &&& 31)))), (0, .ref h0), (1, .int 3)]) hx hb dX3_row_36 hl (k := 1) rfl (by decide) (by decide) rfl (fun ls hl => ?_)
  refine W.eq (g2 := F0 m 39 ls []) rfl ?_
  refine lv_goto (tgt := 4) hx hb dX3_row_39 (by decide) ?_
  refine lv_iload_n hx hb dX3_row_4 rfl (lv_at hl 0 rfl) ?_
  refine lv_aload_n hx hb dX3_row_5 rfl (lv_at hl 2 rfl) ?_
  refine va_get (D := D) (ci := 3) (v := .ref a1) (C := RX3) (T := TX3) (N := 18) hx hb hts inX3 hown hK hP 0 rfl rfl 0 (by decide) (hts _ kw_420) (fun _ h9 => h9) rfl dX3_row_6 ?_
  refine va_get (D := D) (ci := 5) (v := .int 4) (C := RX5) (T := TX5) (N := 16) hx hb hts inX5 hown hK hP 1 rfl rfl 11 (by decide) (hts _ kw_228) (fun _ h9 => h9) rfl dX3_row_9 ?_
  refine lv_icmp_ge (tgt := 42) hx hb dX3_row_12 (by decide) (fun h => absurd h (by decide)) (fun _ => ?_)
  refine lv_iload_n hx hb dX3_row_15 rfl (lv_at hl 1 rfl) ?_
  refine lv_iconst (v := 1) hx hb dX3_row_16 (by decide) ?_
  refine lv_aload_n hx hb dX3_row_17 rfl (lv_at hl 2 rfl) ?_
  refine va_get (D := D) (ci := 3) (v := .ref b8) (C := RX3) (T := TX3) (N := 18) hx hb hts inX3 hown hK hP 0 rfl rfl 8 (by decide) (hts _ kw_444) (fun _ h9 => h9) rfl dX3_row_18 ?_
  refine W.eq (g2 := F0 m 21 ls [.ref b8, .int 1, .int ((((0 : Int32) ||| ((1 : Int32) <<< ((f8 (12 : Int32).toNatClampNeg) &&& 31))) ||| ((1 : Int32) <<< ((f8 (13 : Int32).toNatClampNeg) &&& 31))) ||| ((1 : Int32) <<< ((f8 (14 : Int32).toNatClampNeg) &&& 31)))]) rfl ?_
  refine lv_iload_n hx hb dX3_row_21 rfl (lv_at hl 3 rfl) ?_
  refine lv_aload_n hx hb dX3_row_22 rfl (lv_at hl 2 rfl) ?_
  refine va_get (D := D) (ci := 3) (v := .ref a1) (C := RX3) (T := TX3) (N := 18) hx hb hts inX3 hown hK hP 0 rfl rfl 0 (by decide) (hts _ kw_420) (fun _ h9 => h9) rfl dX3_row_23 ?_
  refine va_get (D := D) (ci := 5) (v := .int 4) (C := RX5) (T := TX5) (N := 16) hx hb hts inX5 hown hK hP 1 rfl rfl 11 (by decide) (hts _ kw_228) (fun _ h9 => h9) rfl dX3_row_26 ?_
  refine lv_imul hx hb dX3_row_29 ?_
  refine z_i (v := 12) (by decide) ?_
  refine lv_iload_n hx hb dX3_row_30 rfl (lv_at hl 0 rfl) ?_
  refine lv_iadd hx hb dX3_row_31 ?_
  refine z_i (v := 15) (by decide) ?_
  refine va_iald hx hb hK hP 2 0 rfl rfl (z_in (by decide)) dX3_row_32 ?_
  refine lv_ishl hx hb dX3_row_33 ?_
  refine lv_ior hx hb dX3_row_34 ?_
  refine W.eq (g2 := F0 m 35 ls [.int (((((0 : Int32) ||| ((1 : Int32) <<< ((f8 (12 : Int32).toNatClampNeg) &&& 31))) ||| ((1 : Int32) <<< ((f8 (13 : Int32).toNatClampNeg) &&& 31))) ||| ((1 : Int32) <<< ((f8 (14 : Int32).toNatClampNeg) &&& 31))) ||| ((1 : Int32) <<< ((f8 (15 : Int32).toNatClampNeg) &&& 31)))]) rfl ?_
  refine lv_istore_n (lv' := [(2, .int (((((0 : Int32) ||| ((1 : Int32) <<< ((f8 (12 : Int32).toNatClampNeg) &&& 31))) ||| ((1 : Int32) <<< ((f8 (13 : Int32).toNatClampNeg) &&& 31))) ||| ((1 : Int32) <<< ((f8 (14 : Int32).toNatClampNeg) &&& 31))) ||| ((1 : Int32) <<< ((f8 (15 : Int32).toNatClampNeg) &&& 31)))), (3, .int 3), (0, .ref h0), (1, .int 3)]) hx hb dX3_row_35 rfl hl (by decide) rfl (fun ls hl => ?_)
  refine lv_iinc (v := 4) (lv' := [(3, .int 4), (2, .int (((((0 : Int32) ||| ((1 : Int32) <<< ((f8 (12 : Int32).toNatClampNeg) &&& 31))) ||| ((1 : Int32) <<< ((f8 (13 : Int32).toNatClampNeg) &&& 31))) ||| ((1 : Int32) <<< ((f8 (14 : Int32).toNatClampNeg) &&& 31))) ||| ((1 : Int32) <<< ((f8 (15 : Int32).toNatClampNeg) &&& 31)))), (0, .ref h0), (1, .int 3)]) hx hb dX3_row_36 hl (k := 1) rfl (by decide) (by decide) rfl (fun ls hl => ?_)
  refine lv_goto (tgt := 4) hx hb dX3_row_39 (by decide) ?_
  refine lv_iload_n hx hb dX3_row_4 rfl (lv_at hl 0 rfl) ?_
  refine lv_aload_n hx hb dX3_row_5 rfl (lv_at hl 2 rfl) ?_
  refine va_get (D := D) (ci := 3) (v := .ref a1) (C := RX3) (T := TX3) (N := 18) hx hb hts inX3 hown hK hP 0 rfl rfl 0 (by decide) (hts _ kw_420) (fun _ h9 => h9) rfl dX3_row_6 ?_
  refine va_get (D := D) (ci := 5) (v := .int 4) (C := RX5) (T := TX5) (N := 16) hx hb hts inX5 hown hK hP 1 rfl rfl 11 (by decide) (hts _ kw_228) (fun _ h9 => h9) rfl dX3_row_9 ?_
  refine lv_icmp_ge (tgt := 42) hx hb dX3_row_12 (by decide) (fun _ => ?_) (fun h => absurd (by decide) h)
  refine lv_iload_n hx hb dX3_row_42 rfl (lv_at hl 1 rfl) ?_
  exact rd_i hx hb hr hlocks (rfl) dX3_row_43
set_option maxHeartbeats 4000000 in
set_option maxRecDepth 100000 in
theorem wX3_leadBy {l : Launch} {D : va_G} {sz : Nat} (h0 : Nat) (a1 : Nat) (b8 : Nat) (b3 : Nat) (b4 : Nat) (gr1 : Nat) (gi2 : Int32) (gi5 : Int32) (gi6 : Int32) (gi7 : Int32) (gr9 : Nat) (gr10 : Nat) (gr11 : Nat) (gr12 : Nat) (gr13 : Nat) (gr14 : Nat) (gr15 : Nat) (gr16 : Nat) (gi17 : Int32) (p1 : Int32) : Wv l yX3_leadBy cX3_leadBy 2 0 0 0 D [(h0, .inr (3, [.ref a1, .ref gr1, .int gi2, .ref b3, .ref b4, .int gi5, .int gi6, .int gi7, .ref b8, .ref gr9, .ref gr10, .ref gr11, .ref gr12, .ref gr13, .ref gr14, .ref gr15, .ref gr16, .int gi17]))] [] [.ref h0, .int p1] sz (fun _ => True) (fun q k g gl => []) (fun k => []) := by
  refine Wv.of (by decide) (Nat.le_of_ble_eq_true rfl) ?_
  intro p e s m below meth c ls A hx hb hr hml hown hts hlocks hin hP hK hD hA hS hE hAe hl
  have hown : s.vm.findClass "SignalTable$Game" = some m.cls := hown
  have hin : meth.name = "leadBy" := hin
  skip
  have hl : lv_has ls 2 [(0, .ref h0), (1, .int p1)] := hl
  refine lv_aload_n hx hb dX3_leadBy_0 rfl (lv_at hl 0 rfl) ?_
  refine lv_iload_n hx hb dX3_leadBy_1 rfl (lv_at hl 1 rfl) ?_
  refine va_put (D := D) (ci := 3) (v := .int p1) (ty := .int) (C := RX3) (T := TX3) (N := 18) hx hb hts inX3 tyX3 tyX3_ok nmX3 hown hK hP hD hS 0 rfl rfl 5 (by decide) (hts _ kw_432) (fun _ h9 => h9) rfl (by decide +kernel) rfl rfl (Nat.le_of_ble_eq_true rfl) dX3_leadBy_2 (fun H locs hP hD hS => ?_)
  have hP : va_P D vwCl [(h0, .inr (3, [.ref a1, .ref gr1, .int gi2, .ref b3, .ref b4, .int p1, .int gi6, .int gi7, .ref b8, .ref gr9, .ref gr10, .ref gr11, .ref gr12, .ref gr13, .ref gr14, .ref gr15, .ref gr16, .int gi17]))] H := hP
  have hD : va_D A [(h0, .inr (3, [.ref a1, .ref gr1, .int gi2, .ref b3, .ref b4, .int p1, .int gi6, .int gi7, .ref b8, .ref gr9, .ref gr10, .ref gr11, .ref gr12, .ref gr13, .ref gr14, .ref gr15, .ref gr16, .int gi17]))] := hD
  refine lv_aload_n hx hb dX3_leadBy_5 rfl (lv_at hl 0 rfl) ?_
  refine lv_iload_n hx hb dX3_leadBy_6 rfl (lv_at hl 1 rfl) ?_
  refine va_put (D := D) (ci := 3) (v := .int p1) (ty := .int) (C := RX3) (T := TX3) (N := 18) hx hb hts inX3 tyX3 tyX3_ok nmX3 hown hK hP hD hS 0 rfl rfl 6 (by decide) (hts _ kw_433) (fun _ h9 => h9) rfl (by decide +kernel) rfl rfl (Nat.le_of_ble_eq_true rfl) dX3_leadBy_7 (fun H locs hP hD hS => ?_)
  have hP : va_P D vwCl [(h0, .inr (3, [.ref a1, .ref gr1, .int gi2, .ref b3, .ref b4, .int p1, .int p1, .int gi7, .ref b8, .ref gr9, .ref gr10, .ref gr11, .ref gr12, .ref gr13, .ref gr14, .ref gr15, .ref gr16, .int gi17]))] H := hP
  have hD : va_D A [(h0, .inr (3, [.ref a1, .ref gr1, .int gi2, .ref b3, .ref b4, .int p1, .int p1, .int gi7, .ref b8, .ref gr9, .ref gr10, .ref gr11, .ref gr12, .ref gr13, .ref gr14, .ref gr15, .ref gr16, .int gi17]))] := hD
  refine lv_aload_n hx hb dX3_leadBy_10 rfl (lv_at hl 0 rfl) ?_
  refine lv_dup hx hb dX3_leadBy_11 rfl ?_
  refine va_get (D := D) (ci := 3) (v := .int gi17) (C := RX3) (T := TX3) (N := 18) hx hb hts inX3 hown hK hP 0 rfl rfl 17 (by decide) (hts _ kw_474) (fun _ h9 => h9) rfl dX3_leadBy_12 ?_
  refine W.eq (g2 := F0 m 15 ls [.int gi17, .ref h0]) rfl ?_
  refine lv_iconst (v := 1) hx hb dX3_leadBy_15 (by decide) ?_
  refine lv_iadd hx hb dX3_leadBy_16 ?_
  refine va_put (D := D) (ci := 3) (v := .int (gi17 + 1)) (ty := .int) (C := RX3) (T := TX3) (N := 18) hx hb hts inX3 tyX3 tyX3_ok nmX3 hown hK hP hD hS 0 rfl rfl 17 (by decide) (hts _ kw_474) (fun _ h9 => h9) rfl (by decide +kernel) rfl rfl (Nat.le_of_ble_eq_true rfl) dX3_leadBy_17 (fun H locs hP hD hS => ?_)
  have hP : va_P D vwCl [(h0, .inr (3, [.ref a1, .ref gr1, .int gi2, .ref b3, .ref b4, .int p1, .int p1, .int gi7, .ref b8, .ref gr9, .ref gr10, .ref gr11, .ref gr12, .ref gr13, .ref gr14, .ref gr15, .ref gr16, .int (gi17 + 1)]))] H := hP
  have hD : va_D A [(h0, .inr (3, [.ref a1, .ref gr1, .int gi2, .ref b3, .ref b4, .int p1, .int p1, .int gi7, .ref b8, .ref gr9, .ref gr10, .ref gr11, .ref gr12, .ref gr13, .ref gr14, .ref gr15, .ref gr16, .int (gi17 + 1)]))] := hD
  exact wr_v (q := (fun _ => 0)) (k := (fun _ => 0)) (g := (fun _ => fun _ => 0)) (gl := (fun _ => fun _ => 0)) hx hb hr hlocks hS (hP.sub [] rfl) (hK.sub [] rfl) (hD.sub [] (by decide) rfl) dX3_leadBy_20
set_option maxHeartbeats 4000000 in
set_option maxRecDepth 100000 in
theorem wX3_begin {l : Launch} {D : va_G} {sz : Nat} (h0 : Nat) (a1 : Nat) (b8 : Nat) (b3 : Nat) (b4 : Nat) (gr1 : Nat) (gi2 : Int32) (gi5 : Int32) (gi6 : Int32) (gi7 : Int32) (gr9 : Nat) (gr10 : Nat) (gr11 : Nat) (gr12 : Nat) (gr13 : Nat) (gr14 : Nat) (gr15 : Nat) (gr16 : Nat) (gi17 : Int32) (k3 : ClassId) (f3 : Nat → Int32) (k4 : ClassId) (f4 : Nat → Int32) (p1 : Int32) (p2 : Int32) (p3 : Int32) (p4 : Int32) : Wv l yX3_begin cX3_begin 6 1 0 0 D [(h0, .inr (3, [.ref a1, .ref gr1, .int gi2, .ref b3, .ref b4, .int gi5, .int gi6, .int gi7, .ref b8, .ref gr9, .ref gr10, .ref gr11, .ref gr12, .ref gr13, .ref gr14, .ref gr15, .ref gr16, .int gi17])), (b3, .inl (k3, 4, .inl f3)), (b4, .inl (k4, 4, .inl f4))] [(k3, .int), (k4, .int)] [.ref h0, .int p1, .int p2, .int p3, .int p4] sz (fun _ => True) (fun q k g gl => []) (fun k => []) := by
  refine Wv.of (by decide) (Nat.le_of_ble_eq_true rfl) ?_
  intro p e s m below meth c ls A hx hb hr hml hown hts hlocks hin hP hK hD hA hS hE hAe hl
  have hown : s.vm.findClass "SignalTable$Game" = some m.cls := hown
  have hin : meth.name = "begin" := hin
  skip
  have hl : lv_has ls 6 [(0, .ref h0), (1, .int p1), (2, .int p2), (3, .int p3), (4, .int p4)] := hl
  refine lv_aload_n hx hb dX3_begin_0 rfl (lv_at hl 0 rfl) ?_
  refine va_get (D := D) (ci := 3) (v := .ref b3) (C := RX3) (T := TX3) (N := 18) hx hb hts inX3 hown hK hP 0 rfl rfl 3 (by decide) (hts _ kw_424) (fun _ h9 => h9) rfl dX3_begin_1 ?_
  refine lv_iconst (v := 0) hx hb dX3_begin_4 (by decide) ?_
  refine lv_iload_n hx hb dX3_begin_5 rfl (lv_at hl 1 rfl) ?_
  refine va_iast hx hb hK hP hD hS 1 0 rfl rfl (z_in (by decide)) dX3_begin_6 (fun H locs hP hD hS => ?_)
  obtain ⟨f6_1, hf6_1⟩ : ∃ z, z = upd f3 ((0 : Int32).toNatClampNeg) p1 := ⟨_, rfl⟩
  rw [← hf6_1] at hP hD
  have hP : va_P D vwCl [(h0, .inr (3, [.ref a1, .ref gr1, .int gi2, .ref b3, .ref b4, .int gi5, .int gi6, .int gi7, .ref b8, .ref gr9, .ref gr10, .ref gr11, .ref gr12, .ref gr13, .ref gr14, .ref gr15, .ref gr16, .int gi17])), (b3, .inl (k3, 4, .inl f6_1)), (b4, .inl (k4, 4, .inl f4))] H := hP
  have hD : va_D A [(h0, .inr (3, [.ref a1, .ref gr1, .int gi2, .ref b3, .ref b4, .int gi5, .int gi6, .int gi7, .ref b8, .ref gr9, .ref gr10, .ref gr11, .ref gr12, .ref gr13, .ref gr14, .ref gr15, .ref gr16, .int gi17])), (b3, .inl (k3, 4, .inl f6_1)), (b4, .inl (k4, 4, .inl f4))] := hD
  refine lv_aload_n hx hb dX3_begin_7 rfl (lv_at hl 0 rfl) ?_
  refine va_get (D := D) (ci := 3) (v := .ref b3) (C := RX3) (T := TX3) (N := 18) hx hb hts inX3 hown hK hP 0 rfl rfl 3 (by decide) (hts _ kw_424) (fun _ h9 => h9) rfl dX3_begin_8 ?_
  refine lv_iconst (v := 1) hx hb dX3_begin_11 (by decide) ?_
  refine lv_iload_n hx hb dX3_begin_12 rfl (lv_at hl 2 rfl) ?_
  refine W.eq (g2 := F0 m 13 ls [.int p2, .int 1, .ref b3]) rfl ?_
  refine va_iast hx hb hK hP hD hS 1 0 rfl rfl (z_in (by decide)) dX3_begin_13 (fun H locs hP hD hS => ?_)
  obtain ⟨f13_2, hf13_2⟩ : ∃ z, z = upd f6_1 ((1 : Int32).toNatClampNeg) p2 := ⟨_, rfl⟩
  rw [← hf13_2] at hP hD
  have hP : va_P D vwCl [(h0, .inr (3, [.ref a1, .ref gr1, .int gi2, .ref b3, .ref b4, .int gi5, .int gi6, .int gi7, .ref b8, .ref gr9, .ref gr10, .ref gr11, .ref gr12, .ref gr13, .ref gr14, .ref gr15, .ref gr16, .int gi17])), (b3, .inl (k3, 4, .inl f13_2)), (b4, .inl (k4, 4, .inl f4))] H := hP
  have hD : va_D A [(h0, .inr (3, [.ref a1, .ref gr1, .int gi2, .ref b3, .ref b4, .int gi5, .int gi6, .int gi7, .ref b8, .ref gr9, .ref gr10, .ref gr11, .ref gr12, .ref gr13, .ref gr14, .ref gr15, .ref gr16, .int gi17])), (b3, .inl (k3, 4, .inl f13_2)), (b4, .inl (k4, 4, .inl f4))] := hD
  refine lv_aload_n hx hb dX3_begin_14 rfl (lv_at hl 0 rfl) ?_
  refine va_get (D := D) (ci := 3) (v := .ref b3) (C := RX3) (T := TX3) (N := 18) hx hb hts inX3 hown hK hP 0 rfl rfl 3 (by decide) (hts _ kw_424) (fun _ h9 => h9) rfl dX3_begin_15 ?_
  refine lv_iconst (v := 2) hx hb dX3_begin_18 (by decide) ?_
  refine lv_iload_n hx hb dX3_begin_19 rfl (lv_at hl 3 rfl) ?_
  refine va_iast hx hb hK hP hD hS 1 0 rfl rfl (z_in (by decide)) dX3_begin_20 (fun H locs hP hD hS => ?_)
  obtain ⟨f20_3, hf20_3⟩ : ∃ z, z = upd f13_2 ((2 : Int32).toNatClampNeg) p3 := ⟨_, rfl⟩
  rw [← hf20_3] at hP hD
  have hP : va_P D vwCl [(h0, .inr (3, [.ref a1, .ref gr1, .int gi2, .ref b3, .ref b4, .int gi5, .int gi6, .int gi7, .ref b8, .ref gr9, .ref gr10, .ref gr11, .ref gr12, .ref gr13, .ref gr14, .ref gr15, .ref gr16, .int gi17])), (b3, .inl (k3, 4, .inl f20_3)), (b4, .inl (k4, 4, .inl f4))] H := hP
  have hD : va_D A [(h0, .inr (3, [.ref a1, .ref gr1, .int gi2, .ref b3, .ref b4, .int gi5, .int gi6, .int gi7, .ref b8, .ref gr9, .ref gr10, .ref gr11, .ref gr12, .ref gr13, .ref gr14, .ref gr15, .ref gr16, .int gi17])), (b3, .inl (k3, 4, .inl f20_3)), (b4, .inl (k4, 4, .inl f4))] := hD
  refine lv_aload_n hx hb dX3_begin_21 rfl (lv_at hl 0 rfl) ?_
  refine va_get (D := D) (ci := 3) (v := .ref b3) (C := RX3) (T := TX3) (N := 18) hx hb hts inX3 hown hK hP 0 rfl rfl 3 (by decide) (hts _ kw_424) (fun _ h9 => h9) rfl dX3_begin_22 ?_
  refine lv_iconst (v := 3) hx hb dX3_begin_25 (by decide) ?_
  refine lv_iload hx hb dX3_begin_26 (lv_at hl 4 rfl) ?_
  refine W.eq (g2 := F0 m 28 ls [.int p4, .int 3, .ref b3]) rfl ?_
  refine va_iast hx hb hK hP hD hS 1 0 rfl rfl (z_in (by decide)) dX3_begin_28 (fun H locs hP hD hS => ?_)
  obtain ⟨f28_4, hf28_4⟩ : ∃ z, z = upd f20_3 ((3 : Int32).toNatClampNeg) p4 := ⟨_, rfl⟩
  rw [← hf28_4] at hP hD
  have hP : va_P D vwCl [(h0, .inr (3, [.ref a1, .ref gr1, .int gi2, .ref b3, .ref b4, .int gi5, .int gi6, .int gi7, .ref b8, .ref gr9, .ref gr10, .ref gr11, .ref gr12, .ref gr13, .ref gr14, .ref gr15, .ref gr16, .int gi17])), (b3, .inl (k3, 4, .inl f28_4)), (b4, .inl (k4, 4, .inl f4))] H := hP
  have hD : va_D A [(h0, .inr (3, [.ref a1, .ref gr1, .int gi2, .ref b3, .ref b4, .int gi5, .int gi6, .int gi7, .ref b8, .ref gr9, .ref gr10, .ref gr11, .ref gr12, .ref gr13, .ref gr14, .ref gr15, .ref gr16, .int gi17])), (b3, .inl (k3, 4, .inl f28_4)), (b4, .inl (k4, 4, .inl f4))] := hD
  refine lv_iconst (v := 0) hx hb dX3_begin_29 (by decide) ?_
  refine lv_istore (lv' := [(5, .int 0), (0, .ref h0), (1, .int p1), (2, .int p2), (3, .int p3), (4, .int p4)]) hx hb dX3_begin_30 hl (by decide) rfl (fun ls hl => ?_)
  refine lv_iload hx hb dX3_begin_32 (lv_at hl 0 rfl) ?_
  refine lv_iconst (v := 4) hx hb dX3_begin_34 (by decide) ?_
  refine lv_icmp_ge (tgt := 58) hx hb dX3_begin_35 (by decide) (fun h => absurd h (by decide)) (fun _ => ?_)
  refine lv_aload_n hx hb dX3_begin_38 rfl (lv_at hl 1 rfl) ?_
  refine va_get (D := D) (ci := 3) (v := .ref b4) (C := RX3) (T := TX3) (N := 18) hx hb hts inX3 hown hK hP 0 rfl rfl 4 (by decide) (hts _ kw_428) (fun _ h9 => h9) rfl dX3_begin_39 ?_
  refine lv_iload hx hb dX3_begin_42 (lv_at hl 0 rfl) ?_
  refine lv_aload_n hx hb dX3_begin_44 rfl (lv_at hl 1 rfl) ?_
  refine W.eq (g2 := F0 m 45 ls [.ref h0, .int 0, .ref b4]) rfl ?_
  refine va_get (D := D) (ci := 3) (v := .ref b3) (C := RX3) (T := TX3) (N := 18) hx hb hts inX3 hown hK hP 0 rfl rfl 3 (by decide) (hts _ kw_424) (fun _ h9 => h9) rfl dX3_begin_45 ?_
  refine lv_iload hx hb dX3_begin_48 (lv_at hl 0 rfl) ?_
  refine va_iald hx hb hK hP 1 0 rfl rfl (z_in (by decide)) dX3_begin_50 ?_
  refine va_iast hx hb hK hP hD hS 2 1 rfl rfl (z_in (by decide)) dX3_begin_51 (fun H locs hP hD hS => ?_)
  obtain ⟨f51_5, hf51_5⟩ : ∃ z, z = upd f4 ((0 : Int32).toNatClampNeg) (f28_4 (0 : Int32).toNatClampNeg) := ⟨_, rfl⟩
  rw [← hf51_5] at hP hD
  have hP : va_P D vwCl [(h0, .inr (3, [.ref a1, .ref gr1, .int gi2, .ref b3, .ref b4, .int gi5, .int gi6, .int gi7, .ref b8, .ref gr9, .ref gr10, .ref gr11, .ref gr12, .ref gr13, .ref gr14, .ref gr15, .ref gr16, .int gi17])), (b3, .inl (k3, 4, .inl f28_4)), (b4, .inl (k4, 4, .inl f51_5))] H := hP
  have hD : va_D A [(h0, .inr (3, [.ref a1, .ref gr1, .int gi2, .ref b3, .ref b4, .int gi5, .int gi6, .int gi7, .ref b8, .ref gr9, .ref gr10, .ref gr11, .ref gr12, .ref gr13, .ref gr14, .ref gr15, .ref gr16, .int gi17])), (b3, .inl (k3, 4, .inl f28_4)), (b4, .inl (k4, 4, .inl f51_5))] := hD
  refine lv_iinc (v := 1) (lv' := [(5, .int 1), (0, .ref h0), (1, .int p1), (2, .int p2), (3, .int p3), (4, .int p4)]) hx hb dX3_begin_52 hl (k := 0) rfl (by decide) (by decide) rfl (fun ls hl => ?_)
  refine lv_goto (tgt := 32) hx hb dX3_begin_55 (by decide) ?_
  refine lv_iload hx hb dX3_begin_32 (lv_at hl 0 rfl) ?_
  refine lv_iconst (v := 4) hx hb dX3_begin_34 (by decide) ?_
  refine lv_icmp_ge (tgt := 58) hx hb dX3_begin_35 (by decide) (fun h => absurd h (by decide)) (fun _ => ?_)
  refine lv_aload_n hx hb dX3_begin_38 rfl (lv_at hl 1 rfl) ?_
  refine W.eq (g2 := F0 m 39 ls [.ref h0]) rfl ?_
  refine va_get (D := D) (ci := 3) (v := .ref b4) (C := RX3) (T := TX3) (N := 18) hx hb hts inX3 hown hK hP 0 rfl rfl 4 (by decide) (hts _ kw_428) (fun _ h9 => h9) rfl dX3_begin_39 ?_
  refine lv_iload hx hb dX3_begin_42 (lv_at hl 0 rfl) ?_
  refine lv_aload_n hx hb dX3_begin_44 rfl (lv_at hl 1 rfl) ?_
  refine va_get (D := D) (ci := 3) (v := .ref b3) (C := RX3) (T := TX3) (N := 18) hx hb hts inX3 hown hK hP 0 rfl rfl 3 (by decide) (hts _ kw_424) (fun _ h9 => h9) rfl dX3_begin_45 ?_
  refine lv_iload hx hb dX3_begin_48 (lv_at hl 0 rfl) ?_
  refine va_iald hx hb hK hP 1 0 rfl rfl (z_in (by decide)) dX3_begin_50 ?_
  refine va_iast hx hb hK hP hD hS 2 1 rfl rfl (z_in (by decide)) dX3_begin_51 (fun H locs hP hD hS => ?_)
  obtain ⟨f51_6, hf51_6⟩ : ∃ z, z = upd f51_5 ((1 : Int32).toNatClampNeg) (f28_4 (1 : Int32).toNatClampNeg) := ⟨_, rfl⟩
  rw [← hf51_6] at hP hD
  have hP : va_P D vwCl [(h0, .inr (3, [.ref a1, .ref gr1, .int gi2, .ref b3, .ref b4, .int gi5, .int gi6, .int gi7, .ref b8, .ref gr9, .ref gr10, .ref gr11, .ref gr12, .ref gr13, .ref gr14, .ref gr15, .ref gr16, .int gi17])), (b3, .inl (k3, 4, .inl f28_4)), (b4, .inl (k4, 4, .inl f51_6))] H := hP
  have hD : va_D A [(h0, .inr (3, [.ref a1, .ref gr1, .int gi2, .ref b3, .ref b4, .int gi5, .int gi6, .int gi7, .ref b8, .ref gr9, .ref gr10, .ref gr11, .ref gr12, .ref gr13, .ref gr14, .ref gr15, .ref gr16, .int gi17])), (b3, .inl (k3, 4, .inl f28_4)), (b4, .inl (k4, 4, .inl f51_6))] := hD
  refine lv_iinc (v := 2) (lv' := [(5, .int 2), (0, .ref h0), (1, .int p1), (2, .int p2), (3, .int p3), (4, .int p4)]) hx hb dX3_begin_52 hl (k := 0) rfl (by decide) (by decide) rfl (fun ls hl => ?_)
  refine lv_goto (tgt := 32) hx hb dX3_begin_55 (by decide) ?_
  refine lv_iload hx hb dX3_begin_32 (lv_at hl 0 rfl) ?_
  refine W.eq (g2 := F0 m 34 ls [.int 2]) rfl ?_
  refine lv_iconst (v := 4) hx hb dX3_begin_34 (by decide) ?_
  refine lv_icmp_ge (tgt := 58) hx hb dX3_begin_35 (by decide) (fun h => absurd h (by decide)) (fun _ => ?_)
  refine lv_aload_n hx hb dX3_begin_38 rfl (lv_at hl 1 rfl) ?_
  refine va_get (D := D) (ci := 3) (v := .ref b4) (C := RX3) (T := TX3) (N := 18) hx hb hts inX3 hown hK hP 0 rfl rfl 4 (by decide) (hts _ kw_428) (fun _ h9 => h9) rfl dX3_begin_39 ?_
  refine lv_iload hx hb dX3_begin_42 (lv_at hl 0 rfl) ?_
  refine lv_aload_n hx hb dX3_begin_44 rfl (lv_at hl 1 rfl) ?_
  refine va_get (D := D) (ci := 3) (v := .ref b3) (C := RX3) (T := TX3) (N := 18) hx hb hts inX3 hown hK hP 0 rfl rfl 3 (by decide) (hts _ kw_424) (fun _ h9 => h9) rfl dX3_begin_45 ?_
  refine lv_iload hx hb dX3_begin_48 (lv_at hl 0 rfl) ?_
  refine va_iald hx hb hK hP 1 0 rfl rfl (z_in (by decide)) dX3_begin_50 ?_
  refine va_iast hx hb hK hP hD hS 2 1 rfl rfl (z_in (by decide)) dX3_begin_51 (fun H locs hP hD hS => ?_)
  obtain ⟨f51_7, hf51_7⟩ : ∃ z, z = upd f51_6 ((2 : Int32).toNatClampNeg) (f28_4 (2 : Int32).toNatClampNeg) := ⟨_, rfl⟩
  rw [← hf51_7] at hP hD
  have hP : va_P D vwCl [(h0, .inr (3, [.ref a1, .ref gr1, .int gi2, .ref b3, .ref b4, .int gi5, .int gi6, .int gi7, .ref b8, .ref gr9, .ref gr10, .ref gr11, .ref gr12, .ref gr13, .ref gr14, .ref gr15, .ref gr16, .int gi17])), (b3, .inl (k3, 4, .inl f28_4)), (b4, .inl (k4, 4, .inl f51_7))] H := hP
  have hD : va_D A [(h0, .inr (3, [.ref a1, .ref gr1, .int gi2, .ref b3, .ref b4, .int gi5, .int gi6, .int gi7, .ref b8, .ref gr9, .ref gr10, .ref gr11, .ref gr12, .ref gr13, .ref gr14, .ref gr15, .ref gr16, .int gi17])), (b3, .inl (k3, 4, .inl f28_4)), (b4, .inl (k4, 4, .inl f51_7))] := hD
  refine W.eq (g2 := F0 m 52 ls []) rfl ?_
  refine lv_iinc (v := 3) (lv' := [(5, .int 3), (0, .ref h0), (1, .int p1), (2, .int p2), (3, .int p3), (4, .int p4)]) hx hb dX3_begin_52 hl (k := 0) rfl (by decide) (by decide) rfl (fun ls hl => ?_)
  refine lv_goto (tgt := 32) hx hb dX3_begin_55 (by decide) ?_
  refine lv_iload hx hb dX3_begin_32 (lv_at hl 0 rfl) ?_
  refine lv_iconst (v := 4) hx hb dX3_begin_34 (by decide) ?_
  refine lv_icmp_ge (tgt := 58) hx hb dX3_begin_35 (by decide) (fun h => absurd h (by decide)) (fun _ => ?_)
  refine lv_aload_n hx hb dX3_begin_38 rfl (lv_at hl 1 rfl) ?_
  refine va_get (D := D) (ci := 3) (v := .ref b4) (C := RX3) (T := TX3) (N := 18) hx hb hts inX3 hown hK hP 0 rfl rfl 4 (by decide) (hts _ kw_428) (fun _ h9 => h9) rfl dX3_begin_39 ?_
  refine lv_iload hx hb dX3_begin_42 (lv_at hl 0 rfl) ?_
  refine lv_aload_n hx hb dX3_begin_44 rfl (lv_at hl 1 rfl) ?_
  refine va_get (D := D) (ci := 3) (v := .ref b3) (C := RX3) (T := TX3) (N := 18) hx hb hts inX3 hown hK hP 0 rfl rfl 3 (by decide) (hts _ kw_424) (fun _ h9 => h9) rfl dX3_begin_45 ?_
  refine W.eq (g2 := F0 m 48 ls [.ref b3, .int 3, .ref b4]) rfl ?_
  refine lv_iload hx hb dX3_begin_48 (lv_at hl 0 rfl) ?_
  refine va_iald hx hb hK hP 1 0 rfl rfl (z_in (by decide)) dX3_begin_50 ?_
  refine va_iast hx hb hK hP hD hS 2 1 rfl rfl (z_in (by decide)) dX3_begin_51 (fun H locs hP hD hS => ?_)
  obtain ⟨f51_8, hf51_8⟩ : ∃ z, z = upd f51_7 ((3 : Int32).toNatClampNeg) (f28_4 (3 : Int32).toNatClampNeg) := ⟨_, rfl⟩
  rw [← hf51_8] at hP hD
  have hP : va_P D vwCl [(h0, .inr (3, [.ref a1, .ref gr1, .int gi2, .ref b3, .ref b4, .int gi5, .int gi6, .int gi7, .ref b8, .ref gr9, .ref gr10, .ref gr11, .ref gr12, .ref gr13, .ref gr14, .ref gr15, .ref gr16, .int gi17])), (b3, .inl (k3, 4, .inl f28_4)), (b4, .inl (k4, 4, .inl f51_8))] H := hP
  have hD : va_D A [(h0, .inr (3, [.ref a1, .ref gr1, .int gi2, .ref b3, .ref b4, .int gi5, .int gi6, .int gi7, .ref b8, .ref gr9, .ref gr10, .ref gr11, .ref gr12, .ref gr13, .ref gr14, .ref gr15, .ref gr16, .int gi17])), (b3, .inl (k3, 4, .inl f28_4)), (b4, .inl (k4, 4, .inl f51_8))] := hD
  refine lv_iinc (v := 4) (lv' := [(5, .int 4), (0, .ref h0), (1, .int p1), (2, .int p2), (3, .int p3), (4, .int p4)]) hx hb dX3_begin_52 hl (k := 0) rfl (by decide) (by decide) rfl (fun ls hl => ?_)
  refine lv_goto (tgt := 32) hx hb dX3_begin_55 (by decide) ?_
  refine lv_iload hx hb dX3_begin_32 (lv_at hl 0 rfl) ?_
  refine lv_iconst (v := 4) hx hb dX3_begin_34 (by decide) ?_
  refine lv_icmp_ge (tgt := 58) hx hb dX3_begin_35 (by decide) (fun _ => ?_) (fun h => absurd (by decide) h)
  refine lv_aload_n hx hb dX3_begin_58 rfl (lv_at hl 1 rfl) ?_
  refine lv_iconst (v := 1) hx hb dX3_begin_59 (by decide) ?_
  refine W.eq (g2 := F0 m 60 ls [.int 1, .ref h0]) rfl ?_
  refine va_put (D := D) (ci := 3) (v := .int 1) (ty := .boolean) (C := RX3) (T := TX3) (N := 18) hx hb hts inX3 tyX3 tyX3_ok nmX3 hown hK hP hD hS 0 rfl rfl 2 (by decide) (hts _ kw_422) (fun _ h9 => h9) rfl (by decide +kernel) rfl rfl (Nat.le_of_ble_eq_true rfl) dX3_begin_60 (fun H locs hP hD hS => ?_)
  have hP : va_P D vwCl [(h0, .inr (3, [.ref a1, .ref gr1, .int 1, .ref b3, .ref b4, .int gi5, .int gi6, .int gi7, .ref b8, .ref gr9, .ref gr10, .ref gr11, .ref gr12, .ref gr13, .ref gr14, .ref gr15, .ref gr16, .int gi17])), (b3, .inl (k3, 4, .inl f28_4)), (b4, .inl (k4, 4, .inl f51_8))] H := hP
  have hD : va_D A [(h0, .inr (3, [.ref a1, .ref gr1, .int 1, .ref b3, .ref b4, .int gi5, .int gi6, .int gi7, .ref b8, .ref gr9, .ref gr10, .ref gr11, .ref gr12, .ref gr13, .ref gr14, .ref gr15, .ref gr16, .int gi17])), (b3, .inl (k3, 4, .inl f28_4)), (b4, .inl (k4, 4, .inl f51_8))] := hD
  refine lv_aload_n hx hb dX3_begin_63 rfl (lv_at hl 1 rfl) ?_
  refine lv_iconst (v := 0) hx hb dX3_begin_64 (by decide) ?_
  refine va_put (D := D) (ci := 3) (v := .int 0) (ty := .int) (C := RX3) (T := TX3) (N := 18) hx hb hts inX3 tyX3 tyX3_ok nmX3 hown hK hP hD hS 0 rfl rfl 7 (by decide) (hts _ kw_438) (fun _ h9 => h9) rfl (by decide +kernel) rfl rfl (Nat.le_of_ble_eq_true rfl) dX3_begin_65 (fun H locs hP hD hS => ?_)
  have hP : va_P D vwCl [(h0, .inr (3, [.ref a1, .ref gr1, .int 1, .ref b3, .ref b4, .int gi5, .int gi6, .int 0, .ref b8, .ref gr9, .ref gr10, .ref gr11, .ref gr12, .ref gr13, .ref gr14, .ref gr15, .ref gr16, .int gi17])), (b3, .inl (k3, 4, .inl f28_4)), (b4, .inl (k4, 4, .inl f51_8))] H := hP
  have hD : va_D A [(h0, .inr (3, [.ref a1, .ref gr1, .int 1, .ref b3, .ref b4, .int gi5, .int gi6, .int 0, .ref b8, .ref gr9, .ref gr10, .ref gr11, .ref gr12, .ref gr13, .ref gr14, .ref gr15, .ref gr16, .int gi17])), (b3, .inl (k3, 4, .inl f28_4)), (b4, .inl (k4, 4, .inl f51_8))] := hD
  refine lv_aload_n hx hb dX3_begin_68 rfl (lv_at hl 1 rfl) ?_
  refine lv_iconst (v := 0) hx hb dX3_begin_69 (by decide) ?_
  refine wr_V (As := [.int 0]) (rest := []) caV_SignalTable_Game_67 hx hb hml hown hts hP hD hK hS hA (isC := [0]) (isR := [1, 2]) (isT := []) (wr := [(b3, .inl (k3, 4, .inl f28_4)), (b4, .inl (k4, 4, .inl f51_8))]) ⟨rfl, rfl, rfl, rfl, by decide⟩ rfl (wX3_leadBy h0 a1 b8 b3 b4 gr1 1 gi5 gi6 0 gr9 gr10 gr11 gr12 gr13 gr14 gr15 gr16 gi17 0) bl_T (fun _ _ _ => trivial) (ci := 3) (q0 := 0) rfl rfl (by decide) rfl hl.1 (Nat.le_of_ble_eq_true rfl) (by decide) dX3_begin_70 rfl (fun q9 k9 g9 l9 H locs hP hD hK hS => ?_)
  have hP : va_P D vwCl [(b3, .inl (k3, 4, .inl f28_4)), (b4, .inl (k4, 4, .inl f51_8))] H := hP
  have hD : va_D A [(b3, .inl (k3, 4, .inl f28_4)), (b4, .inl (k4, 4, .inl f51_8))] := hD
  have hK : va_K D vwCl [(k3, .int), (k4, .int)] s := hK
  refine W.cs (cells' := 0) (slots' := 0) rfl rfl ?_
  exact wr_v (q := (fun _ => 0)) (k := (fun _ => 0)) (g := (fun _ => fun _ => 0)) (gl := (fun _ => fun _ => 0)) hx hb hr hlocks hS (hP.sub [] rfl) (hK.sub [] rfl) (hD.sub [] (by decide) rfl) dX3_begin_73
set_option maxHeartbeats 4000000 in
set_option maxRecDepth 100000 in
theorem wX3_dealByLots {l : Launch} {D : va_G} {sz : Nat} (h0 : Nat) (a1 : Nat) (b8 : Nat) (b3 : Nat) (b4 : Nat) (gr1 : Nat) (gi2 : Int32) (gi5 : Int32) (gi6 : Int32) (gi7 : Int32) (gr9 : Nat) (gr10 : Nat) (gr11 : Nat) (gr12 : Nat) (gr13 : Nat) (gr14 : Nat) (gr15 : Nat) (gr16 : Nat) (gi17 : Int32) (li0 : Int32) (li1 : Int32) (li2 : Int32) (li3 : Int32) (lr4 : Nat) (lr5 : Nat) (lr6 : Nat) (lr7 : Nat) (lr8 : Nat) (li9 : Int32) (lr12 : Nat) (lr13 : Nat) (lr14 : Nat) (li15 : Int32) (k3 : ClassId) (f3 : Nat → Int32) (k4 : ClassId) (f4 : Nat → Int32) (k8 : ClassId) (f8 : Nat → Int32) (p1 : Int32) : Wv l yX3_dealByLots cX3_dealByLots 5 2 0 0 D [(h0, .inr (3, [.ref a1, .ref gr1, .int gi2, .ref b3, .ref b4, .int gi5, .int gi6, .int gi7, .ref b8, .ref gr9, .ref gr10, .ref gr11, .ref gr12, .ref gr13, .ref gr14, .ref gr15, .ref gr16, .int gi17])), (a1, .inr (5, [.int li0, .int li1, .int li2, .int li3, .ref lr4, .ref lr5, .ref lr6, .ref lr7, .ref lr8, .int li9, .int 16, .int 4, .ref lr12, .ref lr13, .ref lr14, .int li15])), (b3, .inl (k3, 4, .inl f3)), (b4, .inl (k4, 4, .inl f4)), (b8, .inl (k8, 16, .inl f8))] [(k3, .int), (k4, .int), (k8, .int)] [.ref h0, .int p1] sz (fun _ => True) (fun q k g gl => []) (fun k => []) := by
  refine Wv.of (by decide) (Nat.le_of_ble_eq_true rfl) ?_
  intro p e s m below meth c ls A hx hb hr hml hown hts hlocks hin hP hK hD hA hS hE hAe hl
  have hown : s.vm.findClass "SignalTable$Game" = some m.cls := hown
  have hin : meth.name = "dealByLots" := hin
  skip
  have hl : lv_has ls 5 [(0, .ref h0), (1, .int p1)] := hl
  refine lv_iconst (v := 0) hx hb dX3_dealByLots_0 (by decide) ?_
  refine lv_istore_n (lv' := [(2, .int 0), (0, .ref h0), (1, .int p1)]) hx hb dX3_dealByLots_1 rfl hl (by decide) rfl (fun ls hl => ?_)
  refine lv_iload_n hx hb dX3_dealByLots_2 rfl (lv_at hl 0 rfl) ?_
  refine lv_aload_n hx hb dX3_dealByLots_3 rfl (lv_at hl 1 rfl) ?_
  refine va_get (D := D) (ci := 3) (v := .ref a1) (C := RX3) (T := TX3) (N := 18) hx hb hts inX3 hown hK hP 0 rfl rfl 0 (by decide) (hts _ kw_420) (fun _ h9 => h9) rfl dX3_dealByLots_4 ?_
  refine va_get (D := D) (ci := 5) (v := .int 16) (C := RX5) (T := TX5) (N := 16) hx hb hts inX5 hown hK hP 1 rfl rfl 10 (by decide) (hts _ kw_223) (fun _ h9 => h9) rfl dX3_dealByLots_7 ?_
  refine lv_icmp_ge (tgt := 26) hx hb dX3_dealByLots_10 (by decide) (fun h => absurd h (by decide)) (fun _ => ?_)
  refine lv_aload_n hx hb dX3_dealByLots_13 rfl (lv_at hl 1 rfl) ?_
  refine va_get (D := D) (ci := 3) (v := .ref b8) (C := RX3) (T := TX3) (N := 18) hx hb hts inX3 hown hK hP 0 rfl rfl 8 (by decide) (hts _ kw_444) (fun _ h9 => h9) rfl dX3_dealByLots_14 ?_
  refine W.eq (g2 := F0 m 17 ls [.ref b8]) rfl ?_
  refine lv_iload_n hx hb dX3_dealByLots_17 rfl (lv_at hl 0 rfl) ?_
  refine lv_iload_n hx hb dX3_dealByLots_18 rfl (lv_at hl 0 rfl) ?_
  refine va_iast hx hb hK hP hD hS 4 2 rfl rfl (z_in (by decide)) dX3_dealByLots_19 (fun H locs hP hD hS => ?_)
  obtain ⟨f19_1, hf19_1⟩ : ∃ z, z = upd f8 ((0 : Int32).toNatClampNeg) 0 := ⟨_, rfl⟩
  rw [← hf19_1] at hP hD
  have hP : va_P D vwCl [(h0, .inr (3, [.ref a1, .ref gr1, .int gi2, .ref b3, .ref b4, .int gi5, .int gi6, .int gi7, .ref b8, .ref gr9, .ref gr10, .ref gr11, .ref gr12, .ref gr13, .ref gr14, .ref gr15, .ref gr16, .int gi17])), (a1, .inr (5, [.int li0, .int li1, .int li2, .int li3, .ref lr4, .ref lr5, .ref lr6, .ref lr7, .ref lr8, .int li9, .int 16, .int 4, .ref lr12, .ref lr13, .ref lr14, .int li15])), (b3, .inl (k3, 4, .inl f3)), (b4, .inl (k4, 4, .inl f4)), (b8, .inl (k8, 16, .inl f19_1))] H := hP
  have hD : va_D A [(h0, .inr (3, [.ref a1, .ref gr1, .int gi2, .ref b3, .ref b4, .int gi5, .int gi6, .int gi7, .ref b8, .ref gr9, .ref gr10, .ref gr11, .ref gr12, .ref gr13, .ref gr14, .ref gr15, .ref gr16, .int gi17])), (a1, .inr (5, [.int li0, .int li1, .int li2, .int li3, .ref lr4, .ref lr5, .ref lr6, .ref lr7, .ref lr8, .int li9, .int 16, .int 4, .ref lr12, .ref lr13, .ref lr14, .int li15])), (b3, .inl (k3, 4, .inl f3)), (b4, .inl (k4, 4, .inl f4)), (b8, .inl (k8, 16, .inl f19_1))] := hD
  refine lv_iinc (v := 1) (lv' := [(2, .int 1), (0, .ref h0), (1, .int p1)]) hx hb dX3_dealByLots_20 hl (k := 0) rfl (by decide) (by decide) rfl (fun ls hl => ?_)
  refine lv_goto (tgt := 2) hx hb dX3_dealByLots_23 (by decide) ?_
  refine lv_iload_n hx hb dX3_dealByLots_2 rfl (lv_at hl 0 rfl) ?_
  refine lv_aload_n hx hb dX3_dealByLots_3 rfl (lv_at hl 1 rfl) ?_
  refine va_get (D := D) (ci := 3) (v := .ref a1) (C := RX3) (T := TX3) (N := 18) hx hb hts inX3 hown hK hP 0 rfl rfl 0 (by decide) (hts _ kw_420) (fun _ h9 => h9) rfl dX3_dealByLots_4 ?_
  refine va_get (D := D) (ci := 5) (v := .int 16) (C := RX5) (T := TX5) (N := 16) hx hb hts inX5 hown hK hP 1 rfl rfl 10 (by decide) (hts _ kw_223) (fun _ h9 => h9) rfl dX3_dealByLots_7 ?_
  refine lv_icmp_ge (tgt := 26) hx hb dX3_dealByLots_10 (by decide) (fun h => absurd h (by decide)) (fun _ => ?_)
  refine W.eq (g2 := F0 m 13 ls []) rfl ?_
  refine lv_aload_n hx hb dX3_dealByLots_13 rfl (lv_at hl 1 rfl) ?_
  refine va_get (D := D) (ci := 3) (v := .ref b8) (C := RX3) (T := TX3) (N := 18) hx hb hts inX3 hown hK hP 0 rfl rfl 8 (by decide) (hts _ kw_444) (fun _ h9 => h9) rfl dX3_dealByLots_14 ?_
  refine lv_iload_n hx hb dX3_dealByLots_17 rfl (lv_at hl 0 rfl) ?_
  refine lv_iload_n hx hb dX3_dealByLots_18 rfl (lv_at hl 0 rfl) ?_
  refine va_iast hx hb hK hP hD hS 4 2 rfl rfl (z_in (by decide)) dX3_dealByLots_19 (fun H locs hP hD hS => ?_)
  obtain ⟨f19_2, hf19_2⟩ : ∃ z, z = upd f19_1 ((1 : Int32).toNatClampNeg) 1 := ⟨_, rfl⟩
  rw [← hf19_2] at hP hD
  have hP : va_P D vwCl [(h0, .inr (3, [.ref a1, .ref gr1, .int gi2, .ref b3, .ref b4, .int gi5, .int gi6, .int gi7, .ref b8, .ref gr9, .ref gr10, .ref gr11, .ref gr12, .ref gr13, .ref gr14, .ref gr15, .ref gr16, .int gi17])), (a1, .inr (5, [.int li0, .int li1, .int li2, .int li3, .ref lr4, .ref lr5, .ref lr6, .ref lr7, .ref lr8, .int li9, .int 16, .int 4, .ref lr12, .ref lr13, .ref lr14, .int li15])), (b3, .inl (k3, 4, .inl f3)), (b4, .inl (k4, 4, .inl f4)), (b8, .inl (k8, 16, .inl f19_2))] H := hP
  have hD : va_D A [(h0, .inr (3, [.ref a1, .ref gr1, .int gi2, .ref b3, .ref b4, .int gi5, .int gi6, .int gi7, .ref b8, .ref gr9, .ref gr10, .ref gr11, .ref gr12, .ref gr13, .ref gr14, .ref gr15, .ref gr16, .int gi17])), (a1, .inr (5, [.int li0, .int li1, .int li2, .int li3, .ref lr4, .ref lr5, .ref lr6, .ref lr7, .ref lr8, .int li9, .int 16, .int 4, .ref lr12, .ref lr13, .ref lr14, .int li15])), (b3, .inl (k3, 4, .inl f3)), (b4, .inl (k4, 4, .inl f4)), (b8, .inl (k8, 16, .inl f19_2))] := hD
  refine lv_iinc (v := 2) (lv' := [(2, .int 2), (0, .ref h0), (1, .int p1)]) hx hb dX3_dealByLots_20 hl (k := 0) rfl (by decide) (by decide) rfl (fun ls hl => ?_)
  refine lv_goto (tgt := 2) hx hb dX3_dealByLots_23 (by decide) ?_
  refine lv_iload_n hx hb dX3_dealByLots_2 rfl (lv_at hl 0 rfl) ?_
  refine lv_aload_n hx hb dX3_dealByLots_3 rfl (lv_at hl 1 rfl) ?_
  refine va_get (D := D) (ci := 3) (v := .ref a1) (C := RX3) (T := TX3) (N := 18) hx hb hts inX3 hown hK hP 0 rfl rfl 0 (by decide) (hts _ kw_420) (fun _ h9 => h9) rfl dX3_dealByLots_4 ?_
  refine W.eq (g2 := F0 m 7 ls [.ref a1, .int 2]) rfl ?_
  refine va_get (D := D) (ci := 5) (v := .int 16) (C := RX5) (T := TX5) (N := 16) hx hb hts inX5 hown hK hP 1 rfl rfl 10 (by decide) (hts _ kw_223) (fun _ h9 => h9) rfl dX3_dealByLots_7 ?_
  refine lv_icmp_ge (tgt := 26) hx hb dX3_dealByLots_10 (by decide) (fun h => absurd h (by decide)) (fun _ => ?_)
  refine lv_aload_n hx hb dX3_dealByLots_13 rfl (lv_at hl 1 rfl) ?_
  refine va_get (D := D) (ci := 3) (v := .ref b8) (C := RX3) (T := TX3) (N := 18) hx hb hts inX3 hown hK hP 0 rfl rfl 8 (by decide) (hts _ kw_444) (fun _ h9 => h9) rfl dX3_dealByLots_14 ?_
  refine lv_iload_n hx hb dX3_dealByLots_17 rfl (lv_at hl 0 rfl) ?_
  refine lv_iload_n hx hb dX3_dealByLots_18 rfl (lv_at hl 0 rfl) ?_
  refine va_iast hx hb hK hP hD hS 4 2 rfl rfl (z_in (by decide)) dX3_dealByLots_19 (fun H locs hP hD hS => ?_)
  obtain ⟨f19_3, hf19_3⟩ : ∃ z, z = upd f19_2 ((2 : Int32).toNatClampNeg) 2 := ⟨_, rfl⟩
  rw [← hf19_3] at hP hD
  have hP : va_P D vwCl [(h0, .inr (3, [.ref a1, .ref gr1, .int gi2, .ref b3, .ref b4, .int gi5, .int gi6, .int gi7, .ref b8, .ref gr9, .ref gr10, .ref gr11, .ref gr12, .ref gr13, .ref gr14, .ref gr15, .ref gr16, .int gi17])), (a1, .inr (5, [.int li0, .int li1, .int li2, .int li3, .ref lr4, .ref lr5, .ref lr6, .ref lr7, .ref lr8, .int li9, .int 16, .int 4, .ref lr12, .ref lr13, .ref lr14, .int li15])), (b3, .inl (k3, 4, .inl f3)), (b4, .inl (k4, 4, .inl f4)), (b8, .inl (k8, 16, .inl f19_3))] H := hP
  have hD : va_D A [(h0, .inr (3, [.ref a1, .ref gr1, .int gi2, .ref b3, .ref b4, .int gi5, .int gi6, .int gi7, .ref b8, .ref gr9, .ref gr10, .ref gr11, .ref gr12, .ref gr13, .ref gr14, .ref gr15, .ref gr16, .int gi17])), (a1, .inr (5, [.int li0, .int li1, .int li2, .int li3, .ref lr4, .ref lr5, .ref lr6, .ref lr7, .ref lr8, .int li9, .int 16, .int 4, .ref lr12, .ref lr13, .ref lr14, .int li15])), (b3, .inl (k3, 4, .inl f3)), (b4, .inl (k4, 4, .inl f4)), (b8, .inl (k8, 16, .inl f19_3))] := hD
  refine lv_iinc (v := 3) (lv' := [(2, .int 3), (0, .ref h0), (1, .int p1)]) hx hb dX3_dealByLots_20 hl (k := 0) rfl (by decide) (by decide) rfl (fun ls hl => ?_)
  refine lv_goto (tgt := 2) hx hb dX3_dealByLots_23 (by decide) ?_
  refine lv_iload_n hx hb dX3_dealByLots_2 rfl (lv_at hl 0 rfl) ?_
  refine W.eq (g2 := F0 m 3 ls [.int 3]) rfl ?_
  refine lv_aload_n hx hb dX3_dealByLots_3 rfl (lv_at hl 1 rfl) ?_
  refine va_get (D := D) (ci := 3) (v := .ref a1) (C := RX3) (T := TX3) (N := 18) hx hb hts inX3 hown hK hP 0 rfl rfl 0 (by decide) (hts _ kw_420) (fun _ h9 => h9) rfl dX3_dealByLots_4 ?_
  refine va_get (D := D) (ci := 5) (v := .int 16) (C := RX5) (T := TX5) (N := 16) hx hb hts inX5 hown hK hP 1 rfl rfl 10 (by decide) (hts _ kw_223) (fun _ h9 => h9) rfl dX3_dealByLots_7 ?_
  refine lv_icmp_ge (tgt := 26) hx hb dX3_dealByLots_10 (by decide) (fun h => absurd h (by decide)) (fun _ => ?_)
  refine lv_aload_n hx hb dX3_dealByLots_13 rfl (lv_at hl 1 rfl) ?_
  refine va_get (D := D) (ci := 3) (v := .ref b8) (C := RX3) (T := TX3) (N := 18) hx hb hts inX3 hown hK hP 0 rfl rfl 8 (by decide) (hts _ kw_444) (fun _ h9 => h9) rfl dX3_dealByLots_14 ?_
  refine lv_iload_n hx hb dX3_dealByLots_17 rfl (lv_at hl 0 rfl) ?_
  refine lv_iload_n hx hb dX3_dealByLots_18 rfl (lv_at hl 0 rfl) ?_
  refine va_iast hx hb hK hP hD hS 4 2 rfl rfl (z_in (by decide)) dX3_dealByLots_19 (fun H locs hP hD hS => ?_)
  obtain ⟨f19_4, hf19_4⟩ : ∃ z, z = upd f19_3 ((3 : Int32).toNatClampNeg) 3 := ⟨_, rfl⟩
  rw [← hf19_4] at hP hD
  have hP : va_P D vwCl [(h0, .inr (3, [.ref a1, .ref gr1, .int gi2, .ref b3, .ref b4, .int gi5, .int gi6, .int gi7, .ref b8, .ref gr9, .ref gr10, .ref gr11, .ref gr12, .ref gr13, .ref gr14, .ref gr15, .ref gr16, .int gi17])), (a1, .inr (5, [.int li0, .int li1, .int li2, .int li3, .ref lr4, .ref lr5, .ref lr6, .ref lr7, .ref lr8, .int li9, .int 16, .int 4, .ref lr12, .ref lr13, .ref lr14, .int li15])), (b3, .inl (k3, 4, .inl f3)), (b4, .inl (k4, 4, .inl f4)), (b8, .inl (k8, 16, .inl f19_4))] H := hP
  have hD : va_D A [(h0, .inr (3, [.ref a1, .ref gr1, .int gi2, .ref b3, .ref b4, .int gi5, .int gi6, .int gi7, .ref b8, .ref gr9, .ref gr10, .ref gr11, .ref gr12, .ref gr13, .ref gr14, .ref gr15, .ref gr16, .int gi17])), (a1, .inr (5, [.int li0, .int li1, .int li2, .int li3, .ref lr4, .ref lr5, .ref lr6, .ref lr7, .ref lr8, .int li9, .int 16, .int 4, .ref lr12, .ref lr13, .ref lr14, .int li15])), (b3, .inl (k3, 4, .inl f3)), (b4, .inl (k4, 4, .inl f4)), (b8, .inl (k8, 16, .inl f19_4))] := hD
  refine lv_iinc (v := 4) (lv' := [(2, .int 4), (0, .ref h0), (1, .int p1)]) hx hb dX3_dealByLots_20 hl (k := 0) rfl (by decide) (by decide) rfl (fun ls hl => ?_)
  refine W.eq (g2 := F0 m 23 ls []) rfl ?_
  refine lv_goto (tgt := 2) hx hb dX3_dealByLots_23 (by decide) ?_
  refine lv_iload_n hx hb dX3_dealByLots_2 rfl (lv_at hl 0 rfl) ?_
  refine lv_aload_n hx hb dX3_dealByLots_3 rfl (lv_at hl 1 rfl) ?_
  refine va_get (D := D) (ci := 3) (v := .ref a1) (C := RX3) (T := TX3) (N := 18) hx hb hts inX3 hown hK hP 0 rfl rfl 0 (by decide) (hts _ kw_420) (fun _ h9 => h9) rfl dX3_dealByLots_4 ?_
  refine va_get (D := D) (ci := 5) (v := .int 16) (C := RX5) (T := TX5) (N := 16) hx hb hts inX5 hown hK hP 1 rfl rfl 10 (by decide) (hts _ kw_223) (fun _ h9 => h9) rfl dX3_dealByLots_7 ?_
  refine lv_icmp_ge (tgt := 26) hx hb dX3_dealByLots_10 (by decide) (fun h => absurd h (by decide)) (fun _ => ?_)
  refine lv_aload_n hx hb dX3_dealByLots_13 rfl (lv_at hl 1 rfl) ?_
  refine va_get (D := D) (ci := 3) (v := .ref b8) (C := RX3) (T := TX3) (N := 18) hx hb hts inX3 hown hK hP 0 rfl rfl 8 (by decide) (hts _ kw_444) (fun _ h9 => h9) rfl dX3_dealByLots_14 ?_
  refine lv_iload_n hx hb dX3_dealByLots_17 rfl (lv_at hl 0 rfl) ?_
  refine lv_iload_n hx hb dX3_dealByLots_18 rfl (lv_at hl 0 rfl) ?_
  refine W.eq (g2 := F0 m 19 ls [.int 4, .int 4, .ref b8]) rfl ?_
  refine va_iast hx hb hK hP hD hS 4 2 rfl rfl (z_in (by decide)) dX3_dealByLots_19 (fun H locs hP hD hS => ?_)
  obtain ⟨f19_5, hf19_5⟩ : ∃ z, z = upd f19_4 ((4 : Int32).toNatClampNeg) 4 := ⟨_, rfl⟩
  rw [← hf19_5] at hP hD
  have hP : va_P D vwCl [(h0, .inr (3, [.ref a1, .ref gr1, .int gi2, .ref b3, .ref b4, .int gi5, .int gi6, .int gi7, .ref b8, .ref gr9, .ref gr10, .ref gr11, .ref gr12, .ref gr13, .ref gr14, .ref gr15, .ref gr16, .int gi17])), (a1, .inr (5, [.int li0, .int li1, .int li2, .int li3, .ref lr4, .ref lr5, .ref lr6, .ref lr7, .ref lr8, .int li9, .int 16, .int 4, .ref lr12, .ref lr13, .ref lr14, .int li15])), (b3, .inl (k3, 4, .inl f3)), (b4, .inl (k4, 4, .inl f4)), (b8, .inl (k8, 16, .inl f19_5))] H := hP
  have hD : va_D A [(h0, .inr (3, [.ref a1, .ref gr1, .int gi2, .ref b3, .ref b4, .int gi5, .int gi6, .int gi7, .ref b8, .ref gr9, .ref gr10, .ref gr11, .ref gr12, .ref gr13, .ref gr14, .ref gr15, .ref gr16, .int gi17])), (a1, .inr (5, [.int li0, .int li1, .int li2, .int li3, .ref lr4, .ref lr5, .ref lr6, .ref lr7, .ref lr8, .int li9, .int 16, .int 4, .ref lr12, .ref lr13, .ref lr14, .int li15])), (b3, .inl (k3, 4, .inl f3)), (b4, .inl (k4, 4, .inl f4)), (b8, .inl (k8, 16, .inl f19_5))] := hD
  refine lv_iinc (v := 5) (lv' := [(2, .int 5), (0, .ref h0), (1, .int p1)]) hx hb dX3_dealByLots_20 hl (k := 0) rfl (by decide) (by decide) rfl (fun ls hl => ?_)
  refine lv_goto (tgt := 2) hx hb dX3_dealByLots_23 (by decide) ?_
  refine lv_iload_n hx hb dX3_dealByLots_2 rfl (lv_at hl 0 rfl) ?_
  refine lv_aload_n hx hb dX3_dealByLots_3 rfl (lv_at hl 1 rfl) ?_
  refine va_get (D := D) (ci := 3) (v := .ref a1) (C := RX3) (T := TX3) (N := 18) hx hb hts inX3 hown hK hP 0 rfl rfl 0 (by decide) (hts _ kw_420) (fun _ h9 => h9) rfl dX3_dealByLots_4 ?_
  refine va_get (D := D) (ci := 5) (v := .int 16) (C := RX5) (T := TX5) (N := 16) hx hb hts inX5 hown hK hP 1 rfl rfl 10 (by decide) (hts _ kw_223) (fun _ h9 => h9) rfl dX3_dealByLots_7 ?_
  refine lv_icmp_ge (tgt := 26) hx hb dX3_dealByLots_10 (by decide) (fun h => absurd h (by decide)) (fun _ => ?_)
  refine lv_aload_n hx hb dX3_dealByLots_13 rfl (lv_at hl 1 rfl) ?_
  refine va_get (D := D) (ci := 3) (v := .ref b8) (C := RX3) (T := TX3) (N := 18) hx hb hts inX3 hown hK hP 0 rfl rfl 8 (by decide) (hts _ kw_444) (fun _ h9 => h9) rfl dX3_dealByLots_14 ?_
  refine W.eq (g2 := F0 m 17 ls [.ref b8]) rfl ?_
  refine lv_iload_n hx hb dX3_dealByLots_17 rfl (lv_at hl 0 rfl) ?_
  refine lv_iload_n hx hb dX3_dealByLots_18 rfl (lv_at hl 0 rfl) ?_
  refine va_iast hx hb hK hP hD hS 4 2 rfl rfl (z_in (by decide)) dX3_dealByLots_19 (fun H locs hP hD hS => ?_)
  obtain ⟨f19_6, hf19_6⟩ : ∃ z, z = upd f19_5 ((5 : Int32).toNatClampNeg) 5 := ⟨_, rfl⟩
  rw [← hf19_6] at hP hD
  have hP : va_P D vwCl [(h0, .inr (3, [.ref a1, .ref gr1, .int gi2, .ref b3, .ref b4, .int gi5, .int gi6, .int gi7, .ref b8, .ref gr9, .ref gr10, .ref gr11, .ref gr12, .ref gr13, .ref gr14, .ref gr15, .ref gr16, .int gi17])), (a1, .inr (5, [.int li0, .int li1, .int li2, .int li3, .ref lr4, .ref lr5, .ref lr6, .ref lr7, .ref lr8, .int li9, .int 16, .int 4, .ref lr12, .ref lr13, .ref lr14, .int li15])), (b3, .inl (k3, 4, .inl f3)), (b4, .inl (k4, 4, .inl f4)), (b8, .inl (k8, 16, .inl f19_6))] H := hP
  have hD : va_D A [(h0, .inr (3, [.ref a1, .ref gr1, .int gi2, .ref b3, .ref b4, .int gi5, .int gi6, .int gi7, .ref b8, .ref gr9, .ref gr10, .ref gr11, .ref gr12, .ref gr13, .ref gr14, .ref gr15, .ref gr16, .int gi17])), (a1, .inr (5, [.int li0, .int li1, .int li2, .int li3, .ref lr4, .ref lr5, .ref lr6, .ref lr7, .ref lr8, .int li9, .int 16, .int 4, .ref lr12, .ref lr13, .ref lr14, .int li15])), (b3, .inl (k3, 4, .inl f3)), (b4, .inl (k4, 4, .inl f4)), (b8, .inl (k8, 16, .inl f19_6))] := hD
  refine lv_iinc (v := 6) (lv' := [(2, .int 6), (0, .ref h0), (1, .int p1)]) hx hb dX3_dealByLots_20 hl (k := 0) rfl (by decide) (by decide) rfl (fun ls hl => ?_)
  refine lv_goto (tgt := 2) hx hb dX3_dealByLots_23 (by decide) ?_
  refine lv_iload_n hx hb dX3_dealByLots_2 rfl (lv_at hl 0 rfl) ?_
  refine lv_aload_n hx hb dX3_dealByLots_3 rfl (lv_at hl 1 rfl) ?_
  refine va_get (D := D) (ci := 3) (v := .ref a1) (C := RX3) (T := TX3) (N := 18) hx hb hts inX3 hown hK hP 0 rfl rfl 0 (by decide) (hts _ kw_420) (fun _ h9 => h9) rfl dX3_dealByLots_4 ?_
  refine va_get (D := D) (ci := 5) (v := .int 16) (C := RX5) (T := TX5) (N := 16) hx hb hts inX5 hown hK hP 1 rfl rfl 10 (by decide) (hts _ kw_223) (fun _ h9 => h9) rfl dX3_dealByLots_7 ?_
  refine lv_icmp_ge (tgt := 26) hx hb dX3_dealByLots_10 (by decide) (fun h => absurd h (by decide)) (fun _ => ?_)
  refine W.eq (g2 := F0 m 13 ls []) rfl ?_
  refine lv_aload_n hx hb dX3_dealByLots_13 rfl (lv_at hl 1 rfl) ?_
  refine va_get (D := D) (ci := 3) (v := .ref b8) (C := RX3) (T := TX3) (N := 18) hx hb hts inX3 hown hK hP 0 rfl rfl 8 (by decide) (hts _ kw_444) (fun _ h9 => h9) rfl dX3_dealByLots_14 ?_
  refine lv_iload_n hx hb dX3_dealByLots_17 rfl (lv_at hl 0 rfl) ?_
  refine lv_iload_n hx hb dX3_dealByLots_18 rfl (lv_at hl 0 rfl) ?_
  refine va_iast hx hb hK hP hD hS 4 2 rfl rfl (z_in (by decide)) dX3_dealByLots_19 (fun H locs hP hD hS => ?_)
  obtain ⟨f19_7, hf19_7⟩ : ∃ z, z = upd f19_6 ((6 : Int32).toNatClampNeg) 6 := ⟨_, rfl⟩
  rw [← hf19_7] at hP hD
  have hP : va_P D vwCl [(h0, .inr (3, [.ref a1, .ref gr1, .int gi2, .ref b3, .ref b4, .int gi5, .int gi6, .int gi7, .ref b8, .ref gr9, .ref gr10, .ref gr11, .ref gr12, .ref gr13, .ref gr14, .ref gr15, .ref gr16, .int gi17])), (a1, .inr (5, [.int li0, .int li1, .int li2, .int li3, .ref lr4, .ref lr5, .ref lr6, .ref lr7, .ref lr8, .int li9, .int 16, .int 4, .ref lr12, .ref lr13, .ref lr14, .int li15])), (b3, .inl (k3, 4, .inl f3)), (b4, .inl (k4, 4, .inl f4)), (b8, .inl (k8, 16, .inl f19_7))] H := hP
  have hD : va_D A [(h0, .inr (3, [.ref a1, .ref gr1, .int gi2, .ref b3, .ref b4, .int gi5, .int gi6, .int gi7, .ref b8, .ref gr9, .ref gr10, .ref gr11, .ref gr12, .ref gr13, .ref gr14, .ref gr15, .ref gr16, .int gi17])), (a1, .inr (5, [.int li0, .int li1, .int li2, .int li3, .ref lr4, .ref lr5, .ref lr6, .ref lr7, .ref lr8, .int li9, .int 16, .int 4, .ref lr12, .ref lr13, .ref lr14, .int li15])), (b3, .inl (k3, 4, .inl f3)), (b4, .inl (k4, 4, .inl f4)), (b8, .inl (k8, 16, .inl f19_7))] := hD
  refine lv_iinc (v := 7) (lv' := [(2, .int 7), (0, .ref h0), (1, .int p1)]) hx hb dX3_dealByLots_20 hl (k := 0) rfl (by decide) (by decide) rfl (fun ls hl => ?_)
  refine lv_goto (tgt := 2) hx hb dX3_dealByLots_23 (by decide) ?_
  refine lv_iload_n hx hb dX3_dealByLots_2 rfl (lv_at hl 0 rfl) ?_
  refine lv_aload_n hx hb dX3_dealByLots_3 rfl (lv_at hl 1 rfl) ?_
  refine va_get (D := D) (ci := 3) (v := .ref a1) (C := RX3) (T := TX3) (N := 18) hx hb hts inX3 hown hK hP 0 rfl rfl 0 (by decide) (hts _ kw_420) (fun _ h9 => h9) rfl dX3_dealByLots_4 ?_
  refine W.eq (g2 := F0 m 7 ls [.ref a1, .int 7]) rfl ?_
  refine va_get (D := D) (ci := 5) (v := .int 16) (C := RX5) (T := TX5) (N := 16) hx hb hts inX5 hown hK hP 1 rfl rfl 10 (by decide) (hts _ kw_223) (fun _ h9 => h9) rfl dX3_dealByLots_7 ?_
  refine lv_icmp_ge (tgt := 26) hx hb dX3_dealByLots_10 (by decide) (fun h => absurd h (by decide)) (fun _ => ?_)
  refine lv_aload_n hx hb dX3_dealByLots_13 rfl (lv_at hl 1 rfl) ?_
  refine va_get (D := D) (ci := 3) (v := .ref b8) (C := RX3) (T := TX3) (N := 18) hx hb hts inX3 hown hK hP 0 rfl rfl 8 (by decide) (hts _ kw_444) (fun _ h9 => h9) rfl dX3_dealByLots_14 ?_
  refine lv_iload_n hx hb dX3_dealByLots_17 rfl (lv_at hl 0 rfl) ?_
  refine lv_iload_n hx hb dX3_dealByLots_18 rfl (lv_at hl 0 rfl) ?_
  refine va_iast hx hb hK hP hD hS 4 2 rfl rfl (z_in (by decide)) dX3_dealByLots_19 (fun H locs hP hD hS => ?_)
  obtain ⟨f19_8, hf19_8⟩ : ∃ z, z = upd f19_7 ((7 : Int32).toNatClampNeg) 7 := ⟨_, rfl⟩
  rw [← hf19_8] at hP hD
  have hP : va_P D vwCl [(h0, .inr (3, [.ref a1, .ref gr1, .int gi2, .ref b3, .ref b4, .int gi5, .int gi6, .int gi7, .ref b8, .ref gr9, .ref gr10, .ref gr11, .ref gr12, .ref gr13, .ref gr14, .ref gr15, .ref gr16, .int gi17])), (a1, .inr (5, [.int li0, .int li1, .int li2, .int li3, .ref lr4, .ref lr5, .ref lr6, .ref lr7, .ref lr8, .int li9, .int 16, .int 4, .ref lr12, .ref lr13, .ref lr14, .int li15])), (b3, .inl (k3, 4, .inl f3)), (b4, .inl (k4, 4, .inl f4)), (b8, .inl (k8, 16, .inl f19_8))] H := hP
  have hD : va_D A [(h0, .inr (3, [.ref a1, .ref gr1, .int gi2, .ref b3, .ref b4, .int gi5, .int gi6, .int gi7, .ref b8, .ref gr9, .ref gr10, .ref gr11, .ref gr12, .ref gr13, .ref gr14, .ref gr15, .ref gr16, .int gi17])), (a1, .inr (5, [.int li0, .int li1, .int li2, .int li3, .ref lr4, .ref lr5, .ref lr6, .ref lr7, .ref lr8, .int li9, .int 16, .int 4, .ref lr12, .ref lr13, .ref lr14, .int li15])), (b3, .inl (k3, 4, .inl f3)), (b4, .inl (k4, 4, .inl f4)), (b8, .inl (k8, 16, .inl f19_8))] := hD
  refine lv_iinc (v := 8) (lv' := [(2, .int 8), (0, .ref h0), (1, .int p1)]) hx hb dX3_dealByLots_20 hl (k := 0) rfl (by decide) (by decide) rfl (fun ls hl => ?_)
  refine lv_goto (tgt := 2) hx hb dX3_dealByLots_23 (by decide) ?_
  refine lv_iload_n hx hb dX3_dealByLots_2 rfl (lv_at hl 0 rfl) ?_
  refine W.eq (g2 := F0 m 3 ls [.int 8]) rfl ?_
  refine lv_aload_n hx hb dX3_dealByLots_3 rfl (lv_at hl 1 rfl) ?_
  refine va_get (D := D) (ci := 3) (v := .ref a1) (C := RX3) (T := TX3) (N := 18) hx hb hts inX3 hown hK hP 0 rfl rfl 0 (by decide) (hts _ kw_420) (fun _ h9 => h9) rfl dX3_dealByLots_4 ?_
  refine va_get (D := D) (ci := 5) (v := .int 16) (C := RX5) (T := TX5) (N := 16) hx hb hts inX5 hown hK hP 1 rfl rfl 10 (by decide) (hts _ kw_223) (fun _ h9 => h9) rfl dX3_dealByLots_7 ?_
  refine lv_icmp_ge (tgt := 26) hx hb dX3_dealByLots_10 (by decide) (fun h => absurd h (by decide)) (fun _ => ?_)
  refine lv_aload_n hx hb dX3_dealByLots_13 rfl (lv_at hl 1 rfl) ?_
  refine va_get (D := D) (ci := 3) (v := .ref b8) (C := RX3) (T := TX3) (N := 18) hx hb hts inX3 hown hK hP 0 rfl rfl 8 (by decide) (hts _ kw_444) (fun _ h9 => h9) rfl dX3_dealByLots_14 ?_
  refine lv_iload_n hx hb dX3_dealByLots_17 rfl (lv_at hl 0 rfl) ?_
  refine lv_iload_n hx hb dX3_dealByLots_18 rfl (lv_at hl 0 rfl) ?_
  refine va_iast hx hb hK hP hD hS 4 2 rfl rfl (z_in (by decide)) dX3_dealByLots_19 (fun H locs hP hD hS => ?_)
  obtain ⟨f19_9, hf19_9⟩ : ∃ z, z = upd f19_8 ((8 : Int32).toNatClampNeg) 8 := ⟨_, rfl⟩
  rw [← hf19_9] at hP hD
  have hP : va_P D vwCl [(h0, .inr (3, [.ref a1, .ref gr1, .int gi2, .ref b3, .ref b4, .int gi5, .int gi6, .int gi7, .ref b8, .ref gr9, .ref gr10, .ref gr11, .ref gr12, .ref gr13, .ref gr14, .ref gr15, .ref gr16, .int gi17])), (a1, .inr (5, [.int li0, .int li1, .int li2, .int li3, .ref lr4, .ref lr5, .ref lr6, .ref lr7, .ref lr8, .int li9, .int 16, .int 4, .ref lr12, .ref lr13, .ref lr14, .int li15])), (b3, .inl (k3, 4, .inl f3)), (b4, .inl (k4, 4, .inl f4)), (b8, .inl (k8, 16, .inl f19_9))] H := hP
  have hD : va_D A [(h0, .inr (3, [.ref a1, .ref gr1, .int gi2, .ref b3, .ref b4, .int gi5, .int gi6, .int gi7, .ref b8, .ref gr9, .ref gr10, .ref gr11, .ref gr12, .ref gr13, .ref gr14, .ref gr15, .ref gr16, .int gi17])), (a1, .inr (5, [.int li0, .int li1, .int li2, .int li3, .ref lr4, .ref lr5, .ref lr6, .ref lr7, .ref lr8, .int li9, .int 16, .int 4, .ref lr12, .ref lr13, .ref lr14, .int li15])), (b3, .inl (k3, 4, .inl f3)), (b4, .inl (k4, 4, .inl f4)), (b8, .inl (k8, 16, .inl f19_9))] := hD
  refine lv_iinc (v := 9) (lv' := [(2, .int 9), (0, .ref h0), (1, .int p1)]) hx hb dX3_dealByLots_20 hl (k := 0) rfl (by decide) (by decide) rfl (fun ls hl => ?_)
  refine W.eq (g2 := F0 m 23 ls []) rfl ?_
  refine lv_goto (tgt := 2) hx hb dX3_dealByLots_23 (by decide) ?_
  refine lv_iload_n hx hb dX3_dealByLots_2 rfl (lv_at hl 0 rfl) ?_
  refine lv_aload_n hx hb dX3_dealByLots_3 rfl (lv_at hl 1 rfl) ?_
  refine va_get (D := D) (ci := 3) (v := .ref a1) (C := RX3) (T := TX3) (N := 18) hx hb hts inX3 hown hK hP 0 rfl rfl 0 (by decide) (hts _ kw_420) (fun _ h9 => h9) rfl dX3_dealByLots_4 ?_
  refine va_get (D := D) (ci := 5) (v := .int 16) (C := RX5) (T := TX5) (N := 16) hx hb hts inX5 hown hK hP 1 rfl rfl 10 (by decide) (hts _ kw_223) (fun _ h9 => h9) rfl dX3_dealByLots_7 ?_
  refine lv_icmp_ge (tgt := 26) hx hb dX3_dealByLots_10 (by decide) (fun h => absurd h (by decide)) (fun _ => ?_)
  refine lv_aload_n hx hb dX3_dealByLots_13 rfl (lv_at hl 1 rfl) ?_
  refine va_get (D := D) (ci := 3) (v := .ref b8) (C := RX3) (T := TX3) (N := 18) hx hb hts inX3 hown hK hP 0 rfl rfl 8 (by decide) (hts _ kw_444) (fun _ h9 => h9) rfl dX3_dealByLots_14 ?_
  refine lv_iload_n hx hb dX3_dealByLots_17 rfl (lv_at hl 0 rfl) ?_
  refine lv_iload_n hx hb dX3_dealByLots_18 rfl (lv_at hl 0 rfl) ?_
  refine W.eq (g2 := F0 m 19 ls [.int 9, .int 9, .ref b8]) rfl ?_
  refine va_iast hx hb hK hP hD hS 4 2 rfl rfl (z_in (by decide)) dX3_dealByLots_19 (fun H locs hP hD hS => ?_)
  obtain ⟨f19_10, hf19_10⟩ : ∃ z, z = upd f19_9 ((9 : Int32).toNatClampNeg) 9 := ⟨_, rfl⟩
  rw [← hf19_10] at hP hD
  have hP : va_P D vwCl [(h0, .inr (3, [.ref a1, .ref gr1, .int gi2, .ref b3, .ref b4, .int gi5, .int gi6, .int gi7, .ref b8, .ref gr9, .ref gr10, .ref gr11, .ref gr12, .ref gr13, .ref gr14, .ref gr15, .ref gr16, .int gi17])), (a1, .inr (5, [.int li0, .int li1, .int li2, .int li3, .ref lr4, .ref lr5, .ref lr6, .ref lr7, .ref lr8, .int li9, .int 16, .int 4, .ref lr12, .ref lr13, .ref lr14, .int li15])), (b3, .inl (k3, 4, .inl f3)), (b4, .inl (k4, 4, .inl f4)), (b8, .inl (k8, 16, .inl f19_10))] H := hP
  have hD : va_D A [(h0, .inr (3, [.ref a1, .ref gr1, .int gi2, .ref b3, .ref b4, .int gi5, .int gi6, .int gi7, .ref b8, .ref gr9, .ref gr10, .ref gr11, .ref gr12, .ref gr13, .ref gr14, .ref gr15, .ref gr16, .int gi17])), (a1, .inr (5, [.int li0, .int li1, .int li2, .int li3, .ref lr4, .ref lr5, .ref lr6, .ref lr7, .ref lr8, .int li9, .int 16, .int 4, .ref lr12, .ref lr13, .ref lr14, .int li15])), (b3, .inl (k3, 4, .inl f3)), (b4, .inl (k4, 4, .inl f4)), (b8, .inl (k8, 16, .inl f19_10))] := hD
  refine lv_iinc (v := 10) (lv' := [(2, .int 10), (0, .ref h0), (1, .int p1)]) hx hb dX3_dealByLots_20 hl (k := 0) rfl (by decide) (by decide) rfl (fun ls hl => ?_)
  refine lv_goto (tgt := 2) hx hb dX3_dealByLots_23 (by decide) ?_
  refine lv_iload_n hx hb dX3_dealByLots_2 rfl (lv_at hl 0 rfl) ?_
  refine lv_aload_n hx hb dX3_dealByLots_3 rfl (lv_at hl 1 rfl) ?_
  refine va_get (D := D) (ci := 3) (v := .ref a1) (C := RX3) (T := TX3) (N := 18) hx hb hts inX3 hown hK hP 0 rfl rfl 0 (by decide) (hts _ kw_420) (fun _ h9 => h9) rfl dX3_dealByLots_4 ?_
  refine va_get (D := D) (ci := 5) (v := .int 16) (C := RX5) (T := TX5) (N := 16) hx hb hts inX5 hown hK hP 1 rfl rfl 10 (by decide) (hts _ kw_223) (fun _ h9 => h9) rfl dX3_dealByLots_7 ?_
  refine lv_icmp_ge (tgt := 26) hx hb dX3_dealByLots_10 (by decide) (fun h => absurd h (by decide)) (fun _ => ?_)
  refine lv_aload_n hx hb dX3_dealByLots_13 rfl (lv_at hl 1 rfl) ?_
  refine va_get (D := D) (ci := 3) (v := .ref b8) (C := RX3) (T := TX3) (N := 18) hx hb hts inX3 hown hK hP 0 rfl rfl 8 (by decide) (hts _ kw_444) (fun _ h9 => h9) rfl dX3_dealByLots_14 ?_
  refine W.eq (g2 := F0 m 17 ls [.ref b8]) rfl ?_
  refine lv_iload_n hx hb dX3_dealByLots_17 rfl (lv_at hl 0 rfl) ?_
  refine lv_iload_n hx hb dX3_dealByLots_18 rfl (lv_at hl 0 rfl) ?_
  refine va_iast hx hb hK hP hD hS 4 2 rfl rfl (z_in (by decide)) dX3_dealByLots_19 (fun H locs hP hD hS => ?_)
  obtain ⟨f19_11, hf19_11⟩ : ∃ z, z = upd f19_10 ((10 : Int32).toNatClampNeg) 10 := ⟨_, rfl⟩
  rw [← hf19_11] at hP hD
  have hP : va_P D vwCl [(h0, .inr (3, [.ref a1, .ref gr1, .int gi2, .ref b3, .ref b4, .int gi5, .int gi6, .int gi7, .ref b8, .ref gr9, .ref gr10, .ref gr11, .ref gr12, .ref gr13, .ref gr14, .ref gr15, .ref gr16, .int gi17])), (a1, .inr (5, [.int li0, .int li1, .int li2, .int li3, .ref lr4, .ref lr5, .ref lr6, .ref lr7, .ref lr8, .int li9, .int 16, .int 4, .ref lr12, .ref lr13, .ref lr14, .int li15])), (b3, .inl (k3, 4, .inl f3)), (b4, .inl (k4, 4, .inl f4)), (b8, .inl (k8, 16, .inl f19_11))] H := hP
  have hD : va_D A [(h0, .inr (3, [.ref a1, .ref gr1, .int gi2, .ref b3, .ref b4, .int gi5, .int gi6, .int gi7, .ref b8, .ref gr9, .ref gr10, .ref gr11, .ref gr12, .ref gr13, .ref gr14, .ref gr15, .ref gr16, .int gi17])), (a1, .inr (5, [.int li0, .int li1, .int li2, .int li3, .ref lr4, .ref lr5, .ref lr6, .ref lr7, .ref lr8, .int li9, .int 16, .int 4, .ref lr12, .ref lr13, .ref lr14, .int li15])), (b3, .inl (k3, 4, .inl f3)), (b4, .inl (k4, 4, .inl f4)), (b8, .inl (k8, 16, .inl f19_11))] := hD
  refine lv_iinc (v := 11) (lv' := [(2, .int 11), (0, .ref h0), (1, .int p1)]) hx hb dX3_dealByLots_20 hl (k := 0) rfl (by decide) (by decide) rfl (fun ls hl => ?_)
  refine lv_goto (tgt := 2) hx hb dX3_dealByLots_23 (by decide) ?_
  refine lv_iload_n hx hb dX3_dealByLots_2 rfl (lv_at hl 0 rfl) ?_
  refine lv_aload_n hx hb dX3_dealByLots_3 rfl (lv_at hl 1 rfl) ?_
  refine va_get (D := D) (ci := 3) (v := .ref a1) (C := RX3) (T := TX3) (N := 18) hx hb hts inX3 hown hK hP 0 rfl rfl 0 (by decide) (hts _ kw_420) (fun _ h9 => h9) rfl dX3_dealByLots_4 ?_
  refine va_get (D := D) (ci := 5) (v := .int 16) (C := RX5) (T := TX5) (N := 16) hx hb hts inX5 hown hK hP 1 rfl rfl 10 (by decide) (hts _ kw_223) (fun _ h9 => h9) rfl dX3_dealByLots_7 ?_
  refine lv_icmp_ge (tgt := 26) hx hb dX3_dealByLots_10 (by decide) (fun h => absurd h (by decide)) (fun _ => ?_)
  refine W.eq (g2 := F0 m 13 ls []) rfl ?_
  refine lv_aload_n hx hb dX3_dealByLots_13 rfl (lv_at hl 1 rfl) ?_
  refine va_get (D := D) (ci := 3) (v := .ref b8) (C := RX3) (T := TX3) (N := 18) hx hb hts inX3 hown hK hP 0 rfl rfl 8 (by decide) (hts _ kw_444) (fun _ h9 => h9) rfl dX3_dealByLots_14 ?_
  refine lv_iload_n hx hb dX3_dealByLots_17 rfl (lv_at hl 0 rfl) ?_
  refine lv_iload_n hx hb dX3_dealByLots_18 rfl (lv_at hl 0 rfl) ?_
  refine va_iast hx hb hK hP hD hS 4 2 rfl rfl (z_in (by decide)) dX3_dealByLots_19 (fun H locs hP hD hS => ?_)
  obtain ⟨f19_12, hf19_12⟩ : ∃ z, z = upd f19_11 ((11 : Int32).toNatClampNeg) 11 := ⟨_, rfl⟩
  rw [← hf19_12] at hP hD
  have hP : va_P D vwCl [(h0, .inr (3, [.ref a1, .ref gr1, .int gi2, .ref b3, .ref b4, .int gi5, .int gi6, .int gi7, .ref b8, .ref gr9, .ref gr10, .ref gr11, .ref gr12, .ref gr13, .ref gr14, .ref gr15, .ref gr16, .int gi17])), (a1, .inr (5, [.int li0, .int li1, .int li2, .int li3, .ref lr4, .ref lr5, .ref lr6, .ref lr7, .ref lr8, .int li9, .int 16, .int 4, .ref lr12, .ref lr13, .ref lr14, .int li15])), (b3, .inl (k3, 4, .inl f3)), (b4, .inl (k4, 4, .inl f4)), (b8, .inl (k8, 16, .inl f19_12))] H := hP
  have hD : va_D A [(h0, .inr (3, [.ref a1, .ref gr1, .int gi2, .ref b3, .ref b4, .int gi5, .int gi6, .int gi7, .ref b8, .ref gr9, .ref gr10, .ref gr11, .ref gr12, .ref gr13, .ref gr14, .ref gr15, .ref gr16, .int gi17])), (a1, .inr (5, [.int li0, .int li1, .int li2, .int li3, .ref lr4, .ref lr5, .ref lr6, .ref lr7, .ref lr8, .int li9, .int 16, .int 4, .ref lr12, .ref lr13, .ref lr14, .int li15])), (b3, .inl (k3, 4, .inl f3)), (b4, .inl (k4, 4, .inl f4)), (b8, .inl (k8, 16, .inl f19_12))] := hD
  refine lv_iinc (v := 12) (lv' := [(2, .int 12), (0, .ref h0), (1, .int p1)]) hx hb dX3_dealByLots_20 hl (k := 0) rfl (by decide) (by decide) rfl (fun ls hl => ?_)
  refine lv_goto (tgt := 2) hx hb dX3_dealByLots_23 (by decide) ?_
  refine lv_iload_n hx hb dX3_dealByLots_2 rfl (lv_at hl 0 rfl) ?_
  refine lv_aload_n hx hb dX3_dealByLots_3 rfl (lv_at hl 1 rfl) ?_
  refine va_get (D := D) (ci := 3) (v := .ref a1) (C := RX3) (T := TX3) (N := 18) hx hb hts inX3 hown hK hP 0 rfl rfl 0 (by decide) (hts _ kw_420) (fun _ h9 => h9) rfl dX3_dealByLots_4 ?_
  refine W.eq (g2 := F0 m 7 ls [.ref a1, .int 12]) rfl ?_
  refine va_get (D := D) (ci := 5) (v := .int 16) (C := RX5) (T := TX5) (N := 16) hx hb hts inX5 hown hK hP 1 rfl rfl 10 (by decide) (hts _ kw_223) (fun _ h9 => h9) rfl dX3_dealByLots_7 ?_
  refine lv_icmp_ge (tgt := 26) hx hb dX3_dealByLots_10 (by decide) (fun h => absurd h (by decide)) (fun _ => ?_)
  refine lv_aload_n hx hb dX3_dealByLots_13 rfl (lv_at hl 1 rfl) ?_
  refine va_get (D := D) (ci := 3) (v := .ref b8) (C := RX3) (T := TX3) (N := 18) hx hb hts inX3 hown hK hP 0 rfl rfl 8 (by decide) (hts _ kw_444) (fun _ h9 => h9) rfl dX3_dealByLots_14 ?_
  refine lv_iload_n hx hb dX3_dealByLots_17 rfl (lv_at hl 0 rfl) ?_
  refine lv_iload_n hx hb dX3_dealByLots_18 rfl (lv_at hl 0 rfl) ?_
  refine va_iast hx hb hK hP hD hS 4 2 rfl rfl (z_in (by decide)) dX3_dealByLots_19 (fun H locs hP hD hS => ?_)
  obtain ⟨f19_13, hf19_13⟩ : ∃ z, z = upd f19_12 ((12 : Int32).toNatClampNeg) 12 := ⟨_, rfl⟩
  rw [← hf19_13] at hP hD
  have hP : va_P D vwCl [(h0, .inr (3, [.ref a1, .ref gr1, .int gi2, .ref b3, .ref b4, .int gi5, .int gi6, .int gi7, .ref b8, .ref gr9, .ref gr10, .ref gr11, .ref gr12, .ref gr13, .ref gr14, .ref gr15, .ref gr16, .int gi17])), (a1, .inr (5, [.int li0, .int li1, .int li2, .int li3, .ref lr4, .ref lr5, .ref lr6, .ref lr7, .ref lr8, .int li9, .int 16, .int 4, .ref lr12, .ref lr13, .ref lr14, .int li15])), (b3, .inl (k3, 4, .inl f3)), (b4, .inl (k4, 4, .inl f4)), (b8, .inl (k8, 16, .inl f19_13))] H := hP
  have hD : va_D A [(h0, .inr (3, [.ref a1, .ref gr1, .int gi2, .ref b3, .ref b4, .int gi5, .int gi6, .int gi7, .ref b8, .ref gr9, .ref gr10, .ref gr11, .ref gr12, .ref gr13, .ref gr14, .ref gr15, .ref gr16, .int gi17])), (a1, .inr (5, [.int li0, .int li1, .int li2, .int li3, .ref lr4, .ref lr5, .ref lr6, .ref lr7, .ref lr8, .int li9, .int 16, .int 4, .ref lr12, .ref lr13, .ref lr14, .int li15])), (b3, .inl (k3, 4, .inl f3)), (b4, .inl (k4, 4, .inl f4)), (b8, .inl (k8, 16, .inl f19_13))] := hD
  refine lv_iinc (v := 13) (lv' := [(2, .int 13), (0, .ref h0), (1, .int p1)]) hx hb dX3_dealByLots_20 hl (k := 0) rfl (by decide) (by decide) rfl (fun ls hl => ?_)
  refine lv_goto (tgt := 2) hx hb dX3_dealByLots_23 (by decide) ?_
  refine lv_iload_n hx hb dX3_dealByLots_2 rfl (lv_at hl 0 rfl) ?_
  refine W.eq (g2 := F0 m 3 ls [.int 13]) rfl ?_
  refine lv_aload_n hx hb dX3_dealByLots_3 rfl (lv_at hl 1 rfl) ?_
  refine va_get (D := D) (ci := 3) (v := .ref a1) (C := RX3) (T := TX3) (N := 18) hx hb hts inX3 hown hK hP 0 rfl rfl 0 (by decide) (hts _ kw_420) (fun _ h9 => h9) rfl dX3_dealByLots_4 ?_
  refine va_get (D := D) (ci := 5) (v := .int 16) (C := RX5) (T := TX5) (N := 16) hx hb hts inX5 hown hK hP 1 rfl rfl 10 (by decide) (hts _ kw_223) (fun _ h9 => h9) rfl dX3_dealByLots_7 ?_
  refine lv_icmp_ge (tgt := 26) hx hb dX3_dealByLots_10 (by decide) (fun h => absurd h (by decide)) (fun _ => ?_)
  refine lv_aload_n hx hb dX3_dealByLots_13 rfl (lv_at hl 1 rfl) ?_
  refine va_get (D := D) (ci := 3) (v := .ref b8) (C := RX3) (T := TX3) (N := 18) hx hb hts inX3 hown hK hP 0 rfl rfl 8 (by decide) (hts _ kw_444) (fun _ h9 => h9) rfl dX3_dealByLots_14 ?_
  refine lv_iload_n hx hb dX3_dealByLots_17 rfl (lv_at hl 0 rfl) ?_
  refine lv_iload_n hx hb dX3_dealByLots_18 rfl (lv_at hl 0 rfl) ?_
  refine va_iast hx hb hK hP hD hS 4 2 rfl rfl (z_in (by decide)) dX3_dealByLots_19 (fun H locs hP hD hS => ?_)
  obtain ⟨f19_14, hf19_14⟩ : ∃ z, z = upd f19_13 ((13 : Int32).toNatClampNeg) 13 := ⟨_, rfl⟩
  rw [← hf19_14] at hP hD
  have hP : va_P D vwCl [(h0, .inr (3, [.ref a1, .ref gr1, .int gi2, .ref b3, .ref b4, .int gi5, .int gi6, .int gi7, .ref b8, .ref gr9, .ref gr10, .ref gr11, .ref gr12, .ref gr13, .ref gr14, .ref gr15, .ref gr16, .int gi17])), (a1, .inr (5, [.int li0, .int li1, .int li2, .int li3, .ref lr4, .ref lr5, .ref lr6, .ref lr7, .ref lr8, .int li9, .int 16, .int 4, .ref lr12, .ref lr13, .ref lr14, .int li15])), (b3, .inl (k3, 4, .inl f3)), (b4, .inl (k4, 4, .inl f4)), (b8, .inl (k8, 16, .inl f19_14))] H := hP
  have hD : va_D A [(h0, .inr (3, [.ref a1, .ref gr1, .int gi2, .ref b3, .ref b4, .int gi5, .int gi6, .int gi7, .ref b8, .ref gr9, .ref gr10, .ref gr11, .ref gr12, .ref gr13, .ref gr14, .ref gr15, .ref gr16, .int gi17])), (a1, .inr (5, [.int li0, .int li1, .int li2, .int li3, .ref lr4, .ref lr5, .ref lr6, .ref lr7, .ref lr8, .int li9, .int 16, .int 4, .ref lr12, .ref lr13, .ref lr14, .int li15])), (b3, .inl (k3, 4, .inl f3)), (b4, .inl (k4, 4, .inl f4)), (b8, .inl (k8, 16, .inl f19_14))] := hD
  refine lv_iinc (v := 14) (lv' := [(2, .int 14), (0, .ref h0), (1, .int p1)]) hx hb dX3_dealByLots_20 hl (k := 0) rfl (by decide) (by decide) rfl (fun ls hl => ?_)
  refine W.eq (g2 := F0 m 23 ls []) rfl ?_
  refine lv_goto (tgt := 2) hx hb dX3_dealByLots_23 (by decide) ?_
  refine lv_iload_n hx hb dX3_dealByLots_2 rfl (lv_at hl 0 rfl) ?_
  refine lv_aload_n hx hb dX3_dealByLots_3 rfl (lv_at hl 1 rfl) ?_
  refine va_get (D := D) (ci := 3) (v := .ref a1) (C := RX3) (T := TX3) (N := 18) hx hb hts inX3 hown hK hP 0 rfl rfl 0 (by decide) (hts _ kw_420) (fun _ h9 => h9) rfl dX3_dealByLots_4 ?_
  refine va_get (D := D) (ci := 5) (v := .int 16) (C := RX5) (T := TX5) (N := 16) hx hb hts inX5 hown hK hP 1 rfl rfl 10 (by decide) (hts _ kw_223) (fun _ h9 => h9) rfl dX3_dealByLots_7 ?_
  refine lv_icmp_ge (tgt := 26) hx hb dX3_dealByLots_10 (by decide) (fun h => absurd h (by decide)) (fun _ => ?_)
  refine lv_aload_n hx hb dX3_dealByLots_13 rfl (lv_at hl 1 rfl) ?_
  refine va_get (D := D) (ci := 3) (v := .ref b8) (C := RX3) (T := TX3) (N := 18) hx hb hts inX3 hown hK hP 0 rfl rfl 8 (by decide) (hts _ kw_444) (fun _ h9 => h9) rfl dX3_dealByLots_14 ?_
  refine lv_iload_n hx hb dX3_dealByLots_17 rfl (lv_at hl 0 rfl) ?_
  refine lv_iload_n hx hb dX3_dealByLots_18 rfl (lv_at hl 0 rfl) ?_
  refine W.eq (g2 := F0 m 19 ls [.int 14, .int 14, .ref b8]) rfl ?_
  refine va_iast hx hb hK hP hD hS 4 2 rfl rfl (z_in (by decide)) dX3_dealByLots_19 (fun H locs hP hD hS => ?_)
  obtain ⟨f19_15, hf19_15⟩ : ∃ z, z = upd f19_14 ((14 : Int32).toNatClampNeg) 14 := ⟨_, rfl⟩
  rw [← hf19_15] at hP hD
  have hP : va_P D vwCl [(h0, .inr (3, [.ref a1, .ref gr1, .int gi2, .ref b3, .ref b4, .int gi5, .int gi6, .int gi7, .ref b8, .ref gr9, .ref gr10, .ref gr11, .ref gr12, .ref gr13, .ref gr14, .ref gr15, .ref gr16, .int gi17])), (a1, .inr (5, [.int li0, .int li1, .int li2, .int li3, .ref lr4, .ref lr5, .ref lr6, .ref lr7, .ref lr8, .int li9, .int 16, .int 4, .ref lr12, .ref lr13, .ref lr14, .int li15])), (b3, .inl (k3, 4, .inl f3)), (b4, .inl (k4, 4, .inl f4)), (b8, .inl (k8, 16, .inl f19_15))] H := hP
  have hD : va_D A [(h0, .inr (3, [.ref a1, .ref gr1, .int gi2, .ref b3, .ref b4, .int gi5, .int gi6, .int gi7, .ref b8, .ref gr9, .ref gr10, .ref gr11, .ref gr12, .ref gr13, .ref gr14, .ref gr15, .ref gr16, .int gi17])), (a1, .inr (5, [.int li0, .int li1, .int li2, .int li3, .ref lr4, .ref lr5, .ref lr6, .ref lr7, .ref lr8, .int li9, .int 16, .int 4, .ref lr12, .ref lr13, .ref lr14, .int li15])), (b3, .inl (k3, 4, .inl f3)), (b4, .inl (k4, 4, .inl f4)), (b8, .inl (k8, 16, .inl f19_15))] := hD
  refine lv_iinc (v := 15) (lv' := [(2, .int 15), (0, .ref h0), (1, .int p1)]) hx hb dX3_dealByLots_20 hl (k := 0) rfl (by decide) (by decide) rfl (fun ls hl => ?_)
  refine lv_goto (tgt := 2) hx hb dX3_dealByLots_23 (by decide) ?_
  refine lv_iload_n hx hb dX3_dealByLots_2 rfl (lv_at hl 0 rfl) ?_
  refine lv_aload_n hx hb dX3_dealByLots_3 rfl (lv_at hl 1 rfl) ?_
  refine va_get (D := D) (ci := 3) (v := .ref a1) (C := RX3) (T := TX3) (N := 18) hx hb hts inX3 hown hK hP 0 rfl rfl 0 (by decide) (hts _ kw_420) (fun _ h9 => h9) rfl dX3_dealByLots_4 ?_
  refine va_get (D := D) (ci := 5) (v := .int 16) (C := RX5) (T := TX5) (N := 16) hx hb hts inX5 hown hK hP 1 rfl rfl 10 (by decide) (hts _ kw_223) (fun _ h9 => h9) rfl dX3_dealByLots_7 ?_
  refine lv_icmp_ge (tgt := 26) hx hb dX3_dealByLots_10 (by decide) (fun h => absurd h (by decide)) (fun _ => ?_)
  refine lv_aload_n hx hb dX3_dealByLots_13 rfl (lv_at hl 1 rfl) ?_
  refine va_get (D := D) (ci := 3) (v := .ref b8) (C := RX3) (T := TX3) (N := 18) hx hb hts inX3 hown hK hP 0 rfl rfl 8 (by decide) (hts _ kw_444) (fun _ h9 => h9) rfl dX3_dealByLots_14 ?_
  refine W.eq (g2 := F0 m 17 ls [.ref b8]) rfl ?_
  refine lv_iload_n hx hb dX3_dealByLots_17 rfl (lv_at hl 0 rfl) ?_
  refine lv_iload_n hx hb dX3_dealByLots_18 rfl (lv_at hl 0 rfl) ?_
  refine va_iast hx hb hK hP hD hS 4 2 rfl rfl (z_in (by decide)) dX3_dealByLots_19 (fun H locs hP hD hS => ?_)
  obtain ⟨f19_16, hf19_16⟩ : ∃ z, z = upd f19_15 ((15 : Int32).toNatClampNeg) 15 := ⟨_, rfl⟩
  rw [← hf19_16] at hP hD
  have hP : va_P D vwCl [(h0, .inr (3, [.ref a1, .ref gr1, .int gi2, .ref b3, .ref b4, .int gi5, .int gi6, .int gi7, .ref b8, .ref gr9, .ref gr10, .ref gr11, .ref gr12, .ref gr13, .ref gr14, .ref gr15, .ref gr16, .int gi17])), (a1, .inr (5, [.int li0, .int li1, .int li2, .int li3, .ref lr4, .ref lr5, .ref lr6, .ref lr7, .ref lr8, .int li9, .int 16, .int 4, .ref lr12, .ref lr13, .ref lr14, .int li15])), (b3, .inl (k3, 4, .inl f3)), (b4, .inl (k4, 4, .inl f4)), (b8, .inl (k8, 16, .inl f19_16))] H := hP
  have hD : va_D A [(h0, .inr (3, [.ref a1, .ref gr1, .int gi2, .ref b3, .ref b4, .int gi5, .int gi6, .int gi7, .ref b8, .ref gr9, .ref gr10, .ref gr11, .ref gr12, .ref gr13, .ref gr14, .ref gr15, .ref gr16, .int gi17])), (a1, .inr (5, [.int li0, .int li1, .int li2, .int li3, .ref lr4, .ref lr5, .ref lr6, .ref lr7, .ref lr8, .int li9, .int 16, .int 4, .ref lr12, .ref lr13, .ref lr14, .int li15])), (b3, .inl (k3, 4, .inl f3)), (b4, .inl (k4, 4, .inl f4)), (b8, .inl (k8, 16, .inl f19_16))] := hD
  refine lv_iinc (v := 16) (lv' := [(2, .int 16), (0, .ref h0), (1, .int p1)]) hx hb dX3_dealByLots_20 hl (k := 0) rfl (by decide) (by decide) rfl (fun ls hl => ?_)
  refine lv_goto (tgt := 2) hx hb dX3_dealByLots_23 (by decide) ?_
  refine lv_iload_n hx hb dX3_dealByLots_2 rfl (lv_at hl 0 rfl) ?_
  refine lv_aload_n hx hb dX3_dealByLots_3 rfl (lv_at hl 1 rfl) ?_
  refine va_get (D := D) (ci := 3) (v := .ref a1) (C := RX3) (T := TX3) (N := 18) hx hb hts inX3 hown hK hP 0 rfl rfl 0 (by decide) (hts _ kw_420) (fun _ h9 => h9) rfl dX3_dealByLots_4 ?_
  refine va_get (D := D) (ci := 5) (v := .int 16) (C := RX5) (T := TX5) (N := 16) hx hb hts inX5 hown hK hP 1 rfl rfl 10 (by decide) (hts _ kw_223) (fun _ h9 => h9) rfl dX3_dealByLots_7 ?_
  refine lv_icmp_ge (tgt := 26) hx hb dX3_dealByLots_10 (by decide) (fun _ => ?_) (fun h => absurd (by decide) h)
  refine W.eq (g2 := F0 m 26 ls []) rfl ?_
  refine lv_aload_n hx hb dX3_dealByLots_26 rfl (lv_at hl 1 rfl) ?_
  refine va_get (D := D) (ci := 3) (v := .ref a1) (C := RX3) (T := TX3) (N := 18) hx hb hts inX3 hown hK hP 0 rfl rfl 0 (by decide) (hts _ kw_420) (fun _ h9 => h9) rfl dX3_dealByLots_27 ?_
  refine va_get (D := D) (ci := 5) (v := .int 16) (C := RX5) (T := TX5) (N := 16) hx hb hts inX5 hown hK hP 1 rfl rfl 10 (by decide) (hts _ kw_223) (fun _ h9 => h9) rfl dX3_dealByLots_30 ?_
  refine lv_iconst (v := 1) hx hb dX3_dealByLots_33 (by decide) ?_
  refine lv_isub hx hb dX3_dealByLots_34 ?_
  refine z_i (v := 15) (by decide) ?_
  refine lv_istore_n (lv' := [(2, .int 15), (0, .ref h0), (1, .int p1)]) hx hb dX3_dealByLots_35 rfl hl (by decide) rfl (fun ls hl => ?_)
  refine lv_iload_n hx hb dX3_dealByLots_36 rfl (lv_at hl 0 rfl) ?_
  refine lv_iconst (v := 1) hx hb dX3_dealByLots_37 (by decide) ?_
  refine lv_icmp_lt (tgt := 84) hx hb dX3_dealByLots_38 (by decide) (fun h => absurd h (by decide)) (fun _ => ?_)
  refine lv_iload_n hx hb dX3_dealByLots_41 rfl (lv_at hl 0 rfl) ?_
  refine W.eq (g2 := F0 m 42 ls [.int 15]) rfl ?_
  refine lv_iconst (v := 1) hx hb dX3_dealByLots_42 (by decide) ?_
  refine lv_iadd hx hb dX3_dealByLots_43 ?_
  refine z_i (v := 16) (by decide) ?_
  refine lv_iload_n hx hb dX3_dealByLots_44 rfl (lv_at hl 2 rfl) ?_
  refine lv_iload_n hx hb dX3_dealByLots_45 rfl (lv_at hl 0 rfl) ?_
  refine re_S (As := [.int 16, .int p1, .int 15]) (rest := []) caS_SignalTable_Game_78 hx hb hml hown hts (e_lot 16 p1 15 (by decide) (by decide)) bl_T (fun _ _ _ => trivial) (by decide) rfl hl.1 (Nat.le_of_ble_eq_true rfl) (by decide) dX3_dealByLots_46 rfl ?_
  refine lv_istore_n (lv' := [(3, .int (nI (lotv 16 p1 15))), (2, .int 15), (0, .ref h0), (1, .int p1)]) hx hb dX3_dealByLots_49 rfl hl (by decide) rfl (fun ls hl => ?_)
  refine lv_aload_n hx hb dX3_dealByLots_50 rfl (lv_at hl 2 rfl) ?_
  refine va_get (D := D) (ci := 3) (v := .ref b8) (C := RX3) (T := TX3) (N := 18) hx hb hts inX3 hown hK hP 0 rfl rfl 8 (by decide) (hts _ kw_444) (fun _ h9 => h9) rfl dX3_dealByLots_51 ?_
  refine lv_iload_n hx hb dX3_dealByLots_54 rfl (lv_at hl 1 rfl) ?_
  refine va_iald hx hb hK hP 4 2 rfl rfl (z_in (by decide)) dX3_dealByLots_55 ?_
  refine W.eq (g2 := F0 m 56 ls [.int (f19_16 (15 : Int32).toNatClampNeg)]) rfl ?_
  refine lv_istore (lv' := [(4, .int (f19_16 (15 : Int32).toNatClampNeg)), (3, .int (nI (lotv 16 p1 15))), (2, .int 15), (0, .ref h0), (1, .int p1)]) hx hb dX3_dealByLots_56 hl (by decide) rfl (fun ls hl => ?_)
  refine lv_aload_n hx hb dX3_dealByLots_58 rfl (lv_at hl 3 rfl) ?_
  refine va_get (D := D) (ci := 3) (v := .ref b8) (C := RX3) (T := TX3) (N := 18) hx hb hts inX3 hown hK hP 0 rfl rfl 8 (by decide) (hts _ kw_444) (fun _ h9 => h9) rfl dX3_dealByLots_59 ?_
  refine lv_iload_n hx hb dX3_dealByLots_62 rfl (lv_at hl 2 rfl) ?_
  refine lv_aload_n hx hb dX3_dealByLots_63 rfl (lv_at hl 3 rfl) ?_
  refine va_get (D := D) (ci := 3) (v := .ref b8) (C := RX3) (T := TX3) (N := 18) hx hb hts inX3 hown hK hP 0 rfl rfl 8 (by decide) (hts _ kw_444) (fun _ h9 => h9) rfl dX3_dealByLots_64 ?_
  refine lv_iload_n hx hb dX3_dealByLots_67 rfl (lv_at hl 1 rfl) ?_
  refine va_iald hx hb hK hP 4 2 rfl rfl (vp_in_nI (Nat.lt_of_lt_of_le (lotv_lt (by decide) _ _) (by decide)) (by decide)) dX3_dealByLots_68 ?_
  refine va_iast hx hb hK hP hD hS 4 2 rfl rfl (z_in (by decide)) dX3_dealByLots_69 (fun H locs hP hD hS => ?_)
  obtain ⟨f69_17, hf69_17⟩ : ∃ z, z = upd f19_16 ((15 : Int32).toNatClampNeg) (f19_16 ((nI (lotv 16 p1 15)) : Int32).toNatClampNeg) := ⟨_, rfl⟩
  rw [← hf69_17] at hP hD
  have hP : va_P D vwCl [(h0, .inr (3, [.ref a1, .ref gr1, .int gi2, .ref b3, .ref b4, .int gi5, .int gi6, .int gi7, .ref b8, .ref gr9, .ref gr10, .ref gr11, .ref gr12, .ref gr13, .ref gr14, .ref gr15, .ref gr16, .int gi17])), (a1, .inr (5, [.int li0, .int li1, .int li2, .int li3, .ref lr4, .ref lr5, .ref lr6, .ref lr7, .ref lr8, .int li9, .int 16, .int 4, .ref lr12, .ref lr13, .ref lr14, .int li15])), (b3, .inl (k3, 4, .inl f3)), (b4, .inl (k4, 4, .inl f4)), (b8, .inl (k8, 16, .inl f69_17))] H := hP
  have hD : va_D A [(h0, .inr (3, [.ref a1, .ref gr1, .int gi2, .ref b3, .ref b4, .int gi5, .int gi6, .int gi7, .ref b8, .ref gr9, .ref gr10, .ref gr11, .ref gr12, .ref gr13, .ref gr14, .ref gr15, .ref gr16, .int gi17])), (a1, .inr (5, [.int li0, .int li1, .int li2, .int li3, .ref lr4, .ref lr5, .ref lr6, .ref lr7, .ref lr8, .int li9, .int 16, .int 4, .ref lr12, .ref lr13, .ref lr14, .int li15])), (b3, .inl (k3, 4, .inl f3)), (b4, .inl (k4, 4, .inl f4)), (b8, .inl (k8, 16, .inl f69_17))] := hD
  refine lv_aload_n hx hb dX3_dealByLots_70 rfl (lv_at hl 3 rfl) ?_
  refine W.eq (g2 := F0 m 71 ls [.ref h0]) rfl ?_
  refine va_get (D := D) (ci := 3) (v := .ref b8) (C := RX3) (T := TX3) (N := 18) hx hb hts inX3 hown hK hP 0 rfl rfl 8 (by decide) (hts _ kw_444) (fun _ h9 => h9) rfl dX3_dealByLots_71 ?_
  refine lv_iload_n hx hb dX3_dealByLots_74 rfl (lv_at hl 1 rfl) ?_
  refine lv_iload hx hb dX3_dealByLots_75 (lv_at hl 0 rfl) ?_
  refine va_iast hx hb hK hP hD hS 4 2 rfl rfl (vp_in_nI (Nat.lt_of_lt_of_le (lotv_lt (by decide) _ _) (by decide)) (by decide)) dX3_dealByLots_77 (fun H locs hP hD hS => ?_)
  obtain ⟨f77_18, hf77_18⟩ : ∃ z, z = upd f69_17 (((nI (lotv 16 p1 15)) : Int32).toNatClampNeg) (f19_16 (15 : Int32).toNatClampNeg) := ⟨_, rfl⟩
  rw [← hf77_18] at hP hD
  have hP : va_P D vwCl [(h0, .inr (3, [.ref a1, .ref gr1, .int gi2, .ref b3, .ref b4, .int gi5, .int gi6, .int gi7, .ref b8, .ref gr9, .ref gr10, .ref gr11, .ref gr12, .ref gr13, .ref gr14, .ref gr15, .ref gr16, .int gi17])), (a1, .inr (5, [.int li0, .int li1, .int li2, .int li3, .ref lr4, .ref lr5, .ref lr6, .ref lr7, .ref lr8, .int li9, .int 16, .int 4, .ref lr12, .ref lr13, .ref lr14, .int li15])), (b3, .inl (k3, 4, .inl f3)), (b4, .inl (k4, 4, .inl f4)), (b8, .inl (k8, 16, .inl f77_18))] H := hP
  have hD : va_D A [(h0, .inr (3, [.ref a1, .ref gr1, .int gi2, .ref b3, .ref b4, .int gi5, .int gi6, .int gi7, .ref b8, .ref gr9, .ref gr10, .ref gr11, .ref gr12, .ref gr13, .ref gr14, .ref gr15, .ref gr16, .int gi17])), (a1, .inr (5, [.int li0, .int li1, .int li2, .int li3, .ref lr4, .ref lr5, .ref lr6, .ref lr7, .ref lr8, .int li9, .int 16, .int 4, .ref lr12, .ref lr13, .ref lr14, .int li15])), (b3, .inl (k3, 4, .inl f3)), (b4, .inl (k4, 4, .inl f4)), (b8, .inl (k8, 16, .inl f77_18))] := hD
  refine lv_iinc (v := 14) (lv' := [(2, .int 14), (4, .int (f19_16 (15 : Int32).toNatClampNeg)), (3, .int (nI (lotv 16 p1 15))), (0, .ref h0), (1, .int p1)]) hx hb dX3_dealByLots_78 hl (k := 2) rfl (by decide) (by decide) rfl (fun ls hl => ?_)
  refine lv_goto (tgt := 36) hx hb dX3_dealByLots_81 (by decide) ?_
  refine lv_iload_n hx hb dX3_dealByLots_36 rfl (lv_at hl 0 rfl) ?_
  refine lv_iconst (v := 1) hx hb dX3_dealByLots_37 (by decide) ?_
  refine lv_icmp_lt (tgt := 84) hx hb dX3_dealByLots_38 (by decide) (fun h => absurd h (by decide)) (fun _ => ?_)
  refine lv_iload_n hx hb dX3_dealByLots_41 rfl (lv_at hl 0 rfl) ?_
  refine W.eq (g2 := F0 m 42 ls [.int 14]) rfl ?_
  refine lv_iconst (v := 1) hx hb dX3_dealByLots_42 (by decide) ?_
  refine lv_iadd hx hb dX3_dealByLots_43 ?_
  refine z_i (v := 15) (by decide) ?_
  refine lv_iload_n hx hb dX3_dealByLots_44 rfl (lv_at hl 4 rfl) ?_
  refine lv_iload_n hx hb dX3_dealByLots_45 rfl (lv_at hl 0 rfl) ?_
  refine re_S (As := [.int 15, .int p1, .int 14]) (rest := []) caS_SignalTable_Game_78 hx hb hml hown hts (e_lot 15 p1 14 (by decide) (by decide)) bl_T (fun _ _ _ => trivial) (by decide) rfl hl.1 (Nat.le_of_ble_eq_true rfl) (by decide) dX3_dealByLots_46 rfl ?_
  refine lv_istore_n (lv' := [(3, .int (nI (lotv 15 p1 14))), (2, .int 14), (4, .int (f19_16 (15 : Int32).toNatClampNeg)), (0, .ref h0), (1, .int p1)]) hx hb dX3_dealByLots_49 rfl hl (by decide) rfl (fun ls hl => ?_)
  refine lv_aload_n hx hb dX3_dealByLots_50 rfl (lv_at hl 3 rfl) ?_
  refine va_get (D := D) (ci := 3) (v := .ref b8) (C := RX3) (T := TX3) (N := 18) hx hb hts inX3 hown hK hP 0 rfl rfl 8 (by decide) (hts _ kw_444) (fun _ h9 => h9) rfl dX3_dealByLots_51 ?_
  refine lv_iload_n hx hb dX3_dealByLots_54 rfl (lv_at hl 1 rfl) ?_
  refine va_iald hx hb hK hP 4 2 rfl rfl (z_in (by decide)) dX3_dealByLots_55 ?_
  refine W.eq (g2 := F0 m 56 ls [.int (f77_18 (14 : Int32).toNatClampNeg)]) rfl ?_
  refine lv_istore (lv' := [(4, .int (f77_18 (14 : Int32).toNatClampNeg)), (3, .int (nI (lotv 15 p1 14))), (2, .int 14), (0, .ref h0), (1, .int p1)]) hx hb dX3_dealByLots_56 hl (by decide) rfl (fun ls hl => ?_)
  refine lv_aload_n hx hb dX3_dealByLots_58 rfl (lv_at hl 3 rfl) ?_
  refine va_get (D := D) (ci := 3) (v := .ref b8) (C := RX3) (T := TX3) (N := 18) hx hb hts inX3 hown hK hP 0 rfl rfl 8 (by decide) (hts _ kw_444) (fun _ h9 => h9) rfl dX3_dealByLots_59 ?_
  refine lv_iload_n hx hb dX3_dealByLots_62 rfl (lv_at hl 2 rfl) ?_
  refine lv_aload_n hx hb dX3_dealByLots_63 rfl (lv_at hl 3 rfl) ?_
  refine va_get (D := D) (ci := 3) (v := .ref b8) (C := RX3) (T := TX3) (N := 18) hx hb hts inX3 hown hK hP 0 rfl rfl 8 (by decide) (hts _ kw_444) (fun _ h9 => h9) rfl dX3_dealByLots_64 ?_
  refine lv_iload_n hx hb dX3_dealByLots_67 rfl (lv_at hl 1 rfl) ?_
  refine va_iald hx hb hK hP 4 2 rfl rfl (vp_in_nI (Nat.lt_of_lt_of_le (lotv_lt (by decide) _ _) (by decide)) (by decide)) dX3_dealByLots_68 ?_
  refine va_iast hx hb hK hP hD hS 4 2 rfl rfl (z_in (by decide)) dX3_dealByLots_69 (fun H locs hP hD hS => ?_)
  obtain ⟨f69_19, hf69_19⟩ : ∃ z, z = upd f77_18 ((14 : Int32).toNatClampNeg) (f77_18 ((nI (lotv 15 p1 14)) : Int32).toNatClampNeg) := ⟨_, rfl⟩
  rw [← hf69_19] at hP hD
  have hP : va_P D vwCl [(h0, .inr (3, [.ref a1, .ref gr1, .int gi2, .ref b3, .ref b4, .int gi5, .int gi6, .int gi7, .ref b8, .ref gr9, .ref gr10, .ref gr11, .ref gr12, .ref gr13, .ref gr14, .ref gr15, .ref gr16, .int gi17])), (a1, .inr (5, [.int li0, .int li1, .int li2, .int li3, .ref lr4, .ref lr5, .ref lr6, .ref lr7, .ref lr8, .int li9, .int 16, .int 4, .ref lr12, .ref lr13, .ref lr14, .int li15])), (b3, .inl (k3, 4, .inl f3)), (b4, .inl (k4, 4, .inl f4)), (b8, .inl (k8, 16, .inl f69_19))] H := hP
  have hD : va_D A [(h0, .inr (3, [.ref a1, .ref gr1, .int gi2, .ref b3, .ref b4, .int gi5, .int gi6, .int gi7, .ref b8, .ref gr9, .ref gr10, .ref gr11, .ref gr12, .ref gr13, .ref gr14, .ref gr15, .ref gr16, .int gi17])), (a1, .inr (5, [.int li0, .int li1, .int li2, .int li3, .ref lr4, .ref lr5, .ref lr6, .ref lr7, .ref lr8, .int li9, .int 16, .int 4, .ref lr12, .ref lr13, .ref lr14, .int li15])), (b3, .inl (k3, 4, .inl f3)), (b4, .inl (k4, 4, .inl f4)), (b8, .inl (k8, 16, .inl f69_19))] := hD
  refine lv_aload_n hx hb dX3_dealByLots_70 rfl (lv_at hl 3 rfl) ?_
  refine W.eq (g2 := F0 m 71 ls [.ref h0]) rfl ?_
  refine va_get (D := D) (ci := 3) (v := .ref b8) (C := RX3) (T := TX3) (N := 18) hx hb hts inX3 hown hK hP 0 rfl rfl 8 (by decide) (hts _ kw_444) (fun _ h9 => h9) rfl dX3_dealByLots_71 ?_
  refine lv_iload_n hx hb dX3_dealByLots_74 rfl (lv_at hl 1 rfl) ?_
  refine lv_iload hx hb dX3_dealByLots_75 (lv_at hl 0 rfl) ?_
  refine va_iast hx hb hK hP hD hS 4 2 rfl rfl (vp_in_nI (Nat.lt_of_lt_of_le (lotv_lt (by decide) _ _) (by decide)) (by decide)) dX3_dealByLots_77 (fun H locs hP hD hS => ?_)
  obtain ⟨f77_20, hf77_20⟩ : ∃ z, z = upd f69_19 (((nI (lotv 15 p1 14)) : Int32).toNatClampNeg) (f77_18 (14 : Int32).toNatClampNeg) := ⟨_, rfl⟩
  rw [← hf77_20] at hP hD
  have hP : va_P D vwCl [(h0, .inr (3, [.ref a1, .ref gr1, .int gi2, .ref b3, .ref b4, .int gi5, .int gi6, .int gi7, .ref b8, .ref gr9, .ref gr10, .ref gr11, .ref gr12, .ref gr13, .ref gr14, .ref gr15, .ref gr16, .int gi17])), (a1, .inr (5, [.int li0, .int li1, .int li2, .int li3, .ref lr4, .ref lr5, .ref lr6, .ref lr7, .ref lr8, .int li9, .int 16, .int 4, .ref lr12, .ref lr13, .ref lr14, .int li15])), (b3, .inl (k3, 4, .inl f3)), (b4, .inl (k4, 4, .inl f4)), (b8, .inl (k8, 16, .inl f77_20))] H := hP
  have hD : va_D A [(h0, .inr (3, [.ref a1, .ref gr1, .int gi2, .ref b3, .ref b4, .int gi5, .int gi6, .int gi7, .ref b8, .ref gr9, .ref gr10, .ref gr11, .ref gr12, .ref gr13, .ref gr14, .ref gr15, .ref gr16, .int gi17])), (a1, .inr (5, [.int li0, .int li1, .int li2, .int li3, .ref lr4, .ref lr5, .ref lr6, .ref lr7, .ref lr8, .int li9, .int 16, .int 4, .ref lr12, .ref lr13, .ref lr14, .int li15])), (b3, .inl (k3, 4, .inl f3)), (b4, .inl (k4, 4, .inl f4)), (b8, .inl (k8, 16, .inl f77_20))] := hD
  refine lv_iinc (v := 13) (lv' := [(2, .int 13), (4, .int (f77_18 (14 : Int32).toNatClampNeg)), (3, .int (nI (lotv 15 p1 14))), (0, .ref h0), (1, .int p1)]) hx hb dX3_dealByLots_78 hl (k := 2) rfl (by decide) (by decide) rfl (fun ls hl => ?_)
  refine lv_goto (tgt := 36) hx hb dX3_dealByLots_81 (by decide) ?_
  refine lv_iload_n hx hb dX3_dealByLots_36 rfl (lv_at hl 0 rfl) ?_
  refine lv_iconst (v := 1) hx hb dX3_dealByLots_37 (by decide) ?_
  refine lv_icmp_lt (tgt := 84) hx hb dX3_dealByLots_38 (by decide) (fun h => absurd h (by decide)) (fun _ => ?_)
  refine lv_iload_n hx hb dX3_dealByLots_41 rfl (lv_at hl 0 rfl) ?_
  refine W.eq (g2 := F0 m 42 ls [.int 13]) rfl ?_
  refine lv_iconst (v := 1) hx hb dX3_dealByLots_42 (by decide) ?_
  refine lv_iadd hx hb dX3_dealByLots_43 ?_
  refine z_i (v := 14) (by decide) ?_
  refine lv_iload_n hx hb dX3_dealByLots_44 rfl (lv_at hl 4 rfl) ?_
  refine lv_iload_n hx hb dX3_dealByLots_45 rfl (lv_at hl 0 rfl) ?_
  refine re_S (As := [.int 14, .int p1, .int 13]) (rest := []) caS_SignalTable_Game_78 hx hb hml hown hts (e_lot 14 p1 13 (by decide) (by decide)) bl_T (fun _ _ _ => trivial) (by decide) rfl hl.1 (Nat.le_of_ble_eq_true rfl) (by decide) dX3_dealByLots_46 rfl ?_
  refine lv_istore_n (lv' := [(3, .int (nI (lotv 14 p1 13))), (2, .int 13), (4, .int (f77_18 (14 : Int32).toNatClampNeg)), (0, .ref h0), (1, .int p1)]) hx hb dX3_dealByLots_49 rfl hl (by decide) rfl (fun ls hl => ?_)
  refine lv_aload_n hx hb dX3_dealByLots_50 rfl (lv_at hl 3 rfl) ?_
  refine va_get (D := D) (ci := 3) (v := .ref b8) (C := RX3) (T := TX3) (N := 18) hx hb hts inX3 hown hK hP 0 rfl rfl 8 (by decide) (hts _ kw_444) (fun _ h9 => h9) rfl dX3_dealByLots_51 ?_
  refine lv_iload_n hx hb dX3_dealByLots_54 rfl (lv_at hl 1 rfl) ?_
  refine va_iald hx hb hK hP 4 2 rfl rfl (z_in (by decide)) dX3_dealByLots_55 ?_
  refine W.eq (g2 := F0 m 56 ls [.int (f77_20 (13 : Int32).toNatClampNeg)]) rfl ?_
  refine lv_istore (lv' := [(4, .int (f77_20 (13 : Int32).toNatClampNeg)), (3, .int (nI (lotv 14 p1 13))), (2, .int 13), (0, .ref h0), (1, .int p1)]) hx hb dX3_dealByLots_56 hl (by decide) rfl (fun ls hl => ?_)
  refine lv_aload_n hx hb dX3_dealByLots_58 rfl (lv_at hl 3 rfl) ?_
  refine va_get (D := D) (ci := 3) (v := .ref b8) (C := RX3) (T := TX3) (N := 18) hx hb hts inX3 hown hK hP 0 rfl rfl 8 (by decide) (hts _ kw_444) (fun _ h9 => h9) rfl dX3_dealByLots_59 ?_
  refine lv_iload_n hx hb dX3_dealByLots_62 rfl (lv_at hl 2 rfl) ?_
  refine lv_aload_n hx hb dX3_dealByLots_63 rfl (lv_at hl 3 rfl) ?_
  refine va_get (D := D) (ci := 3) (v := .ref b8) (C := RX3) (T := TX3) (N := 18) hx hb hts inX3 hown hK hP 0 rfl rfl 8 (by decide) (hts _ kw_444) (fun _ h9 => h9) rfl dX3_dealByLots_64 ?_
  refine lv_iload_n hx hb dX3_dealByLots_67 rfl (lv_at hl 1 rfl) ?_
  refine va_iald hx hb hK hP 4 2 rfl rfl (vp_in_nI (Nat.lt_of_lt_of_le (lotv_lt (by decide) _ _) (by decide)) (by decide)) dX3_dealByLots_68 ?_
  refine va_iast hx hb hK hP hD hS 4 2 rfl rfl (z_in (by decide)) dX3_dealByLots_69 (fun H locs hP hD hS => ?_)
  obtain ⟨f69_21, hf69_21⟩ : ∃ z, z = upd f77_20 ((13 : Int32).toNatClampNeg) (f77_20 ((nI (lotv 14 p1 13)) : Int32).toNatClampNeg) := ⟨_, rfl⟩
  rw [← hf69_21] at hP hD
  have hP : va_P D vwCl [(h0, .inr (3, [.ref a1, .ref gr1, .int gi2, .ref b3, .ref b4, .int gi5, .int gi6, .int gi7, .ref b8, .ref gr9, .ref gr10, .ref gr11, .ref gr12, .ref gr13, .ref gr14, .ref gr15, .ref gr16, .int gi17])), (a1, .inr (5, [.int li0, .int li1, .int li2, .int li3, .ref lr4, .ref lr5, .ref lr6, .ref lr7, .ref lr8, .int li9, .int 16, .int 4, .ref lr12, .ref lr13, .ref lr14, .int li15])), (b3, .inl (k3, 4, .inl f3)), (b4, .inl (k4, 4, .inl f4)), (b8, .inl (k8, 16, .inl f69_21))] H := hP
  have hD : va_D A [(h0, .inr (3, [.ref a1, .ref gr1, .int gi2, .ref b3, .ref b4, .int gi5, .int gi6, .int gi7, .ref b8, .ref gr9, .ref gr10, .ref gr11, .ref gr12, .ref gr13, .ref gr14, .ref gr15, .ref gr16, .int gi17])), (a1, .inr (5, [.int li0, .int li1, .int li2, .int li3, .ref lr4, .ref lr5, .ref lr6, .ref lr7, .ref lr8, .int li9, .int 16, .int 4, .ref lr12, .ref lr13, .ref lr14, .int li15])), (b3, .inl (k3, 4, .inl f3)), (b4, .inl (k4, 4, .inl f4)), (b8, .inl (k8, 16, .inl f69_21))] := hD
  refine lv_aload_n hx hb dX3_dealByLots_70 rfl (lv_at hl 3 rfl) ?_
  refine W.eq (g2 := F0 m 71 ls [.ref h0]) rfl ?_
  refine va_get (D := D) (ci := 3) (v := .ref b8) (C := RX3) (T := TX3) (N := 18) hx hb hts inX3 hown hK hP 0 rfl rfl 8 (by decide) (hts _ kw_444) (fun _ h9 => h9) rfl dX3_dealByLots_71 ?_
  refine lv_iload_n hx hb dX3_dealByLots_74 rfl (lv_at hl 1 rfl) ?_
  refine lv_iload hx hb dX3_dealByLots_75 (lv_at hl 0 rfl) ?_
  refine va_iast hx hb hK hP hD hS 4 2 rfl rfl (vp_in_nI (Nat.lt_of_lt_of_le (lotv_lt (by decide) _ _) (by decide)) (by decide)) dX3_dealByLots_77 (fun H locs hP hD hS => ?_)
  obtain ⟨f77_22, hf77_22⟩ : ∃ z, z = upd f69_21 (((nI (lotv 14 p1 13)) : Int32).toNatClampNeg) (f77_20 (13 : Int32).toNatClampNeg) := ⟨_, rfl⟩
  rw [← hf77_22] at hP hD
  have hP : va_P D vwCl [(h0, .inr (3, [.ref a1, .ref gr1, .int gi2, .ref b3, .ref b4, .int gi5, .int gi6, .int gi7, .ref b8, .ref gr9, .ref gr10, .ref gr11, .ref gr12, .ref gr13, .ref gr14, .ref gr15, .ref gr16, .int gi17])), (a1, .inr (5, [.int li0, .int li1, .int li2, .int li3, .ref lr4, .ref lr5, .ref lr6, .ref lr7, .ref lr8, .int li9, .int 16, .int 4, .ref lr12, .ref lr13, .ref lr14, .int li15])), (b3, .inl (k3, 4, .inl f3)), (b4, .inl (k4, 4, .inl f4)), (b8, .inl (k8, 16, .inl f77_22))] H := hP
  have hD : va_D A [(h0, .inr (3, [.ref a1, .ref gr1, .int gi2, .ref b3, .ref b4, .int gi5, .int gi6, .int gi7, .ref b8, .ref gr9, .ref gr10, .ref gr11, .ref gr12, .ref gr13, .ref gr14, .ref gr15, .ref gr16, .int gi17])), (a1, .inr (5, [.int li0, .int li1, .int li2, .int li3, .ref lr4, .ref lr5, .ref lr6, .ref lr7, .ref lr8, .int li9, .int 16, .int 4, .ref lr12, .ref lr13, .ref lr14, .int li15])), (b3, .inl (k3, 4, .inl f3)), (b4, .inl (k4, 4, .inl f4)), (b8, .inl (k8, 16, .inl f77_22))] := hD
  refine lv_iinc (v := 12) (lv' := [(2, .int 12), (4, .int (f77_20 (13 : Int32).toNatClampNeg)), (3, .int (nI (lotv 14 p1 13))), (0, .ref h0), (1, .int p1)]) hx hb dX3_dealByLots_78 hl (k := 2) rfl (by decide) (by decide) rfl (fun ls hl => ?_)
  refine lv_goto (tgt := 36) hx hb dX3_dealByLots_81 (by decide) ?_
  refine lv_iload_n hx hb dX3_dealByLots_36 rfl (lv_at hl 0 rfl) ?_
  refine lv_iconst (v := 1) hx hb dX3_dealByLots_37 (by decide) ?_
  refine lv_icmp_lt (tgt := 84) hx hb dX3_dealByLots_38 (by decide) (fun h => absurd h (by decide)) (fun _ => ?_)
  refine lv_iload_n hx hb dX3_dealByLots_41 rfl (lv_at hl 0 rfl) ?_
  refine W.eq (g2 := F0 m 42 ls [.int 12]) rfl ?_
  refine lv_iconst (v := 1) hx hb dX3_dealByLots_42 (by decide) ?_
  refine lv_iadd hx hb dX3_dealByLots_43 ?_
  refine z_i (v := 13) (by decide) ?_
  refine lv_iload_n hx hb dX3_dealByLots_44 rfl (lv_at hl 4 rfl) ?_
  refine lv_iload_n hx hb dX3_dealByLots_45 rfl (lv_at hl 0 rfl) ?_
  refine re_S (As := [.int 13, .int p1, .int 12]) (rest := []) caS_SignalTable_Game_78 hx hb hml hown hts (e_lot 13 p1 12 (by decide) (by decide)) bl_T (fun _ _ _ => trivial) (by decide) rfl hl.1 (Nat.le_of_ble_eq_true rfl) (by decide) dX3_dealByLots_46 rfl ?_
  refine lv_istore_n (lv' := [(3, .int (nI (lotv 13 p1 12))), (2, .int 12), (4, .int (f77_20 (13 : Int32).toNatClampNeg)), (0, .ref h0), (1, .int p1)]) hx hb dX3_dealByLots_49 rfl hl (by decide) rfl (fun ls hl => ?_)
  refine lv_aload_n hx hb dX3_dealByLots_50 rfl (lv_at hl 3 rfl) ?_
  refine va_get (D := D) (ci := 3) (v := .ref b8) (C := RX3) (T := TX3) (N := 18) hx hb hts inX3 hown hK hP 0 rfl rfl 8 (by decide) (hts _ kw_444) (fun _ h9 => h9) rfl dX3_dealByLots_51 ?_
  refine lv_iload_n hx hb dX3_dealByLots_54 rfl (lv_at hl 1 rfl) ?_
  refine va_iald hx hb hK hP 4 2 rfl rfl (z_in (by decide)) dX3_dealByLots_55 ?_
  refine W.eq (g2 := F0 m 56 ls [.int (f77_22 (12 : Int32).toNatClampNeg)]) rfl ?_
  refine lv_istore (lv' := [(4, .int (f77_22 (12 : Int32).toNatClampNeg)), (3, .int (nI (lotv 13 p1 12))), (2, .int 12), (0, .ref h0), (1, .int p1)]) hx hb dX3_dealByLots_56 hl (by decide) rfl (fun ls hl => ?_)
  refine lv_aload_n hx hb dX3_dealByLots_58 rfl (lv_at hl 3 rfl) ?_
  refine va_get (D := D) (ci := 3) (v := .ref b8) (C := RX3) (T := TX3) (N := 18) hx hb hts inX3 hown hK hP 0 rfl rfl 8 (by decide) (hts _ kw_444) (fun _ h9 => h9) rfl dX3_dealByLots_59 ?_
  refine lv_iload_n hx hb dX3_dealByLots_62 rfl (lv_at hl 2 rfl) ?_
  refine lv_aload_n hx hb dX3_dealByLots_63 rfl (lv_at hl 3 rfl) ?_
  refine va_get (D := D) (ci := 3) (v := .ref b8) (C := RX3) (T := TX3) (N := 18) hx hb hts inX3 hown hK hP 0 rfl rfl 8 (by decide) (hts _ kw_444) (fun _ h9 => h9) rfl dX3_dealByLots_64 ?_
  refine lv_iload_n hx hb dX3_dealByLots_67 rfl (lv_at hl 1 rfl) ?_
  refine va_iald hx hb hK hP 4 2 rfl rfl (vp_in_nI (Nat.lt_of_lt_of_le (lotv_lt (by decide) _ _) (by decide)) (by decide)) dX3_dealByLots_68 ?_
  refine va_iast hx hb hK hP hD hS 4 2 rfl rfl (z_in (by decide)) dX3_dealByLots_69 (fun H locs hP hD hS => ?_)
  obtain ⟨f69_23, hf69_23⟩ : ∃ z, z = upd f77_22 ((12 : Int32).toNatClampNeg) (f77_22 ((nI (lotv 13 p1 12)) : Int32).toNatClampNeg) := ⟨_, rfl⟩
  rw [← hf69_23] at hP hD
  have hP : va_P D vwCl [(h0, .inr (3, [.ref a1, .ref gr1, .int gi2, .ref b3, .ref b4, .int gi5, .int gi6, .int gi7, .ref b8, .ref gr9, .ref gr10, .ref gr11, .ref gr12, .ref gr13, .ref gr14, .ref gr15, .ref gr16, .int gi17])), (a1, .inr (5, [.int li0, .int li1, .int li2, .int li3, .ref lr4, .ref lr5, .ref lr6, .ref lr7, .ref lr8, .int li9, .int 16, .int 4, .ref lr12, .ref lr13, .ref lr14, .int li15])), (b3, .inl (k3, 4, .inl f3)), (b4, .inl (k4, 4, .inl f4)), (b8, .inl (k8, 16, .inl f69_23))] H := hP
  have hD : va_D A [(h0, .inr (3, [.ref a1, .ref gr1, .int gi2, .ref b3, .ref b4, .int gi5, .int gi6, .int gi7, .ref b8, .ref gr9, .ref gr10, .ref gr11, .ref gr12, .ref gr13, .ref gr14, .ref gr15, .ref gr16, .int gi17])), (a1, .inr (5, [.int li0, .int li1, .int li2, .int li3, .ref lr4, .ref lr5, .ref lr6, .ref lr7, .ref lr8, .int li9, .int 16, .int 4, .ref lr12, .ref lr13, .ref lr14, .int li15])), (b3, .inl (k3, 4, .inl f3)), (b4, .inl (k4, 4, .inl f4)), (b8, .inl (k8, 16, .inl f69_23))] := hD
  refine lv_aload_n hx hb dX3_dealByLots_70 rfl (lv_at hl 3 rfl) ?_
  refine W.eq (g2 := F0 m 71 ls [.ref h0]) rfl ?_
  refine va_get (D := D) (ci := 3) (v := .ref b8) (C := RX3) (T := TX3) (N := 18) hx hb hts inX3 hown hK hP 0 rfl rfl 8 (by decide) (hts _ kw_444) (fun _ h9 => h9) rfl dX3_dealByLots_71 ?_
  refine lv_iload_n hx hb dX3_dealByLots_74 rfl (lv_at hl 1 rfl) ?_
  refine lv_iload hx hb dX3_dealByLots_75 (lv_at hl 0 rfl) ?_
  refine va_iast hx hb hK hP hD hS 4 2 rfl rfl (vp_in_nI (Nat.lt_of_lt_of_le (lotv_lt (by decide) _ _) (by decide)) (by decide)) dX3_dealByLots_77 (fun H locs hP hD hS => ?_)
  obtain ⟨f77_24, hf77_24⟩ : ∃ z, z = upd f69_23 (((nI (lotv 13 p1 12)) : Int32).toNatClampNeg) (f77_22 (12 : Int32).toNatClampNeg) := ⟨_, rfl⟩
  rw [← hf77_24] at hP hD
  have hP : va_P D vwCl [(h0, .inr (3, [.ref a1, .ref gr1, .int gi2, .ref b3, .ref b4, .int gi5, .int gi6, .int gi7, .ref b8, .ref gr9, .ref gr10, .ref gr11, .ref gr12, .ref gr13, .ref gr14, .ref gr15, .ref gr16, .int gi17])), (a1, .inr (5, [.int li0, .int li1, .int li2, .int li3, .ref lr4, .ref lr5, .ref lr6, .ref lr7, .ref lr8, .int li9, .int 16, .int 4, .ref lr12, .ref lr13, .ref lr14, .int li15])), (b3, .inl (k3, 4, .inl f3)), (b4, .inl (k4, 4, .inl f4)), (b8, .inl (k8, 16, .inl f77_24))] H := hP
  have hD : va_D A [(h0, .inr (3, [.ref a1, .ref gr1, .int gi2, .ref b3, .ref b4, .int gi5, .int gi6, .int gi7, .ref b8, .ref gr9, .ref gr10, .ref gr11, .ref gr12, .ref gr13, .ref gr14, .ref gr15, .ref gr16, .int gi17])), (a1, .inr (5, [.int li0, .int li1, .int li2, .int li3, .ref lr4, .ref lr5, .ref lr6, .ref lr7, .ref lr8, .int li9, .int 16, .int 4, .ref lr12, .ref lr13, .ref lr14, .int li15])), (b3, .inl (k3, 4, .inl f3)), (b4, .inl (k4, 4, .inl f4)), (b8, .inl (k8, 16, .inl f77_24))] := hD
  refine lv_iinc (v := 11) (lv' := [(2, .int 11), (4, .int (f77_22 (12 : Int32).toNatClampNeg)), (3, .int (nI (lotv 13 p1 12))), (0, .ref h0), (1, .int p1)]) hx hb dX3_dealByLots_78 hl (k := 2) rfl (by decide) (by decide) rfl (fun ls hl => ?_)
  refine lv_goto (tgt := 36) hx hb dX3_dealByLots_81 (by decide) ?_
  refine lv_iload_n hx hb dX3_dealByLots_36 rfl (lv_at hl 0 rfl) ?_
  refine lv_iconst (v := 1) hx hb dX3_dealByLots_37 (by decide) ?_
  refine lv_icmp_lt (tgt := 84) hx hb dX3_dealByLots_38 (by decide) (fun h => absurd h (by decide)) (fun _ => ?_)
  refine lv_iload_n hx hb dX3_dealByLots_41 rfl (lv_at hl 0 rfl) ?_
  refine W.eq (g2 := F0 m 42 ls [.int 11]) rfl ?_
  refine lv_iconst (v := 1) hx hb dX3_dealByLots_42 (by decide) ?_
  refine lv_iadd hx hb dX3_dealByLots_43 ?_
  refine z_i (v := 12) (by decide) ?_
  refine lv_iload_n hx hb dX3_dealByLots_44 rfl (lv_at hl 4 rfl) ?_
  refine lv_iload_n hx hb dX3_dealByLots_45 rfl (lv_at hl 0 rfl) ?_
  refine re_S (As := [.int 12, .int p1, .int 11]) (rest := []) caS_SignalTable_Game_78 hx hb hml hown hts (e_lot 12 p1 11 (by decide) (by decide)) bl_T (fun _ _ _ => trivial) (by decide) rfl hl.1 (Nat.le_of_ble_eq_true rfl) (by decide) dX3_dealByLots_46 rfl ?_
  refine lv_istore_n (lv' := [(3, .int (nI (lotv 12 p1 11))), (2, .int 11), (4, .int (f77_22 (12 : Int32).toNatClampNeg)), (0, .ref h0), (1, .int p1)]) hx hb dX3_dealByLots_49 rfl hl (by decide) rfl (fun ls hl => ?_)
  refine lv_aload_n hx hb dX3_dealByLots_50 rfl (lv_at hl 3 rfl) ?_
  refine va_get (D := D) (ci := 3) (v := .ref b8) (C := RX3) (T := TX3) (N := 18) hx hb hts inX3 hown hK hP 0 rfl rfl 8 (by decide) (hts _ kw_444) (fun _ h9 => h9) rfl dX3_dealByLots_51 ?_
  refine lv_iload_n hx hb dX3_dealByLots_54 rfl (lv_at hl 1 rfl) ?_
  refine va_iald hx hb hK hP 4 2 rfl rfl (z_in (by decide)) dX3_dealByLots_55 ?_
  refine W.eq (g2 := F0 m 56 ls [.int (f77_24 (11 : Int32).toNatClampNeg)]) rfl ?_
  refine lv_istore (lv' := [(4, .int (f77_24 (11 : Int32).toNatClampNeg)), (3, .int (nI (lotv 12 p1 11))), (2, .int 11), (0, .ref h0), (1, .int p1)]) hx hb dX3_dealByLots_56 hl (by decide) rfl (fun ls hl => ?_)
  refine lv_aload_n hx hb dX3_dealByLots_58 rfl (lv_at hl 3 rfl) ?_
  refine va_get (D := D) (ci := 3) (v := .ref b8) (C := RX3) (T := TX3) (N := 18) hx hb hts inX3 hown hK hP 0 rfl rfl 8 (by decide) (hts _ kw_444) (fun _ h9 => h9) rfl dX3_dealByLots_59 ?_
  refine lv_iload_n hx hb dX3_dealByLots_62 rfl (lv_at hl 2 rfl) ?_
  refine lv_aload_n hx hb dX3_dealByLots_63 rfl (lv_at hl 3 rfl) ?_
  refine va_get (D := D) (ci := 3) (v := .ref b8) (C := RX3) (T := TX3) (N := 18) hx hb hts inX3 hown hK hP 0 rfl rfl 8 (by decide) (hts _ kw_444) (fun _ h9 => h9) rfl dX3_dealByLots_64 ?_
  refine lv_iload_n hx hb dX3_dealByLots_67 rfl (lv_at hl 1 rfl) ?_
  refine va_iald hx hb hK hP 4 2 rfl rfl (vp_in_nI (Nat.lt_of_lt_of_le (lotv_lt (by decide) _ _) (by decide)) (by decide)) dX3_dealByLots_68 ?_
  refine va_iast hx hb hK hP hD hS 4 2 rfl rfl (z_in (by decide)) dX3_dealByLots_69 (fun H locs hP hD hS => ?_)
  obtain ⟨f69_25, hf69_25⟩ : ∃ z, z = upd f77_24 ((11 : Int32).toNatClampNeg) (f77_24 ((nI (lotv 12 p1 11)) : Int32).toNatClampNeg) := ⟨_, rfl⟩
  rw [← hf69_25] at hP hD
  have hP : va_P D vwCl [(h0, .inr (3, [.ref a1, .ref gr1, .int gi2, .ref b3, .ref b4, .int gi5, .int gi6, .int gi7, .ref b8, .ref gr9, .ref gr10, .ref gr11, .ref gr12, .ref gr13, .ref gr14, .ref gr15, .ref gr16, .int gi17])), (a1, .inr (5, [.int li0, .int li1, .int li2, .int li3, .ref lr4, .ref lr5, .ref lr6, .ref lr7, .ref lr8, .int li9, .int 16, .int 4, .ref lr12, .ref lr13, .ref lr14, .int li15])), (b3, .inl (k3, 4, .inl f3)), (b4, .inl (k4, 4, .inl f4)), (b8, .inl (k8, 16, .inl f69_25))] H := hP
  have hD : va_D A [(h0, .inr (3, [.ref a1, .ref gr1, .int gi2, .ref b3, .ref b4, .int gi5, .int gi6, .int gi7, .ref b8, .ref gr9, .ref gr10, .ref gr11, .ref gr12, .ref gr13, .ref gr14, .ref gr15, .ref gr16, .int gi17])), (a1, .inr (5, [.int li0, .int li1, .int li2, .int li3, .ref lr4, .ref lr5, .ref lr6, .ref lr7, .ref lr8, .int li9, .int 16, .int 4, .ref lr12, .ref lr13, .ref lr14, .int li15])), (b3, .inl (k3, 4, .inl f3)), (b4, .inl (k4, 4, .inl f4)), (b8, .inl (k8, 16, .inl f69_25))] := hD
  refine lv_aload_n hx hb dX3_dealByLots_70 rfl (lv_at hl 3 rfl) ?_
  refine W.eq (g2 := F0 m 71 ls [.ref h0]) rfl ?_
  refine va_get (D := D) (ci := 3) (v := .ref b8) (C := RX3) (T := TX3) (N := 18) hx hb hts inX3 hown hK hP 0 rfl rfl 8 (by decide) (hts _ kw_444) (fun _ h9 => h9) rfl dX3_dealByLots_71 ?_
  refine lv_iload_n hx hb dX3_dealByLots_74 rfl (lv_at hl 1 rfl) ?_
  refine lv_iload hx hb dX3_dealByLots_75 (lv_at hl 0 rfl) ?_
  refine va_iast hx hb hK hP hD hS 4 2 rfl rfl (vp_in_nI (Nat.lt_of_lt_of_le (lotv_lt (by decide) _ _) (by decide)) (by decide)) dX3_dealByLots_77 (fun H locs hP hD hS => ?_)
  obtain ⟨f77_26, hf77_26⟩ : ∃ z, z = upd f69_25 (((nI (lotv 12 p1 11)) : Int32).toNatClampNeg) (f77_24 (11 : Int32).toNatClampNeg) := ⟨_, rfl⟩
  rw [← hf77_26] at hP hD
  have hP : va_P D vwCl [(h0, .inr (3, [.ref a1, .ref gr1, .int gi2, .ref b3, .ref b4, .int gi5, .int gi6, .int gi7, .ref b8, .ref gr9, .ref gr10, .ref gr11, .ref gr12, .ref gr13, .ref gr14, .ref gr15, .ref gr16, .int gi17])), (a1, .inr (5, [.int li0, .int li1, .int li2, .int li3, .ref lr4, .ref lr5, .ref lr6, .ref lr7, .ref lr8, .int li9, .int 16, .int 4, .ref lr12, .ref lr13, .ref lr14, .int li15])), (b3, .inl (k3, 4, .inl f3)), (b4, .inl (k4, 4, .inl f4)), (b8, .inl (k8, 16, .inl f77_26))] H := hP
  have hD : va_D A [(h0, .inr (3, [.ref a1, .ref gr1, .int gi2, .ref b3, .ref b4, .int gi5, .int gi6, .int gi7, .ref b8, .ref gr9, .ref gr10, .ref gr11, .ref gr12, .ref gr13, .ref gr14, .ref gr15, .ref gr16, .int gi17])), (a1, .inr (5, [.int li0, .int li1, .int li2, .int li3, .ref lr4, .ref lr5, .ref lr6, .ref lr7, .ref lr8, .int li9, .int 16, .int 4, .ref lr12, .ref lr13, .ref lr14, .int li15])), (b3, .inl (k3, 4, .inl f3)), (b4, .inl (k4, 4, .inl f4)), (b8, .inl (k8, 16, .inl f77_26))] := hD
  refine lv_iinc (v := 10) (lv' := [(2, .int 10), (4, .int (f77_24 (11 : Int32).toNatClampNeg)), (3, .int (nI (lotv 12 p1 11))), (0, .ref h0), (1, .int p1)]) hx hb dX3_dealByLots_78 hl (k := 2) rfl (by decide) (by decide) rfl (fun ls hl => ?_)
  refine lv_goto (tgt := 36) hx hb dX3_dealByLots_81 (by decide) ?_
  refine lv_iload_n hx hb dX3_dealByLots_36 rfl (lv_at hl 0 rfl) ?_
  refine lv_iconst (v := 1) hx hb dX3_dealByLots_37 (by decide) ?_
  refine lv_icmp_lt (tgt := 84) hx hb dX3_dealByLots_38 (by decide) (fun h => absurd h (by decide)) (fun _ => ?_)
  refine lv_iload_n hx hb dX3_dealByLots_41 rfl (lv_at hl 0 rfl) ?_
  refine W.eq (g2 := F0 m 42 ls [.int 10]) rfl ?_
  refine lv_iconst (v := 1) hx hb dX3_dealByLots_42 (by decide) ?_
  refine lv_iadd hx hb dX3_dealByLots_43 ?_
  refine z_i (v := 11) (by decide) ?_
  refine lv_iload_n hx hb dX3_dealByLots_44 rfl (lv_at hl 4 rfl) ?_
  refine lv_iload_n hx hb dX3_dealByLots_45 rfl (lv_at hl 0 rfl) ?_
  refine re_S (As := [.int 11, .int p1, .int 10]) (rest := []) caS_SignalTable_Game_78 hx hb hml hown hts (e_lot 11 p1 10 (by decide) (by decide)) bl_T (fun _ _ _ => trivial) (by decide) rfl hl.1 (Nat.le_of_ble_eq_true rfl) (by decide) dX3_dealByLots_46 rfl ?_
  refine lv_istore_n (lv' := [(3, .int (nI (lotv 11 p1 10))), (2, .int 10), (4, .int (f77_24 (11 : Int32).toNatClampNeg)), (0, .ref h0), (1, .int p1)]) hx hb dX3_dealByLots_49 rfl hl (by decide) rfl (fun ls hl => ?_)
  refine lv_aload_n hx hb dX3_dealByLots_50 rfl (lv_at hl 3 rfl) ?_
  refine va_get (D := D) (ci := 3) (v := .ref b8) (C := RX3) (T := TX3) (N := 18) hx hb hts inX3 hown hK hP 0 rfl rfl 8 (by decide) (hts _ kw_444) (fun _ h9 => h9) rfl dX3_dealByLots_51 ?_
  refine lv_iload_n hx hb dX3_dealByLots_54 rfl (lv_at hl 1 rfl) ?_
  refine va_iald hx hb hK hP 4 2 rfl rfl (z_in (by decide)) dX3_dealByLots_55 ?_
  refine W.eq (g2 := F0 m 56 ls [.int (f77_26 (10 : Int32).toNatClampNeg)]) rfl ?_
  refine lv_istore (lv' := [(4, .int (f77_26 (10 : Int32).toNatClampNeg)), (3, .int (nI (lotv 11 p1 10))), (2, .int 10), (0, .ref h0), (1, .int p1)]) hx hb dX3_dealByLots_56 hl (by decide) rfl (fun ls hl => ?_)
  refine lv_aload_n hx hb dX3_dealByLots_58 rfl (lv_at hl 3 rfl) ?_
  refine va_get (D := D) (ci := 3) (v := .ref b8) (C := RX3) (T := TX3) (N := 18) hx hb hts inX3 hown hK hP 0 rfl rfl 8 (by decide) (hts _ kw_444) (fun _ h9 => h9) rfl dX3_dealByLots_59 ?_
  refine lv_iload_n hx hb dX3_dealByLots_62 rfl (lv_at hl 2 rfl) ?_
  refine lv_aload_n hx hb dX3_dealByLots_63 rfl (lv_at hl 3 rfl) ?_
  refine va_get (D := D) (ci := 3) (v := .ref b8) (C := RX3) (T := TX3) (N := 18) hx hb hts inX3 hown hK hP 0 rfl rfl 8 (by decide) (hts _ kw_444) (fun _ h9 => h9) rfl dX3_dealByLots_64 ?_
  refine lv_iload_n hx hb dX3_dealByLots_67 rfl (lv_at hl 1 rfl) ?_
  refine va_iald hx hb hK hP 4 2 rfl rfl (vp_in_nI (Nat.lt_of_lt_of_le (lotv_lt (by decide) _ _) (by decide)) (by decide)) dX3_dealByLots_68 ?_
  refine va_iast hx hb hK hP hD hS 4 2 rfl rfl (z_in (by decide)) dX3_dealByLots_69 (fun H locs hP hD hS => ?_)
  obtain ⟨f69_27, hf69_27⟩ : ∃ z, z = upd f77_26 ((10 : Int32).toNatClampNeg) (f77_26 ((nI (lotv 11 p1 10)) : Int32).toNatClampNeg) := ⟨_, rfl⟩
  rw [← hf69_27] at hP hD
  have hP : va_P D vwCl [(h0, .inr (3, [.ref a1, .ref gr1, .int gi2, .ref b3, .ref b4, .int gi5, .int gi6, .int gi7, .ref b8, .ref gr9, .ref gr10, .ref gr11, .ref gr12, .ref gr13, .ref gr14, .ref gr15, .ref gr16, .int gi17])), (a1, .inr (5, [.int li0, .int li1, .int li2, .int li3, .ref lr4, .ref lr5, .ref lr6, .ref lr7, .ref lr8, .int li9, .int 16, .int 4, .ref lr12, .ref lr13, .ref lr14, .int li15])), (b3, .inl (k3, 4, .inl f3)), (b4, .inl (k4, 4, .inl f4)), (b8, .inl (k8, 16, .inl f69_27))] H := hP
  have hD : va_D A [(h0, .inr (3, [.ref a1, .ref gr1, .int gi2, .ref b3, .ref b4, .int gi5, .int gi6, .int gi7, .ref b8, .ref gr9, .ref gr10, .ref gr11, .ref gr12, .ref gr13, .ref gr14, .ref gr15, .ref gr16, .int gi17])), (a1, .inr (5, [.int li0, .int li1, .int li2, .int li3, .ref lr4, .ref lr5, .ref lr6, .ref lr7, .ref lr8, .int li9, .int 16, .int 4, .ref lr12, .ref lr13, .ref lr14, .int li15])), (b3, .inl (k3, 4, .inl f3)), (b4, .inl (k4, 4, .inl f4)), (b8, .inl (k8, 16, .inl f69_27))] := hD
  refine lv_aload_n hx hb dX3_dealByLots_70 rfl (lv_at hl 3 rfl) ?_
  refine W.eq (g2 := F0 m 71 ls [.ref h0]) rfl ?_
  refine va_get (D := D) (ci := 3) (v := .ref b8) (C := RX3) (T := TX3) (N := 18) hx hb hts inX3 hown hK hP 0 rfl rfl 8 (by decide) (hts _ kw_444) (fun _ h9 => h9) rfl dX3_dealByLots_71 ?_
  refine lv_iload_n hx hb dX3_dealByLots_74 rfl (lv_at hl 1 rfl) ?_
  refine lv_iload hx hb dX3_dealByLots_75 (lv_at hl 0 rfl) ?_
  refine va_iast hx hb hK hP hD hS 4 2 rfl rfl (vp_in_nI (Nat.lt_of_lt_of_le (lotv_lt (by decide) _ _) (by decide)) (by decide)) dX3_dealByLots_77 (fun H locs hP hD hS => ?_)
  obtain ⟨f77_28, hf77_28⟩ : ∃ z, z = upd f69_27 (((nI (lotv 11 p1 10)) : Int32).toNatClampNeg) (f77_26 (10 : Int32).toNatClampNeg) := ⟨_, rfl⟩
  rw [← hf77_28] at hP hD
  have hP : va_P D vwCl [(h0, .inr (3, [.ref a1, .ref gr1, .int gi2, .ref b3, .ref b4, .int gi5, .int gi6, .int gi7, .ref b8, .ref gr9, .ref gr10, .ref gr11, .ref gr12, .ref gr13, .ref gr14, .ref gr15, .ref gr16, .int gi17])), (a1, .inr (5, [.int li0, .int li1, .int li2, .int li3, .ref lr4, .ref lr5, .ref lr6, .ref lr7, .ref lr8, .int li9, .int 16, .int 4, .ref lr12, .ref lr13, .ref lr14, .int li15])), (b3, .inl (k3, 4, .inl f3)), (b4, .inl (k4, 4, .inl f4)), (b8, .inl (k8, 16, .inl f77_28))] H := hP
  have hD : va_D A [(h0, .inr (3, [.ref a1, .ref gr1, .int gi2, .ref b3, .ref b4, .int gi5, .int gi6, .int gi7, .ref b8, .ref gr9, .ref gr10, .ref gr11, .ref gr12, .ref gr13, .ref gr14, .ref gr15, .ref gr16, .int gi17])), (a1, .inr (5, [.int li0, .int li1, .int li2, .int li3, .ref lr4, .ref lr5, .ref lr6, .ref lr7, .ref lr8, .int li9, .int 16, .int 4, .ref lr12, .ref lr13, .ref lr14, .int li15])), (b3, .inl (k3, 4, .inl f3)), (b4, .inl (k4, 4, .inl f4)), (b8, .inl (k8, 16, .inl f77_28))] := hD
  refine lv_iinc (v := 9) (lv' := [(2, .int 9), (4, .int (f77_26 (10 : Int32).toNatClampNeg)), (3, .int (nI (lotv 11 p1 10))), (0, .ref h0), (1, .int p1)]) hx hb dX3_dealByLots_78 hl (k := 2) rfl (by decide) (by decide) rfl (fun ls hl => ?_)
  refine lv_goto (tgt := 36) hx hb dX3_dealByLots_81 (by decide) ?_
  refine lv_iload_n hx hb dX3_dealByLots_36 rfl (lv_at hl 0 rfl) ?_
  refine lv_iconst (v := 1) hx hb dX3_dealByLots_37 (by decide) ?_
  refine lv_icmp_lt (tgt := 84) hx hb dX3_dealByLots_38 (by decide) (fun h => absurd h (by decide)) (fun _ => ?_)
  refine lv_iload_n hx hb dX3_dealByLots_41 rfl (lv_at hl 0 rfl) ?_
  refine W.eq (g2 := F0 m 42 ls [.int 9]) rfl ?_
  refine lv_iconst (v := 1) hx hb dX3_dealByLots_42 (by decide) ?_
  refine lv_iadd hx hb dX3_dealByLots_43 ?_
  refine z_i (v := 10) (by decide) ?_
  refine lv_iload_n hx hb dX3_dealByLots_44 rfl (lv_at hl 4 rfl) ?_
  refine lv_iload_n hx hb dX3_dealByLots_45 rfl (lv_at hl 0 rfl) ?_
  refine re_S (As := [.int 10, .int p1, .int 9]) (rest := []) caS_SignalTable_Game_78 hx hb hml hown hts (e_lot 10 p1 9 (by decide) (by decide)) bl_T (fun _ _ _ => trivial) (by decide) rfl hl.1 (Nat.le_of_ble_eq_true rfl) (by decide) dX3_dealByLots_46 rfl ?_
  refine lv_istore_n (lv' := [(3, .int (nI (lotv 10 p1 9))), (2, .int 9), (4, .int (f77_26 (10 : Int32).toNatClampNeg)), (0, .ref h0), (1, .int p1)]) hx hb dX3_dealByLots_49 rfl hl (by decide) rfl (fun ls hl => ?_)
  refine lv_aload_n hx hb dX3_dealByLots_50 rfl (lv_at hl 3 rfl) ?_
  refine va_get (D := D) (ci := 3) (v := .ref b8) (C := RX3) (T := TX3) (N := 18) hx hb hts inX3 hown hK hP 0 rfl rfl 8 (by decide) (hts _ kw_444) (fun _ h9 => h9) rfl dX3_dealByLots_51 ?_
  refine lv_iload_n hx hb dX3_dealByLots_54 rfl (lv_at hl 1 rfl) ?_
  refine va_iald hx hb hK hP 4 2 rfl rfl (z_in (by decide)) dX3_dealByLots_55 ?_
  refine W.eq (g2 := F0 m 56 ls [.int (f77_28 (9 : Int32).toNatClampNeg)]) rfl ?_
  refine lv_istore (lv' := [(4, .int (f77_28 (9 : Int32).toNatClampNeg)), (3, .int (nI (lotv 10 p1 9))), (2, .int 9), (0, .ref h0), (1, .int p1)]) hx hb dX3_dealByLots_56 hl (by decide) rfl (fun ls hl => ?_)
  refine lv_aload_n hx hb dX3_dealByLots_58 rfl (lv_at hl 3 rfl) ?_
  refine va_get (D := D) (ci := 3) (v := .ref b8) (C := RX3) (T := TX3) (N := 18) hx hb hts inX3 hown hK hP 0 rfl rfl 8 (by decide) (hts _ kw_444) (fun _ h9 => h9) rfl dX3_dealByLots_59 ?_
  refine lv_iload_n hx hb dX3_dealByLots_62 rfl (lv_at hl 2 rfl) ?_
  refine lv_aload_n hx hb dX3_dealByLots_63 rfl (lv_at hl 3 rfl) ?_
  refine va_get (D := D) (ci := 3) (v := .ref b8) (C := RX3) (T := TX3) (N := 18) hx hb hts inX3 hown hK hP 0 rfl rfl 8 (by decide) (hts _ kw_444) (fun _ h9 => h9) rfl dX3_dealByLots_64 ?_
  refine lv_iload_n hx hb dX3_dealByLots_67 rfl (lv_at hl 1 rfl) ?_
  refine va_iald hx hb hK hP 4 2 rfl rfl (vp_in_nI (Nat.lt_of_lt_of_le (lotv_lt (by decide) _ _) (by decide)) (by decide)) dX3_dealByLots_68 ?_
  refine va_iast hx hb hK hP hD hS 4 2 rfl rfl (z_in (by decide)) dX3_dealByLots_69 (fun H locs hP hD hS => ?_)
  obtain ⟨f69_29, hf69_29⟩ : ∃ z, z = upd f77_28 ((9 : Int32).toNatClampNeg) (f77_28 ((nI (lotv 10 p1 9)) : Int32).toNatClampNeg) := ⟨_, rfl⟩
  rw [← hf69_29] at hP hD
  have hP : va_P D vwCl [(h0, .inr (3, [.ref a1, .ref gr1, .int gi2, .ref b3, .ref b4, .int gi5, .int gi6, .int gi7, .ref b8, .ref gr9, .ref gr10, .ref gr11, .ref gr12, .ref gr13, .ref gr14, .ref gr15, .ref gr16, .int gi17])), (a1, .inr (5, [.int li0, .int li1, .int li2, .int li3, .ref lr4, .ref lr5, .ref lr6, .ref lr7, .ref lr8, .int li9, .int 16, .int 4, .ref lr12, .ref lr13, .ref lr14, .int li15])), (b3, .inl (k3, 4, .inl f3)), (b4, .inl (k4, 4, .inl f4)), (b8, .inl (k8, 16, .inl f69_29))] H := hP
  have hD : va_D A [(h0, .inr (3, [.ref a1, .ref gr1, .int gi2, .ref b3, .ref b4, .int gi5, .int gi6, .int gi7, .ref b8, .ref gr9, .ref gr10, .ref gr11, .ref gr12, .ref gr13, .ref gr14, .ref gr15, .ref gr16, .int gi17])), (a1, .inr (5, [.int li0, .int li1, .int li2, .int li3, .ref lr4, .ref lr5, .ref lr6, .ref lr7, .ref lr8, .int li9, .int 16, .int 4, .ref lr12, .ref lr13, .ref lr14, .int li15])), (b3, .inl (k3, 4, .inl f3)), (b4, .inl (k4, 4, .inl f4)), (b8, .inl (k8, 16, .inl f69_29))] := hD
  refine lv_aload_n hx hb dX3_dealByLots_70 rfl (lv_at hl 3 rfl) ?_
  refine W.eq (g2 := F0 m 71 ls [.ref h0]) rfl ?_
  refine va_get (D := D) (ci := 3) (v := .ref b8) (C := RX3) (T := TX3) (N := 18) hx hb hts inX3 hown hK hP 0 rfl rfl 8 (by decide) (hts _ kw_444) (fun _ h9 => h9) rfl dX3_dealByLots_71 ?_
  refine lv_iload_n hx hb dX3_dealByLots_74 rfl (lv_at hl 1 rfl) ?_
  refine lv_iload hx hb dX3_dealByLots_75 (lv_at hl 0 rfl) ?_
  refine va_iast hx hb hK hP hD hS 4 2 rfl rfl (vp_in_nI (Nat.lt_of_lt_of_le (lotv_lt (by decide) _ _) (by decide)) (by decide)) dX3_dealByLots_77 (fun H locs hP hD hS => ?_)
  obtain ⟨f77_30, hf77_30⟩ : ∃ z, z = upd f69_29 (((nI (lotv 10 p1 9)) : Int32).toNatClampNeg) (f77_28 (9 : Int32).toNatClampNeg) := ⟨_, rfl⟩
  rw [← hf77_30] at hP hD
  have hP : va_P D vwCl [(h0, .inr (3, [.ref a1, .ref gr1, .int gi2, .ref b3, .ref b4, .int gi5, .int gi6, .int gi7, .ref b8, .ref gr9, .ref gr10, .ref gr11, .ref gr12, .ref gr13, .ref gr14, .ref gr15, .ref gr16, .int gi17])), (a1, .inr (5, [.int li0, .int li1, .int li2, .int li3, .ref lr4, .ref lr5, .ref lr6, .ref lr7, .ref lr8, .int li9, .int 16, .int 4, .ref lr12, .ref lr13, .ref lr14, .int li15])), (b3, .inl (k3, 4, .inl f3)), (b4, .inl (k4, 4, .inl f4)), (b8, .inl (k8, 16, .inl f77_30))] H := hP
  have hD : va_D A [(h0, .inr (3, [.ref a1, .ref gr1, .int gi2, .ref b3, .ref b4, .int gi5, .int gi6, .int gi7, .ref b8, .ref gr9, .ref gr10, .ref gr11, .ref gr12, .ref gr13, .ref gr14, .ref gr15, .ref gr16, .int gi17])), (a1, .inr (5, [.int li0, .int li1, .int li2, .int li3, .ref lr4, .ref lr5, .ref lr6, .ref lr7, .ref lr8, .int li9, .int 16, .int 4, .ref lr12, .ref lr13, .ref lr14, .int li15])), (b3, .inl (k3, 4, .inl f3)), (b4, .inl (k4, 4, .inl f4)), (b8, .inl (k8, 16, .inl f77_30))] := hD
  refine lv_iinc (v := 8) (lv' := [(2, .int 8), (4, .int (f77_28 (9 : Int32).toNatClampNeg)), (3, .int (nI (lotv 10 p1 9))), (0, .ref h0), (1, .int p1)]) hx hb dX3_dealByLots_78 hl (k := 2) rfl (by decide) (by decide) rfl (fun ls hl => ?_)
  refine lv_goto (tgt := 36) hx hb dX3_dealByLots_81 (by decide) ?_
  refine lv_iload_n hx hb dX3_dealByLots_36 rfl (lv_at hl 0 rfl) ?_
  refine lv_iconst (v := 1) hx hb dX3_dealByLots_37 (by decide) ?_
  refine lv_icmp_lt (tgt := 84) hx hb dX3_dealByLots_38 (by decide) (fun h => absurd h (by decide)) (fun _ => ?_)
  refine lv_iload_n hx hb dX3_dealByLots_41 rfl (lv_at hl 0 rfl) ?_
  refine W.eq (g2 := F0 m 42 ls [.int 8]) rfl ?_
  refine lv_iconst (v := 1) hx hb dX3_dealByLots_42 (by decide) ?_
  refine lv_iadd hx hb dX3_dealByLots_43 ?_
  refine z_i (v := 9) (by decide) ?_
  refine lv_iload_n hx hb dX3_dealByLots_44 rfl (lv_at hl 4 rfl) ?_
  refine lv_iload_n hx hb dX3_dealByLots_45 rfl (lv_at hl 0 rfl) ?_
  refine re_S (As := [.int 9, .int p1, .int 8]) (rest := []) caS_SignalTable_Game_78 hx hb hml hown hts (e_lot 9 p1 8 (by decide) (by decide)) bl_T (fun _ _ _ => trivial) (by decide) rfl hl.1 (Nat.le_of_ble_eq_true rfl) (by decide) dX3_dealByLots_46 rfl ?_
  refine lv_istore_n (lv' := [(3, .int (nI (lotv 9 p1 8))), (2, .int 8), (4, .int (f77_28 (9 : Int32).toNatClampNeg)), (0, .ref h0), (1, .int p1)]) hx hb dX3_dealByLots_49 rfl hl (by decide) rfl (fun ls hl => ?_)
  refine lv_aload_n hx hb dX3_dealByLots_50 rfl (lv_at hl 3 rfl) ?_
  refine va_get (D := D) (ci := 3) (v := .ref b8) (C := RX3) (T := TX3) (N := 18) hx hb hts inX3 hown hK hP 0 rfl rfl 8 (by decide) (hts _ kw_444) (fun _ h9 => h9) rfl dX3_dealByLots_51 ?_
  refine lv_iload_n hx hb dX3_dealByLots_54 rfl (lv_at hl 1 rfl) ?_
  refine va_iald hx hb hK hP 4 2 rfl rfl (z_in (by decide)) dX3_dealByLots_55 ?_
  refine W.eq (g2 := F0 m 56 ls [.int (f77_30 (8 : Int32).toNatClampNeg)]) rfl ?_
  refine lv_istore (lv' := [(4, .int (f77_30 (8 : Int32).toNatClampNeg)), (3, .int (nI (lotv 9 p1 8))), (2, .int 8), (0, .ref h0), (1, .int p1)]) hx hb dX3_dealByLots_56 hl (by decide) rfl (fun ls hl => ?_)
  refine lv_aload_n hx hb dX3_dealByLots_58 rfl (lv_at hl 3 rfl) ?_
  refine va_get (D := D) (ci := 3) (v := .ref b8) (C := RX3) (T := TX3) (N := 18) hx hb hts inX3 hown hK hP 0 rfl rfl 8 (by decide) (hts _ kw_444) (fun _ h9 => h9) rfl dX3_dealByLots_59 ?_
  refine lv_iload_n hx hb dX3_dealByLots_62 rfl (lv_at hl 2 rfl) ?_
  refine lv_aload_n hx hb dX3_dealByLots_63 rfl (lv_at hl 3 rfl) ?_
  refine va_get (D := D) (ci := 3) (v := .ref b8) (C := RX3) (T := TX3) (N := 18) hx hb hts inX3 hown hK hP 0 rfl rfl 8 (by decide) (hts _ kw_444) (fun _ h9 => h9) rfl dX3_dealByLots_64 ?_
  refine lv_iload_n hx hb dX3_dealByLots_67 rfl (lv_at hl 1 rfl) ?_
  refine va_iald hx hb hK hP 4 2 rfl rfl (vp_in_nI (Nat.lt_of_lt_of_le (lotv_lt (by decide) _ _) (by decide)) (by decide)) dX3_dealByLots_68 ?_
  refine va_iast hx hb hK hP hD hS 4 2 rfl rfl (z_in (by decide)) dX3_dealByLots_69 (fun H locs hP hD hS => ?_)
  obtain ⟨f69_31, hf69_31⟩ : ∃ z, z = upd f77_30 ((8 : Int32).toNatClampNeg) (f77_30 ((nI (lotv 9 p1 8)) : Int32).toNatClampNeg) := ⟨_, rfl⟩
  rw [← hf69_31] at hP hD
  have hP : va_P D vwCl [(h0, .inr (3, [.ref a1, .ref gr1, .int gi2, .ref b3, .ref b4, .int gi5, .int gi6, .int gi7, .ref b8, .ref gr9, .ref gr10, .ref gr11, .ref gr12, .ref gr13, .ref gr14, .ref gr15, .ref gr16, .int gi17])), (a1, .inr (5, [.int li0, .int li1, .int li2, .int li3, .ref lr4, .ref lr5, .ref lr6, .ref lr7, .ref lr8, .int li9, .int 16, .int 4, .ref lr12, .ref lr13, .ref lr14, .int li15])), (b3, .inl (k3, 4, .inl f3)), (b4, .inl (k4, 4, .inl f4)), (b8, .inl (k8, 16, .inl f69_31))] H := hP
  have hD : va_D A [(h0, .inr (3, [.ref a1, .ref gr1, .int gi2, .ref b3, .ref b4, .int gi5, .int gi6, .int gi7, .ref b8, .ref gr9, .ref gr10, .ref gr11, .ref gr12, .ref gr13, .ref gr14, .ref gr15, .ref gr16, .int gi17])), (a1, .inr (5, [.int li0, .int li1, .int li2, .int li3, .ref lr4, .ref lr5, .ref lr6, .ref lr7, .ref lr8, .int li9, .int 16, .int 4, .ref lr12, .ref lr13, .ref lr14, .int li15])), (b3, .inl (k3, 4, .inl f3)), (b4, .inl (k4, 4, .inl f4)), (b8, .inl (k8, 16, .inl f69_31))] := hD
  refine lv_aload_n hx hb dX3_dealByLots_70 rfl (lv_at hl 3 rfl) ?_
  refine W.eq (g2 := F0 m 71 ls [.ref h0]) rfl ?_
  refine va_get (D := D) (ci := 3) (v := .ref b8) (C := RX3) (T := TX3) (N := 18) hx hb hts inX3 hown hK hP 0 rfl rfl 8 (by decide) (hts _ kw_444) (fun _ h9 => h9) rfl dX3_dealByLots_71 ?_
  refine lv_iload_n hx hb dX3_dealByLots_74 rfl (lv_at hl 1 rfl) ?_
  refine lv_iload hx hb dX3_dealByLots_75 (lv_at hl 0 rfl) ?_
  refine va_iast hx hb hK hP hD hS 4 2 rfl rfl (vp_in_nI (Nat.lt_of_lt_of_le (lotv_lt (by decide) _ _) (by decide)) (by decide)) dX3_dealByLots_77 (fun H locs hP hD hS => ?_)
  obtain ⟨f77_32, hf77_32⟩ : ∃ z, z = upd f69_31 (((nI (lotv 9 p1 8)) : Int32).toNatClampNeg) (f77_30 (8 : Int32).toNatClampNeg) := ⟨_, rfl⟩
  rw [← hf77_32] at hP hD
  have hP : va_P D vwCl [(h0, .inr (3, [.ref a1, .ref gr1, .int gi2, .ref b3, .ref b4, .int gi5, .int gi6, .int gi7, .ref b8, .ref gr9, .ref gr10, .ref gr11, .ref gr12, .ref gr13, .ref gr14, .ref gr15, .ref gr16, .int gi17])), (a1, .inr (5, [.int li0, .int li1, .int li2, .int li3, .ref lr4, .ref lr5, .ref lr6, .ref lr7, .ref lr8, .int li9, .int 16, .int 4, .ref lr12, .ref lr13, .ref lr14, .int li15])), (b3, .inl (k3, 4, .inl f3)), (b4, .inl (k4, 4, .inl f4)), (b8, .inl (k8, 16, .inl f77_32))] H := hP
  have hD : va_D A [(h0, .inr (3, [.ref a1, .ref gr1, .int gi2, .ref b3, .ref b4, .int gi5, .int gi6, .int gi7, .ref b8, .ref gr9, .ref gr10, .ref gr11, .ref gr12, .ref gr13, .ref gr14, .ref gr15, .ref gr16, .int gi17])), (a1, .inr (5, [.int li0, .int li1, .int li2, .int li3, .ref lr4, .ref lr5, .ref lr6, .ref lr7, .ref lr8, .int li9, .int 16, .int 4, .ref lr12, .ref lr13, .ref lr14, .int li15])), (b3, .inl (k3, 4, .inl f3)), (b4, .inl (k4, 4, .inl f4)), (b8, .inl (k8, 16, .inl f77_32))] := hD
  refine lv_iinc (v := 7) (lv' := [(2, .int 7), (4, .int (f77_30 (8 : Int32).toNatClampNeg)), (3, .int (nI (lotv 9 p1 8))), (0, .ref h0), (1, .int p1)]) hx hb dX3_dealByLots_78 hl (k := 2) rfl (by decide) (by decide) rfl (fun ls hl => ?_)
  refine lv_goto (tgt := 36) hx hb dX3_dealByLots_81 (by decide) ?_
  refine lv_iload_n hx hb dX3_dealByLots_36 rfl (lv_at hl 0 rfl) ?_
  refine lv_iconst (v := 1) hx hb dX3_dealByLots_37 (by decide) ?_
  refine lv_icmp_lt (tgt := 84) hx hb dX3_dealByLots_38 (by decide) (fun h => absurd h (by decide)) (fun _ => ?_)
  refine lv_iload_n hx hb dX3_dealByLots_41 rfl (lv_at hl 0 rfl) ?_
  refine W.eq (g2 := F0 m 42 ls [.int 7]) rfl ?_
  refine lv_iconst (v := 1) hx hb dX3_dealByLots_42 (by decide) ?_
  refine lv_iadd hx hb dX3_dealByLots_43 ?_
  refine z_i (v := 8) (by decide) ?_
  refine lv_iload_n hx hb dX3_dealByLots_44 rfl (lv_at hl 4 rfl) ?_
  refine lv_iload_n hx hb dX3_dealByLots_45 rfl (lv_at hl 0 rfl) ?_
  refine re_S (As := [.int 8, .int p1, .int 7]) (rest := []) caS_SignalTable_Game_78 hx hb hml hown hts (e_lot 8 p1 7 (by decide) (by decide)) bl_T (fun _ _ _ => trivial) (by decide) rfl hl.1 (Nat.le_of_ble_eq_true rfl) (by decide) dX3_dealByLots_46 rfl ?_
  refine lv_istore_n (lv' := [(3, .int (nI (lotv 8 p1 7))), (2, .int 7), (4, .int (f77_30 (8 : Int32).toNatClampNeg)), (0, .ref h0), (1, .int p1)]) hx hb dX3_dealByLots_49 rfl hl (by decide) rfl (fun ls hl => ?_)
  refine lv_aload_n hx hb dX3_dealByLots_50 rfl (lv_at hl 3 rfl) ?_
  refine va_get (D := D) (ci := 3) (v := .ref b8) (C := RX3) (T := TX3) (N := 18) hx hb hts inX3 hown hK hP 0 rfl rfl 8 (by decide) (hts _ kw_444) (fun _ h9 => h9) rfl dX3_dealByLots_51 ?_
  refine lv_iload_n hx hb dX3_dealByLots_54 rfl (lv_at hl 1 rfl) ?_
  refine va_iald hx hb hK hP 4 2 rfl rfl (z_in (by decide)) dX3_dealByLots_55 ?_
  refine W.eq (g2 := F0 m 56 ls [.int (f77_32 (7 : Int32).toNatClampNeg)]) rfl ?_
  refine lv_istore (lv' := [(4, .int (f77_32 (7 : Int32).toNatClampNeg)), (3, .int (nI (lotv 8 p1 7))), (2, .int 7), (0, .ref h0), (1, .int p1)]) hx hb dX3_dealByLots_56 hl (by decide) rfl (fun ls hl => ?_)
  refine lv_aload_n hx hb dX3_dealByLots_58 rfl (lv_at hl 3 rfl) ?_
  refine va_get (D := D) (ci := 3) (v := .ref b8) (C := RX3) (T := TX3) (N := 18) hx hb hts inX3 hown hK hP 0 rfl rfl 8 (by decide) (hts _ kw_444) (fun _ h9 => h9) rfl dX3_dealByLots_59 ?_
  refine lv_iload_n hx hb dX3_dealByLots_62 rfl (lv_at hl 2 rfl) ?_
  refine lv_aload_n hx hb dX3_dealByLots_63 rfl (lv_at hl 3 rfl) ?_
  refine va_get (D := D) (ci := 3) (v := .ref b8) (C := RX3) (T := TX3) (N := 18) hx hb hts inX3 hown hK hP 0 rfl rfl 8 (by decide) (hts _ kw_444) (fun _ h9 => h9) rfl dX3_dealByLots_64 ?_
  refine lv_iload_n hx hb dX3_dealByLots_67 rfl (lv_at hl 1 rfl) ?_
  refine va_iald hx hb hK hP 4 2 rfl rfl (vp_in_nI (Nat.lt_of_lt_of_le (lotv_lt (by decide) _ _) (by decide)) (by decide)) dX3_dealByLots_68 ?_
  refine va_iast hx hb hK hP hD hS 4 2 rfl rfl (z_in (by decide)) dX3_dealByLots_69 (fun H locs hP hD hS => ?_)
  obtain ⟨f69_33, hf69_33⟩ : ∃ z, z = upd f77_32 ((7 : Int32).toNatClampNeg) (f77_32 ((nI (lotv 8 p1 7)) : Int32).toNatClampNeg) := ⟨_, rfl⟩
  rw [← hf69_33] at hP hD
  have hP : va_P D vwCl [(h0, .inr (3, [.ref a1, .ref gr1, .int gi2, .ref b3, .ref b4, .int gi5, .int gi6, .int gi7, .ref b8, .ref gr9, .ref gr10, .ref gr11, .ref gr12, .ref gr13, .ref gr14, .ref gr15, .ref gr16, .int gi17])), (a1, .inr (5, [.int li0, .int li1, .int li2, .int li3, .ref lr4, .ref lr5, .ref lr6, .ref lr7, .ref lr8, .int li9, .int 16, .int 4, .ref lr12, .ref lr13, .ref lr14, .int li15])), (b3, .inl (k3, 4, .inl f3)), (b4, .inl (k4, 4, .inl f4)), (b8, .inl (k8, 16, .inl f69_33))] H := hP
  have hD : va_D A [(h0, .inr (3, [.ref a1, .ref gr1, .int gi2, .ref b3, .ref b4, .int gi5, .int gi6, .int gi7, .ref b8, .ref gr9, .ref gr10, .ref gr11, .ref gr12, .ref gr13, .ref gr14, .ref gr15, .ref gr16, .int gi17])), (a1, .inr (5, [.int li0, .int li1, .int li2, .int li3, .ref lr4, .ref lr5, .ref lr6, .ref lr7, .ref lr8, .int li9, .int 16, .int 4, .ref lr12, .ref lr13, .ref lr14, .int li15])), (b3, .inl (k3, 4, .inl f3)), (b4, .inl (k4, 4, .inl f4)), (b8, .inl (k8, 16, .inl f69_33))] := hD
  refine lv_aload_n hx hb dX3_dealByLots_70 rfl (lv_at hl 3 rfl) ?_
  refine W.eq (g2 := F0 m 71 ls [.ref h0]) rfl ?_
  refine va_get (D := D) (ci := 3) (v := .ref b8) (C := RX3) (T := TX3) (N := 18) hx hb hts inX3 hown hK hP 0 rfl rfl 8 (by decide) (hts _ kw_444) (fun _ h9 => h9) rfl dX3_dealByLots_71 ?_
  refine lv_iload_n hx hb dX3_dealByLots_74 rfl (lv_at hl 1 rfl) ?_
  refine lv_iload hx hb dX3_dealByLots_75 (lv_at hl 0 rfl) ?_
  refine va_iast hx hb hK hP hD hS 4 2 rfl rfl (vp_in_nI (Nat.lt_of_lt_of_le (lotv_lt (by decide) _ _) (by decide)) (by decide)) dX3_dealByLots_77 (fun H locs hP hD hS => ?_)
  obtain ⟨f77_34, hf77_34⟩ : ∃ z, z = upd f69_33 (((nI (lotv 8 p1 7)) : Int32).toNatClampNeg) (f77_32 (7 : Int32).toNatClampNeg) := ⟨_, rfl⟩
  rw [← hf77_34] at hP hD
  have hP : va_P D vwCl [(h0, .inr (3, [.ref a1, .ref gr1, .int gi2, .ref b3, .ref b4, .int gi5, .int gi6, .int gi7, .ref b8, .ref gr9, .ref gr10, .ref gr11, .ref gr12, .ref gr13, .ref gr14, .ref gr15, .ref gr16, .int gi17])), (a1, .inr (5, [.int li0, .int li1, .int li2, .int li3, .ref lr4, .ref lr5, .ref lr6, .ref lr7, .ref lr8, .int li9, .int 16, .int 4, .ref lr12, .ref lr13, .ref lr14, .int li15])), (b3, .inl (k3, 4, .inl f3)), (b4, .inl (k4, 4, .inl f4)), (b8, .inl (k8, 16, .inl f77_34))] H := hP
  have hD : va_D A [(h0, .inr (3, [.ref a1, .ref gr1, .int gi2, .ref b3, .ref b4, .int gi5, .int gi6, .int gi7, .ref b8, .ref gr9, .ref gr10, .ref gr11, .ref gr12, .ref gr13, .ref gr14, .ref gr15, .ref gr16, .int gi17])), (a1, .inr (5, [.int li0, .int li1, .int li2, .int li3, .ref lr4, .ref lr5, .ref lr6, .ref lr7, .ref lr8, .int li9, .int 16, .int 4, .ref lr12, .ref lr13, .ref lr14, .int li15])), (b3, .inl (k3, 4, .inl f3)), (b4, .inl (k4, 4, .inl f4)), (b8, .inl (k8, 16, .inl f77_34))] := hD
  refine lv_iinc (v := 6) (lv' := [(2, .int 6), (4, .int (f77_32 (7 : Int32).toNatClampNeg)), (3, .int (nI (lotv 8 p1 7))), (0, .ref h0), (1, .int p1)]) hx hb dX3_dealByLots_78 hl (k := 2) rfl (by decide) (by decide) rfl (fun ls hl => ?_)
  refine lv_goto (tgt := 36) hx hb dX3_dealByLots_81 (by decide) ?_
  refine lv_iload_n hx hb dX3_dealByLots_36 rfl (lv_at hl 0 rfl) ?_
  refine lv_iconst (v := 1) hx hb dX3_dealByLots_37 (by decide) ?_
  refine lv_icmp_lt (tgt := 84) hx hb dX3_dealByLots_38 (by decide) (fun h => absurd h (by decide)) (fun _ => ?_)
  refine lv_iload_n hx hb dX3_dealByLots_41 rfl (lv_at hl 0 rfl) ?_
  refine W.eq (g2 := F0 m 42 ls [.int 6]) rfl ?_
  refine lv_iconst (v := 1) hx hb dX3_dealByLots_42 (by decide) ?_
  refine lv_iadd hx hb dX3_dealByLots_43 ?_
  refine z_i (v := 7) (by decide) ?_
  refine lv_iload_n hx hb dX3_dealByLots_44 rfl (lv_at hl 4 rfl) ?_
  refine lv_iload_n hx hb dX3_dealByLots_45 rfl (lv_at hl 0 rfl) ?_
  refine re_S (As := [.int 7, .int p1, .int 6]) (rest := []) caS_SignalTable_Game_78 hx hb hml hown hts (e_lot 7 p1 6 (by decide) (by decide)) bl_T (fun _ _ _ => trivial) (by decide) rfl hl.1 (Nat.le_of_ble_eq_true rfl) (by decide) dX3_dealByLots_46 rfl ?_
  refine lv_istore_n (lv' := [(3, .int (nI (lotv 7 p1 6))), (2, .int 6), (4, .int (f77_32 (7 : Int32).toNatClampNeg)), (0, .ref h0), (1, .int p1)]) hx hb dX3_dealByLots_49 rfl hl (by decide) rfl (fun ls hl => ?_)
  refine lv_aload_n hx hb dX3_dealByLots_50 rfl (lv_at hl 3 rfl) ?_
  refine va_get (D := D) (ci := 3) (v := .ref b8) (C := RX3) (T := TX3) (N := 18) hx hb hts inX3 hown hK hP 0 rfl rfl 8 (by decide) (hts _ kw_444) (fun _ h9 => h9) rfl dX3_dealByLots_51 ?_
  refine lv_iload_n hx hb dX3_dealByLots_54 rfl (lv_at hl 1 rfl) ?_
  refine va_iald hx hb hK hP 4 2 rfl rfl (z_in (by decide)) dX3_dealByLots_55 ?_
  refine W.eq (g2 := F0 m 56 ls [.int (f77_34 (6 : Int32).toNatClampNeg)]) rfl ?_
  refine lv_istore (lv' := [(4, .int (f77_34 (6 : Int32).toNatClampNeg)), (3, .int (nI (lotv 7 p1 6))), (2, .int 6), (0, .ref h0), (1, .int p1)]) hx hb dX3_dealByLots_56 hl (by decide) rfl (fun ls hl => ?_)
  refine lv_aload_n hx hb dX3_dealByLots_58 rfl (lv_at hl 3 rfl) ?_
  refine va_get (D := D) (ci := 3) (v := .ref b8) (C := RX3) (T := TX3) (N := 18) hx hb hts inX3 hown hK hP 0 rfl rfl 8 (by decide) (hts _ kw_444) (fun _ h9 => h9) rfl dX3_dealByLots_59 ?_
  refine lv_iload_n hx hb dX3_dealByLots_62 rfl (lv_at hl 2 rfl) ?_
  refine lv_aload_n hx hb dX3_dealByLots_63 rfl (lv_at hl 3 rfl) ?_
  refine va_get (D := D) (ci := 3) (v := .ref b8) (C := RX3) (T := TX3) (N := 18) hx hb hts inX3 hown hK hP 0 rfl rfl 8 (by decide) (hts _ kw_444) (fun _ h9 => h9) rfl dX3_dealByLots_64 ?_
  refine lv_iload_n hx hb dX3_dealByLots_67 rfl (lv_at hl 1 rfl) ?_
  refine va_iald hx hb hK hP 4 2 rfl rfl (vp_in_nI (Nat.lt_of_lt_of_le (lotv_lt (by decide) _ _) (by decide)) (by decide)) dX3_dealByLots_68 ?_
  refine va_iast hx hb hK hP hD hS 4 2 rfl rfl (z_in (by decide)) dX3_dealByLots_69 (fun H locs hP hD hS => ?_)
  obtain ⟨f69_35, hf69_35⟩ : ∃ z, z = upd f77_34 ((6 : Int32).toNatClampNeg) (f77_34 ((nI (lotv 7 p1 6)) : Int32).toNatClampNeg) := ⟨_, rfl⟩
  rw [← hf69_35] at hP hD
  have hP : va_P D vwCl [(h0, .inr (3, [.ref a1, .ref gr1, .int gi2, .ref b3, .ref b4, .int gi5, .int gi6, .int gi7, .ref b8, .ref gr9, .ref gr10, .ref gr11, .ref gr12, .ref gr13, .ref gr14, .ref gr15, .ref gr16, .int gi17])), (a1, .inr (5, [.int li0, .int li1, .int li2, .int li3, .ref lr4, .ref lr5, .ref lr6, .ref lr7, .ref lr8, .int li9, .int 16, .int 4, .ref lr12, .ref lr13, .ref lr14, .int li15])), (b3, .inl (k3, 4, .inl f3)), (b4, .inl (k4, 4, .inl f4)), (b8, .inl (k8, 16, .inl f69_35))] H := hP
  have hD : va_D A [(h0, .inr (3, [.ref a1, .ref gr1, .int gi2, .ref b3, .ref b4, .int gi5, .int gi6, .int gi7, .ref b8, .ref gr9, .ref gr10, .ref gr11, .ref gr12, .ref gr13, .ref gr14, .ref gr15, .ref gr16, .int gi17])), (a1, .inr (5, [.int li0, .int li1, .int li2, .int li3, .ref lr4, .ref lr5, .ref lr6, .ref lr7, .ref lr8, .int li9, .int 16, .int 4, .ref lr12, .ref lr13, .ref lr14, .int li15])), (b3, .inl (k3, 4, .inl f3)), (b4, .inl (k4, 4, .inl f4)), (b8, .inl (k8, 16, .inl f69_35))] := hD
  refine lv_aload_n hx hb dX3_dealByLots_70 rfl (lv_at hl 3 rfl) ?_
  refine W.eq (g2 := F0 m 71 ls [.ref h0]) rfl ?_
  refine va_get (D := D) (ci := 3) (v := .ref b8) (C := RX3) (T := TX3) (N := 18) hx hb hts inX3 hown hK hP 0 rfl rfl 8 (by decide) (hts _ kw_444) (fun _ h9 => h9) rfl dX3_dealByLots_71 ?_
  refine lv_iload_n hx hb dX3_dealByLots_74 rfl (lv_at hl 1 rfl) ?_
  refine lv_iload hx hb dX3_dealByLots_75 (lv_at hl 0 rfl) ?_
  refine va_iast hx hb hK hP hD hS 4 2 rfl rfl (vp_in_nI (Nat.lt_of_lt_of_le (lotv_lt (by decide) _ _) (by decide)) (by decide)) dX3_dealByLots_77 (fun H locs hP hD hS => ?_)
  obtain ⟨f77_36, hf77_36⟩ : ∃ z, z = upd f69_35 (((nI (lotv 7 p1 6)) : Int32).toNatClampNeg) (f77_34 (6 : Int32).toNatClampNeg) := ⟨_, rfl⟩
  rw [← hf77_36] at hP hD
  have hP : va_P D vwCl [(h0, .inr (3, [.ref a1, .ref gr1, .int gi2, .ref b3, .ref b4, .int gi5, .int gi6, .int gi7, .ref b8, .ref gr9, .ref gr10, .ref gr11, .ref gr12, .ref gr13, .ref gr14, .ref gr15, .ref gr16, .int gi17])), (a1, .inr (5, [.int li0, .int li1, .int li2, .int li3, .ref lr4, .ref lr5, .ref lr6, .ref lr7, .ref lr8, .int li9, .int 16, .int 4, .ref lr12, .ref lr13, .ref lr14, .int li15])), (b3, .inl (k3, 4, .inl f3)), (b4, .inl (k4, 4, .inl f4)), (b8, .inl (k8, 16, .inl f77_36))] H := hP
  have hD : va_D A [(h0, .inr (3, [.ref a1, .ref gr1, .int gi2, .ref b3, .ref b4, .int gi5, .int gi6, .int gi7, .ref b8, .ref gr9, .ref gr10, .ref gr11, .ref gr12, .ref gr13, .ref gr14, .ref gr15, .ref gr16, .int gi17])), (a1, .inr (5, [.int li0, .int li1, .int li2, .int li3, .ref lr4, .ref lr5, .ref lr6, .ref lr7, .ref lr8, .int li9, .int 16, .int 4, .ref lr12, .ref lr13, .ref lr14, .int li15])), (b3, .inl (k3, 4, .inl f3)), (b4, .inl (k4, 4, .inl f4)), (b8, .inl (k8, 16, .inl f77_36))] := hD
  refine lv_iinc (v := 5) (lv' := [(2, .int 5), (4, .int (f77_34 (6 : Int32).toNatClampNeg)), (3, .int (nI (lotv 7 p1 6))), (0, .ref h0), (1, .int p1)]) hx hb dX3_dealByLots_78 hl (k := 2) rfl (by decide) (by decide) rfl (fun ls hl => ?_)
  refine lv_goto (tgt := 36) hx hb dX3_dealByLots_81 (by decide) ?_
  refine lv_iload_n hx hb dX3_dealByLots_36 rfl (lv_at hl 0 rfl) ?_
  refine lv_iconst (v := 1) hx hb dX3_dealByLots_37 (by decide) ?_
  refine lv_icmp_lt (tgt := 84) hx hb dX3_dealByLots_38 (by decide) (fun h => absurd h (by decide)) (fun _ => ?_)
  refine lv_iload_n hx hb dX3_dealByLots_41 rfl (lv_at hl 0 rfl) ?_
  refine W.eq (g2 := F0 m 42 ls [.int 5]) rfl ?_
  refine lv_iconst (v := 1) hx hb dX3_dealByLots_42 (by decide) ?_
  refine lv_iadd hx hb dX3_dealByLots_43 ?_
  refine z_i (v := 6) (by decide) ?_
  refine lv_iload_n hx hb dX3_dealByLots_44 rfl (lv_at hl 4 rfl) ?_
  refine lv_iload_n hx hb dX3_dealByLots_45 rfl (lv_at hl 0 rfl) ?_
  refine re_S (As := [.int 6, .int p1, .int 5]) (rest := []) caS_SignalTable_Game_78 hx hb hml hown hts (e_lot 6 p1 5 (by decide) (by decide)) bl_T (fun _ _ _ => trivial) (by decide) rfl hl.1 (Nat.le_of_ble_eq_true rfl) (by decide) dX3_dealByLots_46 rfl ?_
  refine lv_istore_n (lv' := [(3, .int (nI (lotv 6 p1 5))), (2, .int 5), (4, .int (f77_34 (6 : Int32).toNatClampNeg)), (0, .ref h0), (1, .int p1)]) hx hb dX3_dealByLots_49 rfl hl (by decide) rfl (fun ls hl => ?_)
  refine lv_aload_n hx hb dX3_dealByLots_50 rfl (lv_at hl 3 rfl) ?_
  refine va_get (D := D) (ci := 3) (v := .ref b8) (C := RX3) (T := TX3) (N := 18) hx hb hts inX3 hown hK hP 0 rfl rfl 8 (by decide) (hts _ kw_444) (fun _ h9 => h9) rfl dX3_dealByLots_51 ?_
  refine lv_iload_n hx hb dX3_dealByLots_54 rfl (lv_at hl 1 rfl) ?_
  refine va_iald hx hb hK hP 4 2 rfl rfl (z_in (by decide)) dX3_dealByLots_55 ?_
  refine W.eq (g2 := F0 m 56 ls [.int (f77_36 (5 : Int32).toNatClampNeg)]) rfl ?_
  refine lv_istore (lv' := [(4, .int (f77_36 (5 : Int32).toNatClampNeg)), (3, .int (nI (lotv 6 p1 5))), (2, .int 5), (0, .ref h0), (1, .int p1)]) hx hb dX3_dealByLots_56 hl (by decide) rfl (fun ls hl => ?_)
  refine lv_aload_n hx hb dX3_dealByLots_58 rfl (lv_at hl 3 rfl) ?_
  refine va_get (D := D) (ci := 3) (v := .ref b8) (C := RX3) (T := TX3) (N := 18) hx hb hts inX3 hown hK hP 0 rfl rfl 8 (by decide) (hts _ kw_444) (fun _ h9 => h9) rfl dX3_dealByLots_59 ?_
  refine lv_iload_n hx hb dX3_dealByLots_62 rfl (lv_at hl 2 rfl) ?_
  refine lv_aload_n hx hb dX3_dealByLots_63 rfl (lv_at hl 3 rfl) ?_
  refine va_get (D := D) (ci := 3) (v := .ref b8) (C := RX3) (T := TX3) (N := 18) hx hb hts inX3 hown hK hP 0 rfl rfl 8 (by decide) (hts _ kw_444) (fun _ h9 => h9) rfl dX3_dealByLots_64 ?_
  refine lv_iload_n hx hb dX3_dealByLots_67 rfl (lv_at hl 1 rfl) ?_
  refine va_iald hx hb hK hP 4 2 rfl rfl (vp_in_nI (Nat.lt_of_lt_of_le (lotv_lt (by decide) _ _) (by decide)) (by decide)) dX3_dealByLots_68 ?_
  refine va_iast hx hb hK hP hD hS 4 2 rfl rfl (z_in (by decide)) dX3_dealByLots_69 (fun H locs hP hD hS => ?_)
  obtain ⟨f69_37, hf69_37⟩ : ∃ z, z = upd f77_36 ((5 : Int32).toNatClampNeg) (f77_36 ((nI (lotv 6 p1 5)) : Int32).toNatClampNeg) := ⟨_, rfl⟩
  rw [← hf69_37] at hP hD
  have hP : va_P D vwCl [(h0, .inr (3, [.ref a1, .ref gr1, .int gi2, .ref b3, .ref b4, .int gi5, .int gi6, .int gi7, .ref b8, .ref gr9, .ref gr10, .ref gr11, .ref gr12, .ref gr13, .ref gr14, .ref gr15, .ref gr16, .int gi17])), (a1, .inr (5, [.int li0, .int li1, .int li2, .int li3, .ref lr4, .ref lr5, .ref lr6, .ref lr7, .ref lr8, .int li9, .int 16, .int 4, .ref lr12, .ref lr13, .ref lr14, .int li15])), (b3, .inl (k3, 4, .inl f3)), (b4, .inl (k4, 4, .inl f4)), (b8, .inl (k8, 16, .inl f69_37))] H := hP
  have hD : va_D A [(h0, .inr (3, [.ref a1, .ref gr1, .int gi2, .ref b3, .ref b4, .int gi5, .int gi6, .int gi7, .ref b8, .ref gr9, .ref gr10, .ref gr11, .ref gr12, .ref gr13, .ref gr14, .ref gr15, .ref gr16, .int gi17])), (a1, .inr (5, [.int li0, .int li1, .int li2, .int li3, .ref lr4, .ref lr5, .ref lr6, .ref lr7, .ref lr8, .int li9, .int 16, .int 4, .ref lr12, .ref lr13, .ref lr14, .int li15])), (b3, .inl (k3, 4, .inl f3)), (b4, .inl (k4, 4, .inl f4)), (b8, .inl (k8, 16, .inl f69_37))] := hD
  refine lv_aload_n hx hb dX3_dealByLots_70 rfl (lv_at hl 3 rfl) ?_
  refine W.eq (g2 := F0 m 71 ls [.ref h0]) rfl ?_
  refine va_get (D := D) (ci := 3) (v := .ref b8) (C := RX3) (T := TX3) (N := 18) hx hb hts inX3 hown hK hP 0 rfl rfl 8 (by decide) (hts _ kw_444) (fun _ h9 => h9) rfl dX3_dealByLots_71 ?_
  refine lv_iload_n hx hb dX3_dealByLots_74 rfl (lv_at hl 1 rfl) ?_
  refine lv_iload hx hb dX3_dealByLots_75 (lv_at hl 0 rfl) ?_
  refine va_iast hx hb hK hP hD hS 4 2 rfl rfl (vp_in_nI (Nat.lt_of_lt_of_le (lotv_lt (by decide) _ _) (by decide)) (by decide)) dX3_dealByLots_77 (fun H locs hP hD hS => ?_)
  obtain ⟨f77_38, hf77_38⟩ : ∃ z, z = upd f69_37 (((nI (lotv 6 p1 5)) : Int32).toNatClampNeg) (f77_36 (5 : Int32).toNatClampNeg) := ⟨_, rfl⟩
  rw [← hf77_38] at hP hD
  have hP : va_P D vwCl [(h0, .inr (3, [.ref a1, .ref gr1, .int gi2, .ref b3, .ref b4, .int gi5, .int gi6, .int gi7, .ref b8, .ref gr9, .ref gr10, .ref gr11, .ref gr12, .ref gr13, .ref gr14, .ref gr15, .ref gr16, .int gi17])), (a1, .inr (5, [.int li0, .int li1, .int li2, .int li3, .ref lr4, .ref lr5, .ref lr6, .ref lr7, .ref lr8, .int li9, .int 16, .int 4, .ref lr12, .ref lr13, .ref lr14, .int li15])), (b3, .inl (k3, 4, .inl f3)), (b4, .inl (k4, 4, .inl f4)), (b8, .inl (k8, 16, .inl f77_38))] H := hP
  have hD : va_D A [(h0, .inr (3, [.ref a1, .ref gr1, .int gi2, .ref b3, .ref b4, .int gi5, .int gi6, .int gi7, .ref b8, .ref gr9, .ref gr10, .ref gr11, .ref gr12, .ref gr13, .ref gr14, .ref gr15, .ref gr16, .int gi17])), (a1, .inr (5, [.int li0, .int li1, .int li2, .int li3, .ref lr4, .ref lr5, .ref lr6, .ref lr7, .ref lr8, .int li9, .int 16, .int 4, .ref lr12, .ref lr13, .ref lr14, .int li15])), (b3, .inl (k3, 4, .inl f3)), (b4, .inl (k4, 4, .inl f4)), (b8, .inl (k8, 16, .inl f77_38))] := hD
  refine lv_iinc (v := 4) (lv' := [(2, .int 4), (4, .int (f77_36 (5 : Int32).toNatClampNeg)), (3, .int (nI (lotv 6 p1 5))), (0, .ref h0), (1, .int p1)]) hx hb dX3_dealByLots_78 hl (k := 2) rfl (by decide) (by decide) rfl (fun ls hl => ?_)
  refine lv_goto (tgt := 36) hx hb dX3_dealByLots_81 (by decide) ?_
  refine lv_iload_n hx hb dX3_dealByLots_36 rfl (lv_at hl 0 rfl) ?_
  refine lv_iconst (v := 1) hx hb dX3_dealByLots_37 (by decide) ?_
  refine lv_icmp_lt (tgt := 84) hx hb dX3_dealByLots_38 (by decide) (fun h => absurd h (by decide)) (fun _ => ?_)
  refine lv_iload_n hx hb dX3_dealByLots_41 rfl (lv_at hl 0 rfl) ?_
  refine W.eq (g2 := F0 m 42 ls [.int 4]) rfl ?_
  refine lv_iconst (v := 1) hx hb dX3_dealByLots_42 (by decide) ?_
  refine lv_iadd hx hb dX3_dealByLots_43 ?_
  refine z_i (v := 5) (by decide) ?_
  refine lv_iload_n hx hb dX3_dealByLots_44 rfl (lv_at hl 4 rfl) ?_
  refine lv_iload_n hx hb dX3_dealByLots_45 rfl (lv_at hl 0 rfl) ?_
  refine re_S (As := [.int 5, .int p1, .int 4]) (rest := []) caS_SignalTable_Game_78 hx hb hml hown hts (e_lot 5 p1 4 (by decide) (by decide)) bl_T (fun _ _ _ => trivial) (by decide) rfl hl.1 (Nat.le_of_ble_eq_true rfl) (by decide) dX3_dealByLots_46 rfl ?_
  refine lv_istore_n (lv' := [(3, .int (nI (lotv 5 p1 4))), (2, .int 4), (4, .int (f77_36 (5 : Int32).toNatClampNeg)), (0, .ref h0), (1, .int p1)]) hx hb dX3_dealByLots_49 rfl hl (by decide) rfl (fun ls hl => ?_)
  refine lv_aload_n hx hb dX3_dealByLots_50 rfl (lv_at hl 3 rfl) ?_
  refine va_get (D := D) (ci := 3) (v := .ref b8) (C := RX3) (T := TX3) (N := 18) hx hb hts inX3 hown hK hP 0 rfl rfl 8 (by decide) (hts _ kw_444) (fun _ h9 => h9) rfl dX3_dealByLots_51 ?_
  refine lv_iload_n hx hb dX3_dealByLots_54 rfl (lv_at hl 1 rfl) ?_
  refine va_iald hx hb hK hP 4 2 rfl rfl (z_in (by decide)) dX3_dealByLots_55 ?_
  refine W.eq (g2 := F0 m 56 ls [.int (f77_38 (4 : Int32).toNatClampNeg)]) rfl ?_
  refine lv_istore (lv' := [(4, .int (f77_38 (4 : Int32).toNatClampNeg)), (3, .int (nI (lotv 5 p1 4))), (2, .int 4), (0, .ref h0), (1, .int p1)]) hx hb dX3_dealByLots_56 hl (by decide) rfl (fun ls hl => ?_)
  refine lv_aload_n hx hb dX3_dealByLots_58 rfl (lv_at hl 3 rfl) ?_
  refine va_get (D := D) (ci := 3) (v := .ref b8) (C := RX3) (T := TX3) (N := 18) hx hb hts inX3 hown hK hP 0 rfl rfl 8 (by decide) (hts _ kw_444) (fun _ h9 => h9) rfl dX3_dealByLots_59 ?_
  refine lv_iload_n hx hb dX3_dealByLots_62 rfl (lv_at hl 2 rfl) ?_
  refine lv_aload_n hx hb dX3_dealByLots_63 rfl (lv_at hl 3 rfl) ?_
  refine va_get (D := D) (ci := 3) (v := .ref b8) (C := RX3) (T := TX3) (N := 18) hx hb hts inX3 hown hK hP 0 rfl rfl 8 (by decide) (hts _ kw_444) (fun _ h9 => h9) rfl dX3_dealByLots_64 ?_
  refine lv_iload_n hx hb dX3_dealByLots_67 rfl (lv_at hl 1 rfl) ?_
  refine va_iald hx hb hK hP 4 2 rfl rfl (vp_in_nI (Nat.lt_of_lt_of_le (lotv_lt (by decide) _ _) (by decide)) (by decide)) dX3_dealByLots_68 ?_
  refine va_iast hx hb hK hP hD hS 4 2 rfl rfl (z_in (by decide)) dX3_dealByLots_69 (fun H locs hP hD hS => ?_)
  obtain ⟨f69_39, hf69_39⟩ : ∃ z, z = upd f77_38 ((4 : Int32).toNatClampNeg) (f77_38 ((nI (lotv 5 p1 4)) : Int32).toNatClampNeg) := ⟨_, rfl⟩
  rw [← hf69_39] at hP hD
  have hP : va_P D vwCl [(h0, .inr (3, [.ref a1, .ref gr1, .int gi2, .ref b3, .ref b4, .int gi5, .int gi6, .int gi7, .ref b8, .ref gr9, .ref gr10, .ref gr11, .ref gr12, .ref gr13, .ref gr14, .ref gr15, .ref gr16, .int gi17])), (a1, .inr (5, [.int li0, .int li1, .int li2, .int li3, .ref lr4, .ref lr5, .ref lr6, .ref lr7, .ref lr8, .int li9, .int 16, .int 4, .ref lr12, .ref lr13, .ref lr14, .int li15])), (b3, .inl (k3, 4, .inl f3)), (b4, .inl (k4, 4, .inl f4)), (b8, .inl (k8, 16, .inl f69_39))] H := hP
  have hD : va_D A [(h0, .inr (3, [.ref a1, .ref gr1, .int gi2, .ref b3, .ref b4, .int gi5, .int gi6, .int gi7, .ref b8, .ref gr9, .ref gr10, .ref gr11, .ref gr12, .ref gr13, .ref gr14, .ref gr15, .ref gr16, .int gi17])), (a1, .inr (5, [.int li0, .int li1, .int li2, .int li3, .ref lr4, .ref lr5, .ref lr6, .ref lr7, .ref lr8, .int li9, .int 16, .int 4, .ref lr12, .ref lr13, .ref lr14, .int li15])), (b3, .inl (k3, 4, .inl f3)), (b4, .inl (k4, 4, .inl f4)), (b8, .inl (k8, 16, .inl f69_39))] := hD
  refine lv_aload_n hx hb dX3_dealByLots_70 rfl (lv_at hl 3 rfl) ?_
  refine W.eq (g2 := F0 m 71 ls [.ref h0]) rfl ?_
  refine va_get (D := D) (ci := 3) (v := .ref b8) (C := RX3) (T := TX3) (N := 18) hx hb hts inX3 hown hK hP 0 rfl rfl 8 (by decide) (hts _ kw_444) (fun _ h9 => h9) rfl dX3_dealByLots_71 ?_
  refine lv_iload_n hx hb dX3_dealByLots_74 rfl (lv_at hl 1 rfl) ?_
  refine lv_iload hx hb dX3_dealByLots_75 (lv_at hl 0 rfl) ?_
  refine va_iast hx hb hK hP hD hS 4 2 rfl rfl (vp_in_nI (Nat.lt_of_lt_of_le (lotv_lt (by decide) _ _) (by decide)) (by decide)) dX3_dealByLots_77 (fun H locs hP hD hS => ?_)
  obtain ⟨f77_40, hf77_40⟩ : ∃ z, z = upd f69_39 (((nI (lotv 5 p1 4)) : Int32).toNatClampNeg) (f77_38 (4 : Int32).toNatClampNeg) := ⟨_, rfl⟩
  rw [← hf77_40] at hP hD
  have hP : va_P D vwCl [(h0, .inr (3, [.ref a1, .ref gr1, .int gi2, .ref b3, .ref b4, .int gi5, .int gi6, .int gi7, .ref b8, .ref gr9, .ref gr10, .ref gr11, .ref gr12, .ref gr13, .ref gr14, .ref gr15, .ref gr16, .int gi17])), (a1, .inr (5, [.int li0, .int li1, .int li2, .int li3, .ref lr4, .ref lr5, .ref lr6, .ref lr7, .ref lr8, .int li9, .int 16, .int 4, .ref lr12, .ref lr13, .ref lr14, .int li15])), (b3, .inl (k3, 4, .inl f3)), (b4, .inl (k4, 4, .inl f4)), (b8, .inl (k8, 16, .inl f77_40))] H := hP
  have hD : va_D A [(h0, .inr (3, [.ref a1, .ref gr1, .int gi2, .ref b3, .ref b4, .int gi5, .int gi6, .int gi7, .ref b8, .ref gr9, .ref gr10, .ref gr11, .ref gr12, .ref gr13, .ref gr14, .ref gr15, .ref gr16, .int gi17])), (a1, .inr (5, [.int li0, .int li1, .int li2, .int li3, .ref lr4, .ref lr5, .ref lr6, .ref lr7, .ref lr8, .int li9, .int 16, .int 4, .ref lr12, .ref lr13, .ref lr14, .int li15])), (b3, .inl (k3, 4, .inl f3)), (b4, .inl (k4, 4, .inl f4)), (b8, .inl (k8, 16, .inl f77_40))] := hD
  refine lv_iinc (v := 3) (lv' := [(2, .int 3), (4, .int (f77_38 (4 : Int32).toNatClampNeg)), (3, .int (nI (lotv 5 p1 4))), (0, .ref h0), (1, .int p1)]) hx hb dX3_dealByLots_78 hl (k := 2) rfl (by decide) (by decide) rfl (fun ls hl => ?_)
  refine lv_goto (tgt := 36) hx hb dX3_dealByLots_81 (by decide) ?_
  refine lv_iload_n hx hb dX3_dealByLots_36 rfl (lv_at hl 0 rfl) ?_
  refine lv_iconst (v := 1) hx hb dX3_dealByLots_37 (by decide) ?_
  refine lv_icmp_lt (tgt := 84) hx hb dX3_dealByLots_38 (by decide) (fun h => absurd h (by decide)) (fun _ => ?_)
  refine lv_iload_n hx hb dX3_dealByLots_41 rfl (lv_at hl 0 rfl) ?_
  refine W.eq (g2 := F0 m 42 ls [.int 3]) rfl ?_
  refine lv_iconst (v := 1) hx hb dX3_dealByLots_42 (by decide) ?_
  refine lv_iadd hx hb dX3_dealByLots_43 ?_
  refine z_i (v := 4) (by decide) ?_
  refine lv_iload_n hx hb dX3_dealByLots_44 rfl (lv_at hl 4 rfl) ?_
  refine lv_iload_n hx hb dX3_dealByLots_45 rfl (lv_at hl 0 rfl) ?_
  refine re_S (As := [.int 4, .int p1, .int 3]) (rest := []) caS_SignalTable_Game_78 hx hb hml hown hts (e_lot 4 p1 3 (by decide) (by decide)) bl_T (fun _ _ _ => trivial) (by decide) rfl hl.1 (Nat.le_of_ble_eq_true rfl) (by decide) dX3_dealByLots_46 rfl ?_
  refine lv_istore_n (lv' := [(3, .int (nI (lotv 4 p1 3))), (2, .int 3), (4, .int (f77_38 (4 : Int32).toNatClampNeg)), (0, .ref h0), (1, .int p1)]) hx hb dX3_dealByLots_49 rfl hl (by decide) rfl (fun ls hl => ?_)
  refine lv_aload_n hx hb dX3_dealByLots_50 rfl (lv_at hl 3 rfl) ?_
  refine va_get (D := D) (ci := 3) (v := .ref b8) (C := RX3) (T := TX3) (N := 18) hx hb hts inX3 hown hK hP 0 rfl rfl 8 (by decide) (hts _ kw_444) (fun _ h9 => h9) rfl dX3_dealByLots_51 ?_
  refine lv_iload_n hx hb dX3_dealByLots_54 rfl (lv_at hl 1 rfl) ?_
  refine va_iald hx hb hK hP 4 2 rfl rfl (z_in (by decide)) dX3_dealByLots_55 ?_
  refine W.eq (g2 := F0 m 56 ls [.int (f77_40 (3 : Int32).toNatClampNeg)]) rfl ?_
  refine lv_istore (lv' := [(4, .int (f77_40 (3 : Int32).toNatClampNeg)), (3, .int (nI (lotv 4 p1 3))), (2, .int 3), (0, .ref h0), (1, .int p1)]) hx hb dX3_dealByLots_56 hl (by decide) rfl (fun ls hl => ?_)
  refine lv_aload_n hx hb dX3_dealByLots_58 rfl (lv_at hl 3 rfl) ?_
  refine va_get (D := D) (ci := 3) (v := .ref b8) (C := RX3) (T := TX3) (N := 18) hx hb hts inX3 hown hK hP 0 rfl rfl 8 (by decide) (hts _ kw_444) (fun _ h9 => h9) rfl dX3_dealByLots_59 ?_
  refine lv_iload_n hx hb dX3_dealByLots_62 rfl (lv_at hl 2 rfl) ?_
  refine lv_aload_n hx hb dX3_dealByLots_63 rfl (lv_at hl 3 rfl) ?_
  refine va_get (D := D) (ci := 3) (v := .ref b8) (C := RX3) (T := TX3) (N := 18) hx hb hts inX3 hown hK hP 0 rfl rfl 8 (by decide) (hts _ kw_444) (fun _ h9 => h9) rfl dX3_dealByLots_64 ?_
  refine lv_iload_n hx hb dX3_dealByLots_67 rfl (lv_at hl 1 rfl) ?_
  refine va_iald hx hb hK hP 4 2 rfl rfl (vp_in_nI (Nat.lt_of_lt_of_le (lotv_lt (by decide) _ _) (by decide)) (by decide)) dX3_dealByLots_68 ?_
  refine va_iast hx hb hK hP hD hS 4 2 rfl rfl (z_in (by decide)) dX3_dealByLots_69 (fun H locs hP hD hS => ?_)
  obtain ⟨f69_41, hf69_41⟩ : ∃ z, z = upd f77_40 ((3 : Int32).toNatClampNeg) (f77_40 ((nI (lotv 4 p1 3)) : Int32).toNatClampNeg) := ⟨_, rfl⟩
  rw [← hf69_41] at hP hD
  have hP : va_P D vwCl [(h0, .inr (3, [.ref a1, .ref gr1, .int gi2, .ref b3, .ref b4, .int gi5, .int gi6, .int gi7, .ref b8, .ref gr9, .ref gr10, .ref gr11, .ref gr12, .ref gr13, .ref gr14, .ref gr15, .ref gr16, .int gi17])), (a1, .inr (5, [.int li0, .int li1, .int li2, .int li3, .ref lr4, .ref lr5, .ref lr6, .ref lr7, .ref lr8, .int li9, .int 16, .int 4, .ref lr12, .ref lr13, .ref lr14, .int li15])), (b3, .inl (k3, 4, .inl f3)), (b4, .inl (k4, 4, .inl f4)), (b8, .inl (k8, 16, .inl f69_41))] H := hP
  have hD : va_D A [(h0, .inr (3, [.ref a1, .ref gr1, .int gi2, .ref b3, .ref b4, .int gi5, .int gi6, .int gi7, .ref b8, .ref gr9, .ref gr10, .ref gr11, .ref gr12, .ref gr13, .ref gr14, .ref gr15, .ref gr16, .int gi17])), (a1, .inr (5, [.int li0, .int li1, .int li2, .int li3, .ref lr4, .ref lr5, .ref lr6, .ref lr7, .ref lr8, .int li9, .int 16, .int 4, .ref lr12, .ref lr13, .ref lr14, .int li15])), (b3, .inl (k3, 4, .inl f3)), (b4, .inl (k4, 4, .inl f4)), (b8, .inl (k8, 16, .inl f69_41))] := hD
  refine lv_aload_n hx hb dX3_dealByLots_70 rfl (lv_at hl 3 rfl) ?_
  refine W.eq (g2 := F0 m 71 ls [.ref h0]) rfl ?_
  refine va_get (D := D) (ci := 3) (v := .ref b8) (C := RX3) (T := TX3) (N := 18) hx hb hts inX3 hown hK hP 0 rfl rfl 8 (by decide) (hts _ kw_444) (fun _ h9 => h9) rfl dX3_dealByLots_71 ?_
  refine lv_iload_n hx hb dX3_dealByLots_74 rfl (lv_at hl 1 rfl) ?_
  refine lv_iload hx hb dX3_dealByLots_75 (lv_at hl 0 rfl) ?_
  refine va_iast hx hb hK hP hD hS 4 2 rfl rfl (vp_in_nI (Nat.lt_of_lt_of_le (lotv_lt (by decide) _ _) (by decide)) (by decide)) dX3_dealByLots_77 (fun H locs hP hD hS => ?_)
  obtain ⟨f77_42, hf77_42⟩ : ∃ z, z = upd f69_41 (((nI (lotv 4 p1 3)) : Int32).toNatClampNeg) (f77_40 (3 : Int32).toNatClampNeg) := ⟨_, rfl⟩
  rw [← hf77_42] at hP hD
  have hP : va_P D vwCl [(h0, .inr (3, [.ref a1, .ref gr1, .int gi2, .ref b3, .ref b4, .int gi5, .int gi6, .int gi7, .ref b8, .ref gr9, .ref gr10, .ref gr11, .ref gr12, .ref gr13, .ref gr14, .ref gr15, .ref gr16, .int gi17])), (a1, .inr (5, [.int li0, .int li1, .int li2, .int li3, .ref lr4, .ref lr5, .ref lr6, .ref lr7, .ref lr8, .int li9, .int 16, .int 4, .ref lr12, .ref lr13, .ref lr14, .int li15])), (b3, .inl (k3, 4, .inl f3)), (b4, .inl (k4, 4, .inl f4)), (b8, .inl (k8, 16, .inl f77_42))] H := hP
  have hD : va_D A [(h0, .inr (3, [.ref a1, .ref gr1, .int gi2, .ref b3, .ref b4, .int gi5, .int gi6, .int gi7, .ref b8, .ref gr9, .ref gr10, .ref gr11, .ref gr12, .ref gr13, .ref gr14, .ref gr15, .ref gr16, .int gi17])), (a1, .inr (5, [.int li0, .int li1, .int li2, .int li3, .ref lr4, .ref lr5, .ref lr6, .ref lr7, .ref lr8, .int li9, .int 16, .int 4, .ref lr12, .ref lr13, .ref lr14, .int li15])), (b3, .inl (k3, 4, .inl f3)), (b4, .inl (k4, 4, .inl f4)), (b8, .inl (k8, 16, .inl f77_42))] := hD
  refine lv_iinc (v := 2) (lv' := [(2, .int 2), (4, .int (f77_40 (3 : Int32).toNatClampNeg)), (3, .int (nI (lotv 4 p1 3))), (0, .ref h0), (1, .int p1)]) hx hb dX3_dealByLots_78 hl (k := 2) rfl (by decide) (by decide) rfl (fun ls hl => ?_)
  refine lv_goto (tgt := 36) hx hb dX3_dealByLots_81 (by decide) ?_
  refine lv_iload_n hx hb dX3_dealByLots_36 rfl (lv_at hl 0 rfl) ?_
  refine lv_iconst (v := 1) hx hb dX3_dealByLots_37 (by decide) ?_
  refine lv_icmp_lt (tgt := 84) hx hb dX3_dealByLots_38 (by decide) (fun h => absurd h (by decide)) (fun _ => ?_)
  refine lv_iload_n hx hb dX3_dealByLots_41 rfl (lv_at hl 0 rfl) ?_
  refine W.eq (g2 := F0 m 42 ls [.int 2]) rfl ?_
  refine lv_iconst (v := 1) hx hb dX3_dealByLots_42 (by decide) ?_
  refine lv_iadd hx hb dX3_dealByLots_43 ?_
  refine z_i (v := 3) (by decide) ?_
  refine lv_iload_n hx hb dX3_dealByLots_44 rfl (lv_at hl 4 rfl) ?_
  refine lv_iload_n hx hb dX3_dealByLots_45 rfl (lv_at hl 0 rfl) ?_
  refine re_S (As := [.int 3, .int p1, .int 2]) (rest := []) caS_SignalTable_Game_78 hx hb hml hown hts (e_lot 3 p1 2 (by decide) (by decide)) bl_T (fun _ _ _ => trivial) (by decide) rfl hl.1 (Nat.le_of_ble_eq_true rfl) (by decide) dX3_dealByLots_46 rfl ?_
  refine lv_istore_n (lv' := [(3, .int (nI (lotv 3 p1 2))), (2, .int 2), (4, .int (f77_40 (3 : Int32).toNatClampNeg)), (0, .ref h0), (1, .int p1)]) hx hb dX3_dealByLots_49 rfl hl (by decide) rfl (fun ls hl => ?_)
  refine lv_aload_n hx hb dX3_dealByLots_50 rfl (lv_at hl 3 rfl) ?_
  refine va_get (D := D) (ci := 3) (v := .ref b8) (C := RX3) (T := TX3) (N := 18) hx hb hts inX3 hown hK hP 0 rfl rfl 8 (by decide) (hts _ kw_444) (fun _ h9 => h9) rfl dX3_dealByLots_51 ?_
  refine lv_iload_n hx hb dX3_dealByLots_54 rfl (lv_at hl 1 rfl) ?_
  refine va_iald hx hb hK hP 4 2 rfl rfl (z_in (by decide)) dX3_dealByLots_55 ?_
  refine W.eq (g2 := F0 m 56 ls [.int (f77_42 (2 : Int32).toNatClampNeg)]) rfl ?_
  refine lv_istore (lv' := [(4, .int (f77_42 (2 : Int32).toNatClampNeg)), (3, .int (nI (lotv 3 p1 2))), (2, .int 2), (0, .ref h0), (1, .int p1)]) hx hb dX3_dealByLots_56 hl (by decide) rfl (fun ls hl => ?_)
  refine lv_aload_n hx hb dX3_dealByLots_58 rfl (lv_at hl 3 rfl) ?_
  refine va_get (D := D) (ci := 3) (v := .ref b8) (C := RX3) (T := TX3) (N := 18) hx hb hts inX3 hown hK hP 0 rfl rfl 8 (by decide) (hts _ kw_444) (fun _ h9 => h9) rfl dX3_dealByLots_59 ?_
  refine lv_iload_n hx hb dX3_dealByLots_62 rfl (lv_at hl 2 rfl) ?_
  refine lv_aload_n hx hb dX3_dealByLots_63 rfl (lv_at hl 3 rfl) ?_
  refine va_get (D := D) (ci := 3) (v := .ref b8) (C := RX3) (T := TX3) (N := 18) hx hb hts inX3 hown hK hP 0 rfl rfl 8 (by decide) (hts _ kw_444) (fun _ h9 => h9) rfl dX3_dealByLots_64 ?_
  refine lv_iload_n hx hb dX3_dealByLots_67 rfl (lv_at hl 1 rfl) ?_
  refine va_iald hx hb hK hP 4 2 rfl rfl (vp_in_nI (Nat.lt_of_lt_of_le (lotv_lt (by decide) _ _) (by decide)) (by decide)) dX3_dealByLots_68 ?_
  refine va_iast hx hb hK hP hD hS 4 2 rfl rfl (z_in (by decide)) dX3_dealByLots_69 (fun H locs hP hD hS => ?_)
  obtain ⟨f69_43, hf69_43⟩ : ∃ z, z = upd f77_42 ((2 : Int32).toNatClampNeg) (f77_42 ((nI (lotv 3 p1 2)) : Int32).toNatClampNeg) := ⟨_, rfl⟩
  rw [← hf69_43] at hP hD
  have hP : va_P D vwCl [(h0, .inr (3, [.ref a1, .ref gr1, .int gi2, .ref b3, .ref b4, .int gi5, .int gi6, .int gi7, .ref b8, .ref gr9, .ref gr10, .ref gr11, .ref gr12, .ref gr13, .ref gr14, .ref gr15, .ref gr16, .int gi17])), (a1, .inr (5, [.int li0, .int li1, .int li2, .int li3, .ref lr4, .ref lr5, .ref lr6, .ref lr7, .ref lr8, .int li9, .int 16, .int 4, .ref lr12, .ref lr13, .ref lr14, .int li15])), (b3, .inl (k3, 4, .inl f3)), (b4, .inl (k4, 4, .inl f4)), (b8, .inl (k8, 16, .inl f69_43))] H := hP
  have hD : va_D A [(h0, .inr (3, [.ref a1, .ref gr1, .int gi2, .ref b3, .ref b4, .int gi5, .int gi6, .int gi7, .ref b8, .ref gr9, .ref gr10, .ref gr11, .ref gr12, .ref gr13, .ref gr14, .ref gr15, .ref gr16, .int gi17])), (a1, .inr (5, [.int li0, .int li1, .int li2, .int li3, .ref lr4, .ref lr5, .ref lr6, .ref lr7, .ref lr8, .int li9, .int 16, .int 4, .ref lr12, .ref lr13, .ref lr14, .int li15])), (b3, .inl (k3, 4, .inl f3)), (b4, .inl (k4, 4, .inl f4)), (b8, .inl (k8, 16, .inl f69_43))] := hD
  refine lv_aload_n hx hb dX3_dealByLots_70 rfl (lv_at hl 3 rfl) ?_
  refine W.eq (g2 := F0 m 71 ls [.ref h0]) rfl ?_
  refine va_get (D := D) (ci := 3) (v := .ref b8) (C := RX3) (T := TX3) (N := 18) hx hb hts inX3 hown hK hP 0 rfl rfl 8 (by decide) (hts _ kw_444) (fun _ h9 => h9) rfl dX3_dealByLots_71 ?_
  refine lv_iload_n hx hb dX3_dealByLots_74 rfl (lv_at hl 1 rfl) ?_
  refine lv_iload hx hb dX3_dealByLots_75 (lv_at hl 0 rfl) ?_
  refine va_iast hx hb hK hP hD hS 4 2 rfl rfl (vp_in_nI (Nat.lt_of_lt_of_le (lotv_lt (by decide) _ _) (by decide)) (by decide)) dX3_dealByLots_77 (fun H locs hP hD hS => ?_)
  obtain ⟨f77_44, hf77_44⟩ : ∃ z, z = upd f69_43 (((nI (lotv 3 p1 2)) : Int32).toNatClampNeg) (f77_42 (2 : Int32).toNatClampNeg) := ⟨_, rfl⟩
  rw [← hf77_44] at hP hD
  have hP : va_P D vwCl [(h0, .inr (3, [.ref a1, .ref gr1, .int gi2, .ref b3, .ref b4, .int gi5, .int gi6, .int gi7, .ref b8, .ref gr9, .ref gr10, .ref gr11, .ref gr12, .ref gr13, .ref gr14, .ref gr15, .ref gr16, .int gi17])), (a1, .inr (5, [.int li0, .int li1, .int li2, .int li3, .ref lr4, .ref lr5, .ref lr6, .ref lr7, .ref lr8, .int li9, .int 16, .int 4, .ref lr12, .ref lr13, .ref lr14, .int li15])), (b3, .inl (k3, 4, .inl f3)), (b4, .inl (k4, 4, .inl f4)), (b8, .inl (k8, 16, .inl f77_44))] H := hP
  have hD : va_D A [(h0, .inr (3, [.ref a1, .ref gr1, .int gi2, .ref b3, .ref b4, .int gi5, .int gi6, .int gi7, .ref b8, .ref gr9, .ref gr10, .ref gr11, .ref gr12, .ref gr13, .ref gr14, .ref gr15, .ref gr16, .int gi17])), (a1, .inr (5, [.int li0, .int li1, .int li2, .int li3, .ref lr4, .ref lr5, .ref lr6, .ref lr7, .ref lr8, .int li9, .int 16, .int 4, .ref lr12, .ref lr13, .ref lr14, .int li15])), (b3, .inl (k3, 4, .inl f3)), (b4, .inl (k4, 4, .inl f4)), (b8, .inl (k8, 16, .inl f77_44))] := hD
  refine lv_iinc (v := 1) (lv' := [(2, .int 1), (4, .int (f77_42 (2 : Int32).toNatClampNeg)), (3, .int (nI (lotv 3 p1 2))), (0, .ref h0), (1, .int p1)]) hx hb dX3_dealByLots_78 hl (k := 2) rfl (by decide) (by decide) rfl (fun ls hl => ?_)
  refine lv_goto (tgt := 36) hx hb dX3_dealByLots_81 (by decide) ?_
  refine lv_iload_n hx hb dX3_dealByLots_36 rfl (lv_at hl 0 rfl) ?_
  refine lv_iconst (v := 1) hx hb dX3_dealByLots_37 (by decide) ?_
  refine lv_icmp_lt (tgt := 84) hx hb dX3_dealByLots_38 (by decide) (fun h => absurd h (by decide)) (fun _ => ?_)
  refine lv_iload_n hx hb dX3_dealByLots_41 rfl (lv_at hl 0 rfl) ?_
  refine W.eq (g2 := F0 m 42 ls [.int 1]) rfl ?_
  refine lv_iconst (v := 1) hx hb dX3_dealByLots_42 (by decide) ?_
  refine lv_iadd hx hb dX3_dealByLots_43 ?_
  refine z_i (v := 2) (by decide) ?_
  refine lv_iload_n hx hb dX3_dealByLots_44 rfl (lv_at hl 4 rfl) ?_
  refine lv_iload_n hx hb dX3_dealByLots_45 rfl (lv_at hl 0 rfl) ?_
  refine re_S (As := [.int 2, .int p1, .int 1]) (rest := []) caS_SignalTable_Game_78 hx hb hml hown hts (e_lot 2 p1 1 (by decide) (by decide)) bl_T (fun _ _ _ => trivial) (by decide) rfl hl.1 (Nat.le_of_ble_eq_true rfl) (by decide) dX3_dealByLots_46 rfl ?_
  refine lv_istore_n (lv' := [(3, .int (nI (lotv 2 p1 1))), (2, .int 1), (4, .int (f77_42 (2 : Int32).toNatClampNeg)), (0, .ref h0), (1, .int p1)]) hx hb dX3_dealByLots_49 rfl hl (by decide) rfl (fun ls hl => ?_)
  refine lv_aload_n hx hb dX3_dealByLots_50 rfl (lv_at hl 3 rfl) ?_
  refine va_get (D := D) (ci := 3) (v := .ref b8) (C := RX3) (T := TX3) (N := 18) hx hb hts inX3 hown hK hP 0 rfl rfl 8 (by decide) (hts _ kw_444) (fun _ h9 => h9) rfl dX3_dealByLots_51 ?_
  refine lv_iload_n hx hb dX3_dealByLots_54 rfl (lv_at hl 1 rfl) ?_
  refine va_iald hx hb hK hP 4 2 rfl rfl (z_in (by decide)) dX3_dealByLots_55 ?_
  refine W.eq (g2 := F0 m 56 ls [.int (f77_44 (1 : Int32).toNatClampNeg)]) rfl ?_
  refine lv_istore (lv' := [(4, .int (f77_44 (1 : Int32).toNatClampNeg)), (3, .int (nI (lotv 2 p1 1))), (2, .int 1), (0, .ref h0), (1, .int p1)]) hx hb dX3_dealByLots_56 hl (by decide) rfl (fun ls hl => ?_)
  refine lv_aload_n hx hb dX3_dealByLots_58 rfl (lv_at hl 3 rfl) ?_
  refine va_get (D := D) (ci := 3) (v := .ref b8) (C := RX3) (T := TX3) (N := 18) hx hb hts inX3 hown hK hP 0 rfl rfl 8 (by decide) (hts _ kw_444) (fun _ h9 => h9) rfl dX3_dealByLots_59 ?_
  refine lv_iload_n hx hb dX3_dealByLots_62 rfl (lv_at hl 2 rfl) ?_
  refine lv_aload_n hx hb dX3_dealByLots_63 rfl (lv_at hl 3 rfl) ?_
  refine va_get (D := D) (ci := 3) (v := .ref b8) (C := RX3) (T := TX3) (N := 18) hx hb hts inX3 hown hK hP 0 rfl rfl 8 (by decide) (hts _ kw_444) (fun _ h9 => h9) rfl dX3_dealByLots_64 ?_
  refine lv_iload_n hx hb dX3_dealByLots_67 rfl (lv_at hl 1 rfl) ?_
  refine va_iald hx hb hK hP 4 2 rfl rfl (vp_in_nI (Nat.lt_of_lt_of_le (lotv_lt (by decide) _ _) (by decide)) (by decide)) dX3_dealByLots_68 ?_
  refine va_iast hx hb hK hP hD hS 4 2 rfl rfl (z_in (by decide)) dX3_dealByLots_69 (fun H locs hP hD hS => ?_)
  obtain ⟨f69_45, hf69_45⟩ : ∃ z, z = upd f77_44 ((1 : Int32).toNatClampNeg) (f77_44 ((nI (lotv 2 p1 1)) : Int32).toNatClampNeg) := ⟨_, rfl⟩
  rw [← hf69_45] at hP hD
  have hP : va_P D vwCl [(h0, .inr (3, [.ref a1, .ref gr1, .int gi2, .ref b3, .ref b4, .int gi5, .int gi6, .int gi7, .ref b8, .ref gr9, .ref gr10, .ref gr11, .ref gr12, .ref gr13, .ref gr14, .ref gr15, .ref gr16, .int gi17])), (a1, .inr (5, [.int li0, .int li1, .int li2, .int li3, .ref lr4, .ref lr5, .ref lr6, .ref lr7, .ref lr8, .int li9, .int 16, .int 4, .ref lr12, .ref lr13, .ref lr14, .int li15])), (b3, .inl (k3, 4, .inl f3)), (b4, .inl (k4, 4, .inl f4)), (b8, .inl (k8, 16, .inl f69_45))] H := hP
  have hD : va_D A [(h0, .inr (3, [.ref a1, .ref gr1, .int gi2, .ref b3, .ref b4, .int gi5, .int gi6, .int gi7, .ref b8, .ref gr9, .ref gr10, .ref gr11, .ref gr12, .ref gr13, .ref gr14, .ref gr15, .ref gr16, .int gi17])), (a1, .inr (5, [.int li0, .int li1, .int li2, .int li3, .ref lr4, .ref lr5, .ref lr6, .ref lr7, .ref lr8, .int li9, .int 16, .int 4, .ref lr12, .ref lr13, .ref lr14, .int li15])), (b3, .inl (k3, 4, .inl f3)), (b4, .inl (k4, 4, .inl f4)), (b8, .inl (k8, 16, .inl f69_45))] := hD
  refine lv_aload_n hx hb dX3_dealByLots_70 rfl (lv_at hl 3 rfl) ?_
  refine W.eq (g2 := F0 m 71 ls [.ref h0]) rfl ?_
  refine va_get (D := D) (ci := 3) (v := .ref b8) (C := RX3) (T := TX3) (N := 18) hx hb hts inX3 hown hK hP 0 rfl rfl 8 (by decide) (hts _ kw_444) (fun _ h9 => h9) rfl dX3_dealByLots_71 ?_
  refine lv_iload_n hx hb dX3_dealByLots_74 rfl (lv_at hl 1 rfl) ?_
  refine lv_iload hx hb dX3_dealByLots_75 (lv_at hl 0 rfl) ?_
  refine va_iast hx hb hK hP hD hS 4 2 rfl rfl (vp_in_nI (Nat.lt_of_lt_of_le (lotv_lt (by decide) _ _) (by decide)) (by decide)) dX3_dealByLots_77 (fun H locs hP hD hS => ?_)
  obtain ⟨f77_46, hf77_46⟩ : ∃ z, z = upd f69_45 (((nI (lotv 2 p1 1)) : Int32).toNatClampNeg) (f77_44 (1 : Int32).toNatClampNeg) := ⟨_, rfl⟩
  rw [← hf77_46] at hP hD
  have hP : va_P D vwCl [(h0, .inr (3, [.ref a1, .ref gr1, .int gi2, .ref b3, .ref b4, .int gi5, .int gi6, .int gi7, .ref b8, .ref gr9, .ref gr10, .ref gr11, .ref gr12, .ref gr13, .ref gr14, .ref gr15, .ref gr16, .int gi17])), (a1, .inr (5, [.int li0, .int li1, .int li2, .int li3, .ref lr4, .ref lr5, .ref lr6, .ref lr7, .ref lr8, .int li9, .int 16, .int 4, .ref lr12, .ref lr13, .ref lr14, .int li15])), (b3, .inl (k3, 4, .inl f3)), (b4, .inl (k4, 4, .inl f4)), (b8, .inl (k8, 16, .inl f77_46))] H := hP
  have hD : va_D A [(h0, .inr (3, [.ref a1, .ref gr1, .int gi2, .ref b3, .ref b4, .int gi5, .int gi6, .int gi7, .ref b8, .ref gr9, .ref gr10, .ref gr11, .ref gr12, .ref gr13, .ref gr14, .ref gr15, .ref gr16, .int gi17])), (a1, .inr (5, [.int li0, .int li1, .int li2, .int li3, .ref lr4, .ref lr5, .ref lr6, .ref lr7, .ref lr8, .int li9, .int 16, .int 4, .ref lr12, .ref lr13, .ref lr14, .int li15])), (b3, .inl (k3, 4, .inl f3)), (b4, .inl (k4, 4, .inl f4)), (b8, .inl (k8, 16, .inl f77_46))] := hD
  refine lv_iinc (v := 0) (lv' := [(2, .int 0), (4, .int (f77_44 (1 : Int32).toNatClampNeg)), (3, .int (nI (lotv 2 p1 1))), (0, .ref h0), (1, .int p1)]) hx hb dX3_dealByLots_78 hl (k := 2) rfl (by decide) (by decide) rfl (fun ls hl => ?_)
  refine lv_goto (tgt := 36) hx hb dX3_dealByLots_81 (by decide) ?_
  refine lv_iload_n hx hb dX3_dealByLots_36 rfl (lv_at hl 0 rfl) ?_
  refine lv_iconst (v := 1) hx hb dX3_dealByLots_37 (by decide) ?_
  refine lv_icmp_lt (tgt := 84) hx hb dX3_dealByLots_38 (by decide) (fun _ => ?_) (fun h => absurd (by decide) h)
  refine lv_aload_n hx hb dX3_dealByLots_84 rfl (lv_at hl 3 rfl) ?_
  refine W.eq (g2 := F0 m 85 ls [.ref h0]) rfl ?_
  refine lv_aload_n hx hb dX3_dealByLots_85 rfl (lv_at hl 3 rfl) ?_
  refine lv_iconst (v := 0) hx hb dX3_dealByLots_86 (by decide) ?_
  refine rd_V (As := [.int 0]) (rest := [.ref h0]) (d := 0) caV_SignalTable_Game_82 hx hb hml hown hts (hP.sub [0, 1, 4] rfl) (hK.sub [2] rfl) (wX3_row0 h0 a1 b8 b3 b4 gr1 gi2 gi5 gi6 gi7 gr9 gr10 gr11 gr12 gr13 gr14 gr15 gr16 gi17 li0 li1 li2 li3 lr4 lr5 lr6 lr7 lr8 li9 lr12 lr13 lr14 li15 k8 f77_46) (ci := 3) (q0 := 0) rfl rfl (by decide) rfl hl.1 (Nat.le_of_ble_eq_true rfl) (by decide) dX3_dealByLots_87 rfl ?_
  refine lv_aload_n hx hb dX3_dealByLots_90 rfl (lv_at hl 3 rfl) ?_
  refine lv_iconst (v := 1) hx hb dX3_dealByLots_91 (by decide) ?_
  refine rd_V (As := [.int 1]) (rest := [.int (((((0 : Int32) ||| ((1 : Int32) <<< ((f77_46 (0 : Int32).toNatClampNeg) &&& 31))) ||| ((1 : Int32) <<< ((f77_46 (1 : Int32).toNatClampNeg) &&& 31))) ||| ((1 : Int32) <<< ((f77_46 (2 : Int32).toNatClampNeg) &&& 31))) ||| ((1 : Int32) <<< ((f77_46 (3 : Int32).toNatClampNeg) &&& 31))), .ref h0]) (d := 0) caV_SignalTable_Game_82 hx hb hml hown hts (hP.sub [0, 1, 4] rfl) (hK.sub [2] rfl) (wX3_row1 h0 a1 b8 b3 b4 gr1 gi2 gi5 gi6 gi7 gr9 gr10 gr11 gr12 gr13 gr14 gr15 gr16 gi17 li0 li1 li2 li3 lr4 lr5 lr6 lr7 lr8 li9 lr12 lr13 lr14 li15 k8 f77_46) (ci := 3) (q0 := 0) rfl rfl (by decide) rfl hl.1 (Nat.le_of_ble_eq_true rfl) (by decide) dX3_dealByLots_92 rfl ?_
  refine lv_aload_n hx hb dX3_dealByLots_95 rfl (lv_at hl 3 rfl) ?_
  refine lv_iconst (v := 2) hx hb dX3_dealByLots_96 (by decide) ?_
  refine rd_V (As := [.int 2]) (rest := [.int (((((0 : Int32) ||| ((1 : Int32) <<< ((f77_46 (4 : Int32).toNatClampNeg) &&& 31))) ||| ((1 : Int32) <<< ((f77_46 (5 : Int32).toNatClampNeg) &&& 31))) ||| ((1 : Int32) <<< ((f77_46 (6 : Int32).toNatClampNeg) &&& 31))) ||| ((1 : Int32) <<< ((f77_46 (7 : Int32).toNatClampNeg) &&& 31))), .int (((((0 : Int32) ||| ((1 : Int32) <<< ((f77_46 (0 : Int32).toNatClampNeg) &&& 31))) ||| ((1 : Int32) <<< ((f77_46 (1 : Int32).toNatClampNeg) &&& 31))) ||| ((1 : Int32) <<< ((f77_46 (2 : Int32).toNatClampNeg) &&& 31))) ||| ((1 : Int32) <<< ((f77_46 (3 : Int32).toNatClampNeg) &&& 31))), .ref h0]) (d := 0) caV_SignalTable_Game_82 hx hb hml hown hts (hP.sub [0, 1, 4] rfl) (hK.sub [2] rfl) (wX3_row2 h0 a1 b8 b3 b4 gr1 gi2 gi5 gi6 gi7 gr9 gr10 gr11 gr12 gr13 gr14 gr15 gr16 gi17 li0 li1 li2 li3 lr4 lr5 lr6 lr7 lr8 li9 lr12 lr13 lr14 li15 k8 f77_46) (ci := 3) (q0 := 0) rfl rfl (by decide) rfl hl.1 (Nat.le_of_ble_eq_true rfl) (by decide) dX3_dealByLots_97 rfl ?_
  refine lv_aload_n hx hb dX3_dealByLots_100 rfl (lv_at hl 3 rfl) ?_
  refine W.eq (g2 := F0 m 101 ls [.ref h0, .int (((((0 : Int32) ||| ((1 : Int32) <<< ((f77_46 (8 : Int32).toNatClampNeg) &&& 31))) ||| ((1 : Int32) <<< ((f77_46 (9 : Int32).toNatClampNeg) &&& 31))) ||| ((1 : Int32) <<< ((f77_46 (10 : Int32).toNatClampNeg) &&& 31))) ||| ((1 : Int32) <<< ((f77_46 (11 : Int32).toNatClampNeg) &&& 31))), .int (((((0 : Int32) ||| ((1 : Int32) <<< ((f77_46 (4 : Int32).toNatClampNeg) &&& 31))) ||| ((1 : Int32) <<< ((f77_46 (5 : Int32).toNatClampNeg) &&& 31))) ||| ((1 : Int32) <<< ((f77_46 (6 : Int32).toNatClampNeg) &&& 31))) ||| ((1 : Int32) <<< ((f77_46 (7 : Int32).toNatClampNeg) &&& 31))), .int (((((0 : Int32) ||| ((1 : Int32) <<< ((f77_46 (0 : Int32).toNatClampNeg) &&& 31))) ||| ((1 : Int32) <<< ((f77_46 (1 : Int32).toNatClampNeg) &&& 31))) ||| ((1 : Int32) <<< ((f77_46 (2 : Int32).toNatClampNeg) &&& 31))) ||| ((1 : Int32) <<< ((f77_46 (3 : Int32).toNatClampNeg) &&& 31))), .ref h0]) rfl ?_
  refine lv_iconst (v := 3) hx hb dX3_dealByLots_101 (by decide) ?_
  refine rd_V (As := [.int 3]) (rest := [.int (((((0 : Int32) ||| ((1 : Int32) <<< ((f77_46 (8 : Int32).toNatClampNeg) &&& 31))) ||| ((1 : Int32) <<< ((f77_46 (9 : Int32).toNatClampNeg) &&& 31))) ||| ((1 : Int32) <<< ((f77_46 (10 : Int32).toNatClampNeg) &&& 31))) ||| ((1 : Int32) <<< ((f77_46 (11 : Int32).toNatClampNeg) &&& 31))), .int (((((0 : Int32) ||| ((1 : Int32) <<< ((f77_46 (4 : Int32).toNatClampNeg) &&& 31))) ||| ((1 : Int32) <<< ((f77_46 (5 : Int32).toNatClampNeg) &&& 31))) ||| ((1 : Int32) <<< ((f77_46 (6 : Int32).toNatClampNeg) &&& 31))) ||| ((1 : Int32) <<< ((f77_46 (7 : Int32).toNatClampNeg) &&& 31))), .int (((((0 : Int32) ||| ((1 : Int32) <<< ((f77_46 (0 : Int32).toNatClampNeg) &&& 31))) ||| ((1 : Int32) <<< ((f77_46 (1 : Int32).toNatClampNeg) &&& 31))) ||| ((1 : Int32) <<< ((f77_46 (2 : Int32).toNatClampNeg) &&& 31))) ||| ((1 : Int32) <<< ((f77_46 (3 : Int32).toNatClampNeg) &&& 31))), .ref h0]) (d := 0) caV_SignalTable_Game_82 hx hb hml hown hts (hP.sub [0, 1, 4] rfl) (hK.sub [2] rfl) (wX3_row3 h0 a1 b8 b3 b4 gr1 gi2 gi5 gi6 gi7 gr9 gr10 gr11 gr12 gr13 gr14 gr15 gr16 gi17 li0 li1 li2 li3 lr4 lr5 lr6 lr7 lr8 li9 lr12 lr13 lr14 li15 k8 f77_46) (ci := 3) (q0 := 0) rfl rfl (by decide) rfl hl.1 (Nat.le_of_ble_eq_true rfl) (by decide) dX3_dealByLots_102 rfl ?_
  refine wr_V (As := [.int (((((0 : Int32) ||| ((1 : Int32) <<< ((f77_46 (0 : Int32).toNatClampNeg) &&& 31))) ||| ((1 : Int32) <<< ((f77_46 (1 : Int32).toNatClampNeg) &&& 31))) ||| ((1 : Int32) <<< ((f77_46 (2 : Int32).toNatClampNeg) &&& 31))) ||| ((1 : Int32) <<< ((f77_46 (3 : Int32).toNatClampNeg) &&& 31))), .int (((((0 : Int32) ||| ((1 : Int32) <<< ((f77_46 (4 : Int32).toNatClampNeg) &&& 31))) ||| ((1 : Int32) <<< ((f77_46 (5 : Int32).toNatClampNeg) &&& 31))) ||| ((1 : Int32) <<< ((f77_46 (6 : Int32).toNatClampNeg) &&& 31))) ||| ((1 : Int32) <<< ((f77_46 (7 : Int32).toNatClampNeg) &&& 31))), .int (((((0 : Int32) ||| ((1 : Int32) <<< ((f77_46 (8 : Int32).toNatClampNeg) &&& 31))) ||| ((1 : Int32) <<< ((f77_46 (9 : Int32).toNatClampNeg) &&& 31))) ||| ((1 : Int32) <<< ((f77_46 (10 : Int32).toNatClampNeg) &&& 31))) ||| ((1 : Int32) <<< ((f77_46 (11 : Int32).toNatClampNeg) &&& 31))), .int (((((0 : Int32) ||| ((1 : Int32) <<< ((f77_46 (12 : Int32).toNatClampNeg) &&& 31))) ||| ((1 : Int32) <<< ((f77_46 (13 : Int32).toNatClampNeg) &&& 31))) ||| ((1 : Int32) <<< ((f77_46 (14 : Int32).toNatClampNeg) &&& 31))) ||| ((1 : Int32) <<< ((f77_46 (15 : Int32).toNatClampNeg) &&& 31)))]) (rest := []) caV_SignalTable_Game_86 hx hb hml hown hts hP hD hK hS hA (isC := [0, 2, 3]) (isR := [1, 4]) (isT := [0, 1]) (wr := [(a1, .inr (5, [.int li0, .int li1, .int li2, .int li3, .ref lr4, .ref lr5, .ref lr6, .ref lr7, .ref lr8, .int li9, .int 16, .int 4, .ref lr12, .ref lr13, .ref lr14, .int li15])), (b8, .inl (k8, 16, .inl f77_46))]) ⟨rfl, rfl, rfl, rfl, by decide⟩ rfl (wX3_begin h0 a1 b8 b3 b4 gr1 gi2 gi5 gi6 gi7 gr9 gr10 gr11 gr12 gr13 gr14 gr15 gr16 gi17 k3 f3 k4 f4 (((((0 : Int32) ||| ((1 : Int32) <<< ((f77_46 (0 : Int32).toNatClampNeg) &&& 31))) ||| ((1 : Int32) <<< ((f77_46 (1 : Int32).toNatClampNeg) &&& 31))) ||| ((1 : Int32) <<< ((f77_46 (2 : Int32).toNatClampNeg) &&& 31))) ||| ((1 : Int32) <<< ((f77_46 (3 : Int32).toNatClampNeg) &&& 31))) (((((0 : Int32) ||| ((1 : Int32) <<< ((f77_46 (4 : Int32).toNatClampNeg) &&& 31))) ||| ((1 : Int32) <<< ((f77_46 (5 : Int32).toNatClampNeg) &&& 31))) ||| ((1 : Int32) <<< ((f77_46 (6 : Int32).toNatClampNeg) &&& 31))) ||| ((1 : Int32) <<< ((f77_46 (7 : Int32).toNatClampNeg) &&& 31))) (((((0 : Int32) ||| ((1 : Int32) <<< ((f77_46 (8 : Int32).toNatClampNeg) &&& 31))) ||| ((1 : Int32) <<< ((f77_46 (9 : Int32).toNatClampNeg) &&& 31))) ||| ((1 : Int32) <<< ((f77_46 (10 : Int32).toNatClampNeg) &&& 31))) ||| ((1 : Int32) <<< ((f77_46 (11 : Int32).toNatClampNeg) &&& 31))) (((((0 : Int32) ||| ((1 : Int32) <<< ((f77_46 (12 : Int32).toNatClampNeg) &&& 31))) ||| ((1 : Int32) <<< ((f77_46 (13 : Int32).toNatClampNeg) &&& 31))) ||| ((1 : Int32) <<< ((f77_46 (14 : Int32).toNatClampNeg) &&& 31))) ||| ((1 : Int32) <<< ((f77_46 (15 : Int32).toNatClampNeg) &&& 31)))) bl_T (fun _ _ _ => trivial) (ci := 3) (q0 := 0) rfl rfl (by decide) rfl hl.1 (Nat.le_of_ble_eq_true rfl) (by decide) dX3_dealByLots_105 rfl (fun q47 k47 g47 l47 H locs hP hD hK hS => ?_)
  have hP : va_P D vwCl [(a1, .inr (5, [.int li0, .int li1, .int li2, .int li3, .ref lr4, .ref lr5, .ref lr6, .ref lr7, .ref lr8, .int li9, .int 16, .int 4, .ref lr12, .ref lr13, .ref lr14, .int li15])), (b8, .inl (k8, 16, .inl f77_46))] H := hP
  have hD : va_D A [(a1, .inr (5, [.int li0, .int li1, .int li2, .int li3, .ref lr4, .ref lr5, .ref lr6, .ref lr7, .ref lr8, .int li9, .int 16, .int 4, .ref lr12, .ref lr13, .ref lr14, .int li15])), (b8, .inl (k8, 16, .inl f77_46))] := hD
  have hK : va_K D vwCl [(k3, .int), (k4, .int), (k8, .int)] s := hK
  refine W.cs (cells' := 0) (slots' := 0) rfl rfl ?_
  have hK : va_K D vwCl [(k8, .int)] s := hK.sub [2] rfl
  exact wr_v (q := (fun _ => 0)) (k := (fun _ => 0)) (g := (fun _ => fun _ => 0)) (gl := (fun _ => fun _ => 0)) hx hb hr hlocks hS (hP.sub [] rfl) (hK.sub [] rfl) (hD.sub [] (by decide) rfl) dX3_dealByLots_108
set_option maxHeartbeats 4000000 in
set_option maxRecDepth 100000 in
theorem wX11_deal {l : Launch} {D : va_G} {sz : Nat} (q : Nat → Nat) (k : Nat → ClassId) (g : Nat → Nat → Int32) (gl : Nat → Nat → Int64) (p1 : Int32) : Wi l yX11_deal cX11_deal 2 (some .boolean) 3 0 0 D [((q 0), .inr (11, [.ref (q 1), .int 0, .ref (q 2), .ref (q 30), .ref (q 6), .ref (q 11), .ref (q 15), .ref (q 16), .ref (q 19), .ref (q 31), .ref (q 21), .ref (q 22), .ref (q 24), .ref (q 25)])), ((q 1), .inl ((k 1), 2000, .inl (g 1))), ((q 2), .inr (5, [.int 4, .int 4, .int (-1), .int 0, .ref (q 32), .ref (q 33), .ref (q 34), .ref (q 35), .ref (q 36), .int 0, .int 16, .int 4, .ref (q 3), .ref (q 4), .ref (q 5), .int 1820])), ((q 3), .inl ((k 3), 4, .inl (g 3))), ((q 4), .inl ((k 4), 16, .inl (g 4))), ((q 5), .inl ((k 5), 1820, .inl (g 5))), ((q 6), .inr (8, [.ref (q 7), .ref (q 2), .ref (q 37), .int 0, .int 0, .int 0, .int 0, .int 0, .int (-1), .int 0, .int 0])), ((q 7), .inr (9, [.ref (q 8), .ref (q 9), .ref (q 10), .ref (q 38), .int 0])), ((q 8), .inl ((k 8), 402, .inl (g 8))), ((q 9), .inl ((k 9), 402, .inl (g 9))), ((q 10), .inl ((k 10), 402, .inr (.inl (gl 10)))), ((q 11), .inr (3, [.ref (q 2), .ref (q 30), .int 0, .ref (q 12), .ref (q 13), .int 0, .int (-2), .int 0, .ref (q 14), .ref (q 50), .ref (q 51), .ref (q 52), .ref (q 53), .ref (q 54), .ref (q 55), .ref (q 56), .ref (q 57), .int 0])), ((q 12), .inl ((k 12), 4, .inl (g 12))), ((q 13), .inl ((k 13), 4, .inl (g 13))), ((q 14), .inl ((k 14), 16, .inl (g 14))), ((q 15), .inr (3, [.ref (q 2), .ref (q 30), .int 0, .ref (q 60), .ref (q 61), .int 0, .int (-2), .int 0, .ref (q 62), .ref (q 63), .ref (q 64), .ref (q 65), .ref (q 66), .ref (q 67), .ref (q 68), .ref (q 69), .ref (q 70), .int 0])), ((q 16), .inl ((k 16), 2, .inr (.inr (.inr (.inr (va_up (va_up (fun _ => none) 0 (some (q 17))) 1 (some (q 18)))))))), ((q 17), .inr (3, [.ref (q 2), .ref (q 30), .int 0, .ref (q 72), .ref (q 73), .int 0, .int (-2), .int 0, .ref (q 74), .ref (q 75), .ref (q 76), .ref (q 77), .ref (q 78), .ref (q 79), .ref (q 80), .ref (q 81), .ref (q 82), .int 0])), ((q 18), .inr (3, [.ref (q 2), .ref (q 30), .int 0, .ref (q 84), .ref (q 85), .int 0, .int (-2), .int 0, .ref (q 86), .ref (q 87), .ref (q 88), .ref (q 89), .ref (q 90), .ref (q 91), .ref (q 92), .ref (q 93), .ref (q 94), .int 0])), ((q 19), .inr (6, [.ref (q 2), .ref (q 3), .ref (q 4), .ref (q 39), .int 0, .int 0, .int 0, .int 0, .ref (q 40), .int 0, .int 1, .ref (q 20), .ref (q 41), .int (-1)])), ((q 20), .inl ((k 20), 4, .inl (g 20))), ((q 21), .inr (10, [.ref (q 31), .ref (q 19), .ref (q 42), .int 0, .null, .int 0, .int 0])), ((q 22), .inr (2, [.ref (q 15), .ref (q 21), .ref (q 23)])), ((q 23), .inl ((k 23), 1024, .inl (g 23))), ((q 24), .inr (0, [.ref (q 43), .ref (q 44), .int 0])), ((q 25), .inr (7, [.ref (q 2), .ref (q 30)]))] [((k 1), .byte), ((k 3), .int), ((k 4), .int), ((k 5), .int), ((k 8), .int), ((k 9), .int), ((k 10), .long), ((k 12), .int), ((k 13), .int), ((k 14), .int), ((k 16), .object "SignalTable$Game"), ((k 20), .int), ((k 23), .int)] [.ref (q 0), .int p1] sz (fun _ => True) 1 (fun qz kz gz lz => []) (fun kz => []) := by
  refine Wi.of (by decide) (Nat.le_of_ble_eq_true rfl) ?_
  intro p e s m below meth c ls A hx hb hr hml hown hts hlocks hin hP hK hD hA hS hE hAe hl
  have hown : s.vm.findClass "SignalTable" = some m.cls := hown
  have hin : meth.name = "deal" := hin
  skip
  have hl : lv_has ls 2 [(0, .ref (q 0)), (1, .int p1)] := hl
  refine lv_aload_n hx hb dX11_deal_0 rfl (lv_at hl 0 rfl) ?_
  refine va_get (D := D) (ci := 11) (v := .ref (q 11)) (C := RX11) (T := TX11) (N := 14) hx hb hts inX11 hown hK hP 0 rfl rfl 5 (by decide) (hts _ kw_712) (fun _ h9 => h9) rfl dX11_deal_1 ?_
  refine lv_iload_n hx hb dX11_deal_4 rfl (lv_at hl 1 rfl) ?_
  refine wr_V (As := [.int p1]) (rest := []) caV_SignalTable_133 hx hb hml hown hts hP hD hK hS hA (isC := [11, 2, 12, 13, 14]) (isR := [0, 1, 3, 4, 5, 6, 7, 8, 9, 10, 15, 16, 17, 18, 19, 20, 21, 22, 23, 24, 25]) (isT := [7, 8, 9]) (wr := [((q 0), .inr (11, [.ref (q 1), .int 0, .ref (q 2), .ref (q 30), .ref (q 6), .ref (q 11), .ref (q 15), .ref (q 16), .ref (q 19), .ref (q 31), .ref (q 21), .ref (q 22), .ref (q 24), .ref (q 25)])), ((q 1), .inl ((k 1), 2000, .inl (g 1))), ((q 3), .inl ((k 3), 4, .inl (g 3))), ((q 4), .inl ((k 4), 16, .inl (g 4))), ((q 5), .inl ((k 5), 1820, .inl (g 5))), ((q 6), .inr (8, [.ref (q 7), .ref (q 2), .ref (q 37), .int 0, .int 0, .int 0, .int 0, .int 0, .int (-1), .int 0, .int 0])), ((q 7), .inr (9, [.ref (q 8), .ref (q 9), .ref (q 10), .ref (q 38), .int 0])), ((q 8), .inl ((k 8), 402, .inl (g 8))), ((q 9), .inl ((k 9), 402, .inl (g 9))), ((q 10), .inl ((k 10), 402, .inr (.inl (gl 10)))), ((q 15), .inr (3, [.ref (q 2), .ref (q 30), .int 0, .ref (q 60), .ref (q 61), .int 0, .int (-2), .int 0, .ref (q 62), .ref (q 63), .ref (q 64), .ref (q 65), .ref (q 66), .ref (q 67), .ref (q 68), .ref (q 69), .ref (q 70), .int 0])), ((q 16), .inl ((k 16), 2, .inr (.inr (.inr (.inr (va_up (va_up (fun _ => none) 0 (some (q 17))) 1 (some (q 18)))))))), ((q 17), .inr (3, [.ref (q 2), .ref (q 30), .int 0, .ref (q 72), .ref (q 73), .int 0, .int (-2), .int 0, .ref (q 74), .ref (q 75), .ref (q 76), .ref (q 77), .ref (q 78), .ref (q 79), .ref (q 80), .ref (q 81), .ref (q 82), .int 0])), ((q 18), .inr (3, [.ref (q 2), .ref (q 30), .int 0, .ref (q 84), .ref (q 85), .int 0, .int (-2), .int 0, .ref (q 86), .ref (q 87), .ref (q 88), .ref (q 89), .ref (q 90), .ref (q 91), .ref (q 92), .ref (q 93), .ref (q 94), .int 0])), ((q 19), .inr (6, [.ref (q 2), .ref (q 3), .ref (q 4), .ref (q 39), .int 0, .int 0, .int 0, .int 0, .ref (q 40), .int 0, .int 1, .ref (q 20), .ref (q 41), .int (-1)])), ((q 20), .inl ((k 20), 4, .inl (g 20))), ((q 21), .inr (10, [.ref (q 31), .ref (q 19), .ref (q 42), .int 0, .null, .int 0, .int 0])), ((q 22), .inr (2, [.ref (q 15), .ref (q 21), .ref (q 23)])), ((q 23), .inl ((k 23), 1024, .inl (g 23))), ((q 24), .inr (0, [.ref (q 43), .ref (q 44), .int 0])), ((q 25), .inr (7, [.ref (q 2), .ref (q 30)]))]) ⟨rfl, rfl, rfl, rfl, by decide⟩ rfl (wX3_dealByLots (q 11) (q 2) (q 14) (q 12) (q 13) (q 30) 0 0 (-2) 0 (q 50) (q 51) (q 52) (q 53) (q 54) (q 55) (q 56) (q 57) 0 4 4 (-1) 0 (q 32) (q 33) (q 34) (q 35) (q 36) 0 (q 3) (q 4) (q 5) 1820 (k 12) (g 12) (k 13) (g 13) (k 14) (g 14) p1) bl_T (fun _ _ _ => trivial) (ci := 3) (q0 := 11) rfl rfl (by decide) rfl hl.1 (Nat.le_of_ble_eq_true rfl) (by decide) dX11_deal_5 rfl (fun q1 k1 g1 l1 H locs hP hD hK hS => ?_)
  have hP : va_P D vwCl [((q 0), .inr (11, [.ref (q 1), .int 0, .ref (q 2), .ref (q 30), .ref (q 6), .ref (q 11), .ref (q 15), .ref (q 16), .ref (q 19), .ref (q 31), .ref (q 21), .ref (q 22), .ref (q 24), .ref (q 25)])), ((q 1), .inl ((k 1), 2000, .inl (g 1))), ((q 3), .inl ((k 3), 4, .inl (g 3))), ((q 4), .inl ((k 4), 16, .inl (g 4))), ((q 5), .inl ((k 5), 1820, .inl (g 5))), ((q 6), .inr (8, [.ref (q 7), .ref (q 2), .ref (q 37), .int 0, .int 0, .int 0, .int 0, .int 0, .int (-1), .int 0, .int 0])), ((q 7), .inr (9, [.ref (q 8), .ref (q 9), .ref (q 10), .ref (q 38), .int 0])), ((q 8), .inl ((k 8), 402, .inl (g 8))), ((q 9), .inl ((k 9), 402, .inl (g 9))), ((q 10), .inl ((k 10), 402, .inr (.inl (gl 10)))), ((q 15), .inr (3, [.ref (q 2), .ref (q 30), .int 0, .ref (q 60), .ref (q 61), .int 0, .int (-2), .int 0, .ref (q 62), .ref (q 63), .ref (q 64), .ref (q 65), .ref (q 66), .ref (q 67), .ref (q 68), .ref (q 69), .ref (q 70), .int 0])), ((q 16), .inl ((k 16), 2, .inr (.inr (.inr (.inr (va_up (va_up (fun _ => none) 0 (some (q 17))) 1 (some (q 18)))))))), ((q 17), .inr (3, [.ref (q 2), .ref (q 30), .int 0, .ref (q 72), .ref (q 73), .int 0, .int (-2), .int 0, .ref (q 74), .ref (q 75), .ref (q 76), .ref (q 77), .ref (q 78), .ref (q 79), .ref (q 80), .ref (q 81), .ref (q 82), .int 0])), ((q 18), .inr (3, [.ref (q 2), .ref (q 30), .int 0, .ref (q 84), .ref (q 85), .int 0, .int (-2), .int 0, .ref (q 86), .ref (q 87), .ref (q 88), .ref (q 89), .ref (q 90), .ref (q 91), .ref (q 92), .ref (q 93), .ref (q 94), .int 0])), ((q 19), .inr (6, [.ref (q 2), .ref (q 3), .ref (q 4), .ref (q 39), .int 0, .int 0, .int 0, .int 0, .ref (q 40), .int 0, .int 1, .ref (q 20), .ref (q 41), .int (-1)])), ((q 20), .inl ((k 20), 4, .inl (g 20))), ((q 21), .inr (10, [.ref (q 31), .ref (q 19), .ref (q 42), .int 0, .null, .int 0, .int 0])), ((q 22), .inr (2, [.ref (q 15), .ref (q 21), .ref (q 23)])), ((q 23), .inl ((k 23), 1024, .inl (g 23))), ((q 24), .inr (0, [.ref (q 43), .ref (q 44), .int 0])), ((q 25), .inr (7, [.ref (q 2), .ref (q 30)]))] H := hP
  have hD : va_D A [((q 0), .inr (11, [.ref (q 1), .int 0, .ref (q 2), .ref (q 30), .ref (q 6), .ref (q 11), .ref (q 15), .ref (q 16), .ref (q 19), .ref (q 31), .ref (q 21), .ref (q 22), .ref (q 24), .ref (q 25)])), ((q 1), .inl ((k 1), 2000, .inl (g 1))), ((q 3), .inl ((k 3), 4, .inl (g 3))), ((q 4), .inl ((k 4), 16, .inl (g 4))), ((q 5), .inl ((k 5), 1820, .inl (g 5))), ((q 6), .inr (8, [.ref (q 7), .ref (q 2), .ref (q 37), .int 0, .int 0, .int 0, .int 0, .int 0, .int (-1), .int 0, .int 0])), ((q 7), .inr (9, [.ref (q 8), .ref (q 9), .ref (q 10), .ref (q 38), .int 0])), ((q 8), .inl ((k 8), 402, .inl (g 8))), ((q 9), .inl ((k 9), 402, .inl (g 9))), ((q 10), .inl ((k 10), 402, .inr (.inl (gl 10)))), ((q 15), .inr (3, [.ref (q 2), .ref (q 30), .int 0, .ref (q 60), .ref (q 61), .int 0, .int (-2), .int 0, .ref (q 62), .ref (q 63), .ref (q 64), .ref (q 65), .ref (q 66), .ref (q 67), .ref (q 68), .ref (q 69), .ref (q 70), .int 0])), ((q 16), .inl ((k 16), 2, .inr (.inr (.inr (.inr (va_up (va_up (fun _ => none) 0 (some (q 17))) 1 (some (q 18)))))))), ((q 17), .inr (3, [.ref (q 2), .ref (q 30), .int 0, .ref (q 72), .ref (q 73), .int 0, .int (-2), .int 0, .ref (q 74), .ref (q 75), .ref (q 76), .ref (q 77), .ref (q 78), .ref (q 79), .ref (q 80), .ref (q 81), .ref (q 82), .int 0])), ((q 18), .inr (3, [.ref (q 2), .ref (q 30), .int 0, .ref (q 84), .ref (q 85), .int 0, .int (-2), .int 0, .ref (q 86), .ref (q 87), .ref (q 88), .ref (q 89), .ref (q 90), .ref (q 91), .ref (q 92), .ref (q 93), .ref (q 94), .int 0])), ((q 19), .inr (6, [.ref (q 2), .ref (q 3), .ref (q 4), .ref (q 39), .int 0, .int 0, .int 0, .int 0, .ref (q 40), .int 0, .int 1, .ref (q 20), .ref (q 41), .int (-1)])), ((q 20), .inl ((k 20), 4, .inl (g 20))), ((q 21), .inr (10, [.ref (q 31), .ref (q 19), .ref (q 42), .int 0, .null, .int 0, .int 0])), ((q 22), .inr (2, [.ref (q 15), .ref (q 21), .ref (q 23)])), ((q 23), .inl ((k 23), 1024, .inl (g 23))), ((q 24), .inr (0, [.ref (q 43), .ref (q 44), .int 0])), ((q 25), .inr (7, [.ref (q 2), .ref (q 30)]))] := hD
  have hK : va_K D vwCl [((k 1), .byte), ((k 3), .int), ((k 4), .int), ((k 5), .int), ((k 8), .int), ((k 9), .int), ((k 10), .long), ((k 12), .int), ((k 13), .int), ((k 14), .int), ((k 16), .object "SignalTable$Game"), ((k 20), .int), ((k 23), .int)] s := hK
  refine W.cs (cells' := 0) (slots' := 0) rfl rfl ?_
  have hK : va_K D vwCl [((k 1), .byte), ((k 3), .int), ((k 4), .int), ((k 5), .int), ((k 8), .int), ((k 9), .int), ((k 10), .long), ((k 16), .object "SignalTable$Game"), ((k 20), .int), ((k 23), .int)] s := hK.sub [0, 1, 2, 3, 4, 5, 6, 10, 11, 12] rfl
  refine lv_iconst (v := 1) hx hb dX11_deal_8 (by decide) ?_
  exact wr_z (q := (fun _ => 0)) (k := (fun _ => 0)) (g := (fun _ => fun _ => 0)) (gl := (fun _ => fun _ => 0)) hx hb hr hlocks rfl (rfl) hS (hP.sub [] rfl) (hK.sub [] rfl) (hD.sub [] (by decide) rfl) dX11_deal_9
set_option maxHeartbeats 4000000 in
set_option maxRecDepth 100000 in
theorem j_bitCount {l : Launch} (p1 : Int32) : RdE l yJ6_bitCount_0f7a4 cJ6_bitCount_0f7a4 1 (some .int) 0 (fun _ => True) [.int p1] (.int (sbc p1)) := by
  refine RdE.of (by decide) (Nat.le_of_ble_eq_true rfl) ?_
  intro p e s m below meth c ls hx hb hr hml hown hts hlocks hE hl
  have hown : s.vm.findClass "java/lang/Integer" = some m.cls := hown
  have hl : lv_has ls 1 [(0, .int p1)] := hl
  refine lv_iload_n hx hb dJ6_bitCount_0f7a4_0 rfl (lv_at hl 0 rfl) ?_
  refine lv_iload_n hx hb dJ6_bitCount_0f7a4_1 rfl (lv_at hl 0 rfl) ?_
  refine lv_iconst (v := 1) hx hb dJ6_bitCount_0f7a4_2 (by decide) ?_
  refine lv_iushr (v := (jush p1 1)) hx hb dJ6_bitCount_0f7a4_3 rfl ?_
  refine lv_ldcw (v := 1431655765) hx hb hown (hts _ kw_946) dJ6_bitCount_0f7a4_4 ?_
  refine lv_iand hx hb dJ6_bitCount_0f7a4_7 ?_
  refine lv_isub hx hb dJ6_bitCount_0f7a4_8 ?_
  refine lv_istore_n (lv' := [(0, .int (p1 - ((jush p1 1) &&& 1431655765)))]) hx hb dJ6_bitCount_0f7a4_9 rfl hl (by decide) rfl (fun ls hl => ?_)
  refine lv_iload_n hx hb dJ6_bitCount_0f7a4_10 rfl (lv_at hl 0 rfl) ?_
  refine lv_ldcw (v := 858993459) hx hb hown (hts _ kw_947) dJ6_bitCount_0f7a4_11 ?_
  refine lv_iand hx hb dJ6_bitCount_0f7a4_14 ?_
  refine lv_iload_n hx hb dJ6_bitCount_0f7a4_15 rfl (lv_at hl 0 rfl) ?_
  refine lv_iconst (v := 2) hx hb dJ6_bitCount_0f7a4_16 (by decide) ?_
  refine lv_iushr (v := (jush (p1 - ((jush p1 1) &&& 1431655765)) 2)) hx hb dJ6_bitCount_0f7a4_17 rfl ?_
  refine lv_ldcw (v := 858993459) hx hb hown (hts _ kw_947) dJ6_bitCount_0f7a4_18 ?_
  refine lv_iand hx hb dJ6_bitCount_0f7a4_21 ?_
  refine lv_iadd hx hb dJ6_bitCount_0f7a4_22 ?_
  refine lv_istore_n (lv' := [(0, .int (((p1 - ((jush p1 1) &&& 1431655765)) &&& 858993459) + ((jush (p1 - ((jush p1 1) &&& 1431655765)) 2) &&& 858993459)))]) hx hb dJ6_bitCount_0f7a4_23 rfl hl (by decide) rfl (fun ls hl => ?_)
  refine lv_iload_n hx hb dJ6_bitCount_0f7a4_24 rfl (lv_at hl 0 rfl) ?_
  refine lv_iload_n hx hb dJ6_bitCount_0f7a4_25 rfl (lv_at hl 0 rfl) ?_
  refine lv_iconst (v := 4) hx hb dJ6_bitCount_0f7a4_26 (by decide) ?_
  refine lv_iushr (v := (jush (((p1 - ((jush p1 1) &&& 1431655765)) &&& 858993459) + ((jush (p1 - ((jush p1 1) &&& 1431655765)) 2) &&& 858993459)) 4)) hx hb dJ6_bitCount_0f7a4_27 rfl ?_
  refine lv_iadd hx hb dJ6_bitCount_0f7a4_28 ?_
  refine lv_ldcw (v := 252645135) hx hb hown (hts _ kw_948) dJ6_bitCount_0f7a4_29 ?_
  refine lv_iand hx hb dJ6_bitCount_0f7a4_32 ?_
  refine lv_istore_n (lv' := [(0, .int (((((p1 - ((jush p1 1) &&& 1431655765)) &&& 858993459) + ((jush (p1 - ((jush p1 1) &&& 1431655765)) 2) &&& 858993459)) + (jush (((p1 - ((jush p1 1) &&& 1431655765)) &&& 858993459) + ((jush (p1 - ((jush p1 1) &&& 1431655765)) 2) &&& 858993459)) 4)) &&& 252645135))]) hx hb dJ6_bitCount_0f7a4_33 rfl hl (by decide) rfl (fun ls hl => ?_)
  refine lv_iload_n hx hb dJ6_bitCount_0f7a4_34 rfl (lv_at hl 0 rfl) ?_
  refine lv_iload_n hx hb dJ6_bitCount_0f7a4_35 rfl (lv_at hl 0 rfl) ?_
  refine lv_bipush (v := 8) hx hb dJ6_bitCount_0f7a4_36 (by decide) ?_
  refine lv_iushr (v := (jush (((((p1 - ((jush p1 1) &&& 1431655765)) &&& 858993459) + ((jush (p1 - ((jush p1 1) &&& 1431655765)) 2) &&& 858993459)) + (jush (((p1 - ((jush p1 1) &&& 1431655765)) &&& 858993459) + ((jush (p1 - ((jush p1 1) &&& 1431655765)) 2) &&& 858993459)) 4)) &&& 252645135) 8)) hx hb dJ6_bitCount_0f7a4_38 rfl ?_
  refine lv_iadd hx hb dJ6_bitCount_0f7a4_39 ?_
  refine lv_istore_n (lv' := [(0, .int ((((((p1 - ((jush p1 1) &&& 1431655765)) &&& 858993459) + ((jush (p1 - ((jush p1 1) &&& 1431655765)) 2) &&& 858993459)) + (jush (((p1 - ((jush p1 1) &&& 1431655765)) &&& 858993459) + ((jush (p1 - ((jush p1 1) &&& 1431655765)) 2) &&& 858993459)) 4)) &&& 252645135) + (jush (((((p1 - ((jush p1 1) &&& 1431655765)) &&& 858993459) + ((jush (p1 - ((jush p1 1) &&& 1431655765)) 2) &&& 858993459)) + (jush (((p1 - ((jush p1 1) &&& 1431655765)) &&& 858993459) + ((jush (p1 - ((jush p1 1) &&& 1431655765)) 2) &&& 858993459)) 4)) &&& 252645135) 8)))]) hx hb dJ6_bitCount_0f7a4_40 rfl hl (by decide) rfl (fun ls hl => ?_)
  refine lv_iload_n hx hb dJ6_bitCount_0f7a4_41 rfl (lv_at hl 0 rfl) ?_
  refine lv_iload_n hx hb dJ6_bitCount_0f7a4_42 rfl (lv_at hl 0 rfl) ?_
  refine lv_bipush (v := 16) hx hb dJ6_bitCount_0f7a4_43 (by decide) ?_
  refine lv_iushr (v := (jush ((((((p1 - ((jush p1 1) &&& 1431655765)) &&& 858993459) + ((jush (p1 - ((jush p1 1) &&& 1431655765)) 2) &&& 858993459)) + (jush (((p1 - ((jush p1 1) &&& 1431655765)) &&& 858993459) + ((jush (p1 - ((jush p1 1) &&& 1431655765)) 2) &&& 858993459)) 4)) &&& 252645135) + (jush (((((p1 - ((jush p1 1) &&& 1431655765)) &&& 858993459) + ((jush (p1 - ((jush p1 1) &&& 1431655765)) 2) &&& 858993459)) + (jush (((p1 - ((jush p1 1) &&& 1431655765)) &&& 858993459) + ((jush (p1 - ((jush p1 1) &&& 1431655765)) 2) &&& 858993459)) 4)) &&& 252645135) 8)) 16)) hx hb dJ6_bitCount_0f7a4_45 rfl ?_
  refine lv_iadd hx hb dJ6_bitCount_0f7a4_46 ?_
  refine lv_istore_n (lv' := [(0, .int (((((((p1 - ((jush p1 1) &&& 1431655765)) &&& 858993459) + ((jush (p1 - ((jush p1 1) &&& 1431655765)) 2) &&& 858993459)) + (jush (((p1 - ((jush p1 1) &&& 1431655765)) &&& 858993459) + ((jush (p1 - ((jush p1 1) &&& 1431655765)) 2) &&& 858993459)) 4)) &&& 252645135) + (jush (((((p1 - ((jush p1 1) &&& 1431655765)) &&& 858993459) + ((jush (p1 - ((jush p1 1) &&& 1431655765)) 2) &&& 858993459)) + (jush (((p1 - ((jush p1 1) &&& 1431655765)) &&& 858993459) + ((jush (p1 - ((jush p1 1) &&& 1431655765)) 2) &&& 858993459)) 4)) &&& 252645135) 8)) + (jush ((((((p1 - ((jush p1 1) &&& 1431655765)) &&& 858993459) + ((jush (p1 - ((jush p1 1) &&& 1431655765)) 2) &&& 858993459)) + (jush (((p1 - ((jush p1 1) &&& 1431655765)) &&& 858993459) + ((jush (p1 - ((jush p1 1) &&& 1431655765)) 2) &&& 858993459)) 4)) &&& 252645135) + (jush (((((p1 - ((jush p1 1) &&& 1431655765)) &&& 858993459) + ((jush (p1 - ((jush p1 1) &&& 1431655765)) 2) &&& 858993459)) + (jush (((p1 - ((jush p1 1) &&& 1431655765)) &&& 858993459) + ((jush (p1 - ((jush p1 1) &&& 1431655765)) 2) &&& 858993459)) 4)) &&& 252645135) 8)) 16)))]) hx hb dJ6_bitCount_0f7a4_47 rfl hl (by decide) rfl (fun ls hl => ?_)
  refine lv_iload_n hx hb dJ6_bitCount_0f7a4_48 rfl (lv_at hl 0 rfl) ?_
  refine lv_bipush (v := 63) hx hb dJ6_bitCount_0f7a4_49 (by decide) ?_
  refine lv_iand hx hb dJ6_bitCount_0f7a4_51 ?_
  exact rd_i hx hb hr hlocks (rfl) dJ6_bitCount_0f7a4_52
set_option maxHeartbeats 4000000 in
set_option maxRecDepth 100000 in
theorem wX5_allCards {l : Launch} {D : va_G} (h0 : Nat) (li0 : Int32) (li1 : Int32) (li2 : Int32) (li3 : Int32) (lr4 : Nat) (lr5 : Nat) (lr6 : Nat) (lr7 : Nat) (lr8 : Nat) (li9 : Int32) (li11 : Int32) (lr12 : Nat) (lr13 : Nat) (lr14 : Nat) (li15 : Int32) : Rd l yX5_allCards cX5_allCards 1 (some .int) 0 D [(h0, .inr (5, [.int li0, .int li1, .int li2, .int li3, .ref lr4, .ref lr5, .ref lr6, .ref lr7, .ref lr8, .int li9, .int 16, .int li11, .ref lr12, .ref lr13, .ref lr14, .int li15]))] [] [.ref h0] (.int 65535) := by
  refine Rd.of (by decide) (Nat.le_of_ble_eq_true rfl) ?_
  intro p e s m below meth c ls hx hb hr hml hown hts hlocks hP hK hl
  have hown : s.vm.findClass "SignalTable$Laws" = some m.cls := hown
  have hl : lv_has ls 1 [(0, .ref h0)] := hl
  refine lv_iconst (v := 1) hx hb dX5_allCards_0 (by decide) ?_
  refine lv_aload_n hx hb dX5_allCards_1 rfl (lv_at hl 0 rfl) ?_
  refine va_get (D := D) (ci := 5) (v := .int 16) (C := RX5) (T := TX5) (N := 16) hx hb hts inX5 hown hK hP 0 rfl rfl 10 (by decide) (hts _ kw_222) (fun _ h9 => h9) rfl dX5_allCards_2 ?_
  refine lv_ishl hx hb dX5_allCards_5 ?_
  refine z_i (v := 65536) (by decide) ?_
  refine lv_iconst (v := 1) hx hb dX5_allCards_6 (by decide) ?_
  refine lv_isub hx hb dX5_allCards_7 ?_
  refine z_i (v := 65535) (by decide) ?_
  exact rd_i hx hb hr hlocks (rfl) dX5_allCards_8
set_option maxHeartbeats 4000000 in
set_option maxRecDepth 100000 in
theorem wX11_isHand {l : Launch} {D : va_G} (h0 : Nat) (a1 : Nat) (xr0 : Nat) (xi1 : Int32) (xr3 : Nat) (xr4 : Nat) (xr5 : Nat) (xr6 : Nat) (xr7 : Nat) (xr8 : Nat) (xr9 : Nat) (xr10 : Nat) (xr11 : Nat) (xr12 : Nat) (xr13 : Nat) (li0 : Int32) (li1 : Int32) (li2 : Int32) (li3 : Int32) (lr4 : Nat) (lr5 : Nat) (lr6 : Nat) (lr7 : Nat) (lr8 : Nat) (li9 : Int32) (lr12 : Nat) (lr13 : Nat) (lr14 : Nat) (li15 : Int32) (p1 : Int32) : Rd l yX11_isHand cX11_isHand 2 (some .boolean) 1 D [(h0, .inr (11, [.ref xr0, .int xi1, .ref a1, .ref xr3, .ref xr4, .ref xr5, .ref xr6, .ref xr7, .ref xr8, .ref xr9, .ref xr10, .ref xr11, .ref xr12, .ref xr13])), (a1, .inr (5, [.int li0, .int li1, .int li2, .int li3, .ref lr4, .ref lr5, .ref lr6, .ref lr7, .ref lr8, .int li9, .int 16, .int 4, .ref lr12, .ref lr13, .ref lr14, .int li15]))] [] [.ref h0, .int p1] (.int (if okX p1 = true then 1 else 0)) := by
  refine Rd.of (by decide) (Nat.le_of_ble_eq_true rfl) ?_
  intro p e s m below meth c ls hx hb hr hml hown hts hlocks hP hK hl
  have hown : s.vm.findClass "SignalTable" = some m.cls := hown
  have hl : lv_has ls 2 [(0, .ref h0), (1, .int p1)] := hl
  refine lv_iload_n hx hb dX11_isHand_0 rfl (lv_at hl 1 rfl) ?_
  refine lv_aload_n hx hb dX11_isHand_1 rfl (lv_at hl 0 rfl) ?_
  refine va_get (D := D) (ci := 11) (v := .ref a1) (C := RX11) (T := TX11) (N := 14) hx hb hts inX11 hown hK hP 0 rfl rfl 2 (by decide) (hts _ kw_709) (fun _ h9 => h9) rfl dX11_isHand_2 ?_
  refine rd_V (As := []) (rest := [.int p1]) (d := 0) caV_SignalTable_136 hx hb hml hown hts (hP.sub [1] rfl) (hK.sub [] rfl) (wX5_allCards a1 li0 li1 li2 li3 lr4 lr5 lr6 lr7 lr8 li9 4 lr12 lr13 lr14 li15) (ci := 5) (q0 := 0) rfl rfl (by decide) rfl hl.1 (Nat.le_of_ble_eq_true rfl) (by decide) dX11_isHand_5 rfl ?_
  refine lv_iconst (v := (-1)) hx hb dX11_isHand_8 (by decide) ?_
  refine lv_ixor hx hb dX11_isHand_9 ?_
  refine z_i (v := (-65536)) (by decide) ?_
  refine lv_iand hx hb dX11_isHand_10 ?_
  refine lv_if_ne (tgt := 32) hx hb dX11_isHand_11 (by decide) (fun c_1 => ?_) (fun c_1 => ?_)
  · skip
    refine lv_iconst (v := 0) hx hb dX11_isHand_32 (by decide) ?_
    refine W.eq (g2 := F0 m 33 ls [.int 0]) rfl ?_
    exact rd_z hx hb hr hlocks rfl (congrArg Value.int ((if_neg (by simp only [okX, Bool.and_eq_true, decide_eq_true_eq]; exact fun h9 => c_1 h9.1)).symm)) dX11_isHand_33
  · skip
    refine lv_iload_n hx hb dX11_isHand_14 rfl (lv_at hl 1 rfl) ?_
    refine re_S (As := [.int p1]) (rest := []) caS_SignalTable_148 hx hb hml hown hts (j_bitCount p1) bl_T (fun _ _ _ => trivial) (by decide) rfl hl.1 (Nat.le_of_ble_eq_true rfl) (by decide) dX11_isHand_15 rfl ?_
    refine lv_aload_n hx hb dX11_isHand_18 rfl (lv_at hl 0 rfl) ?_
    refine va_get (D := D) (ci := 11) (v := .ref a1) (C := RX11) (T := TX11) (N := 14) hx hb hts inX11 hown hK hP 0 rfl rfl 2 (by decide) (hts _ kw_709) (fun _ h9 => h9) rfl dX11_isHand_19 ?_
    refine va_get (D := D) (ci := 5) (v := .int 4) (C := RX5) (T := TX5) (N := 16) hx hb hts inX5 hown hK hP 1 rfl rfl 11 (by decide) (hts _ kw_230) (fun _ h9 => h9) rfl dX11_isHand_22 ?_
    refine lv_icmp_ne (tgt := 32) hx hb dX11_isHand_25 (by decide) (fun c_2 => ?_) (fun c_2 => ?_)
    · skip
      refine lv_iconst (v := 0) hx hb dX11_isHand_32 (by decide) ?_
      exact rd_z hx hb hr hlocks rfl (congrArg Value.int ((if_neg (by simp only [okX, Bool.and_eq_true, decide_eq_true_eq]; exact fun h9 => c_2 h9.2)).symm)) dX11_isHand_33
    · skip
      refine lv_iconst (v := 1) hx hb dX11_isHand_28 (by decide) ?_
      refine W.eq (g2 := F0 m 29 ls [.int 1]) rfl ?_
      refine lv_goto (tgt := 33) hx hb dX11_isHand_29 (by decide) ?_
      exact rd_z hx hb hr hlocks rfl (congrArg Value.int ((if_pos (by simp only [okX, c_1, c_2, decide_true, Bool.and_self])).symm)) dX11_isHand_33
set_option maxHeartbeats 4000000 in
set_option maxRecDepth 100000 in
theorem wX11_hands {l : Launch} {D : va_G} {sz : Nat} (q : Nat → Nat) (k : Nat → ClassId) (g : Nat → Nat → Int32) (gl : Nat → Nat → Int64) (p1 : Int32) (p2 : Int32) (p3 : Int32) : Wi l yX11_hands cX11_hands 5 (some .boolean) 2 0 0 D [((q 0), .inr (11, [.ref (q 1), .int 0, .ref (q 2), .ref (q 30), .ref (q 6), .ref (q 11), .ref (q 15), .ref (q 16), .ref (q 19), .ref (q 31), .ref (q 21), .ref (q 22), .ref (q 24), .ref (q 25)])), ((q 1), .inl ((k 1), 2000, .inl (g 1))), ((q 2), .inr (5, [.int 4, .int 4, .int (-1), .int 0, .ref (q 32), .ref (q 33), .ref (q 34), .ref (q 35), .ref (q 36), .int 0, .int 16, .int 4, .ref (q 3), .ref (q 4), .ref (q 5), .int 1820])), ((q 3), .inl ((k 3), 4, .inl (g 3))), ((q 4), .inl ((k 4), 16, .inl (g 4))), ((q 5), .inl ((k 5), 1820, .inl (g 5))), ((q 6), .inr (8, [.ref (q 7), .ref (q 2), .ref (q 37), .int 0, .int 0, .int 0, .int 0, .int 0, .int (-1), .int 0, .int 0])), ((q 7), .inr (9, [.ref (q 8), .ref (q 9), .ref (q 10), .ref (q 38), .int 0])), ((q 8), .inl ((k 8), 402, .inl (g 8))), ((q 9), .inl ((k 9), 402, .inl (g 9))), ((q 10), .inl ((k 10), 402, .inr (.inl (gl 10)))), ((q 11), .inr (3, [.ref (q 2), .ref (q 30), .int 0, .ref (q 12), .ref (q 13), .int 0, .int (-2), .int 0, .ref (q 14), .ref (q 50), .ref (q 51), .ref (q 52), .ref (q 53), .ref (q 54), .ref (q 55), .ref (q 56), .ref (q 57), .int 0])), ((q 12), .inl ((k 12), 4, .inl (g 12))), ((q 13), .inl ((k 13), 4, .inl (g 13))), ((q 14), .inl ((k 14), 16, .inl (g 14))), ((q 15), .inr (3, [.ref (q 2), .ref (q 30), .int 0, .ref (q 60), .ref (q 61), .int 0, .int (-2), .int 0, .ref (q 62), .ref (q 63), .ref (q 64), .ref (q 65), .ref (q 66), .ref (q 67), .ref (q 68), .ref (q 69), .ref (q 70), .int 0])), ((q 16), .inl ((k 16), 2, .inr (.inr (.inr (.inr (va_up (va_up (fun _ => none) 0 (some (q 17))) 1 (some (q 18)))))))), ((q 17), .inr (3, [.ref (q 2), .ref (q 30), .int 0, .ref (q 72), .ref (q 73), .int 0, .int (-2), .int 0, .ref (q 74), .ref (q 75), .ref (q 76), .ref (q 77), .ref (q 78), .ref (q 79), .ref (q 80), .ref (q 81), .ref (q 82), .int 0])), ((q 18), .inr (3, [.ref (q 2), .ref (q 30), .int 0, .ref (q 84), .ref (q 85), .int 0, .int (-2), .int 0, .ref (q 86), .ref (q 87), .ref (q 88), .ref (q 89), .ref (q 90), .ref (q 91), .ref (q 92), .ref (q 93), .ref (q 94), .int 0])), ((q 19), .inr (6, [.ref (q 2), .ref (q 3), .ref (q 4), .ref (q 39), .int 0, .int 0, .int 0, .int 0, .ref (q 40), .int 0, .int 1, .ref (q 20), .ref (q 41), .int (-1)])), ((q 20), .inl ((k 20), 4, .inl (g 20))), ((q 21), .inr (10, [.ref (q 31), .ref (q 19), .ref (q 42), .int 0, .null, .int 0, .int 0])), ((q 22), .inr (2, [.ref (q 15), .ref (q 21), .ref (q 23)])), ((q 23), .inl ((k 23), 1024, .inl (g 23))), ((q 24), .inr (0, [.ref (q 43), .ref (q 44), .int 0])), ((q 25), .inr (7, [.ref (q 2), .ref (q 30)]))] [((k 1), .byte), ((k 3), .int), ((k 4), .int), ((k 5), .int), ((k 8), .int), ((k 9), .int), ((k 10), .long), ((k 12), .int), ((k 13), .int), ((k 14), .int), ((k 16), .object "SignalTable$Game"), ((k 20), .int), ((k 23), .int)] [.ref (q 0), .int p1, .int p2, .int p3] sz (fun _ => True) (if hOK okX p1 p2 p3 = true then 1 else 0) (fun qz kz gz lz => []) (fun kz => []) := by
  refine Wi.of (by decide) (Nat.le_of_ble_eq_true rfl) ?_
  intro p e s m below meth c ls A hx hb hr hml hown hts hlocks hin hP hK hD hA hS hE hAe hl
  have hown : s.vm.findClass "SignalTable" = some m.cls := hown
  have hin : meth.name = "hands" := hin
  skip
  have hl : lv_has ls 5 [(0, .ref (q 0)), (1, .int p1), (2, .int p2), (3, .int p3)] := hl
  refine lv_aload_n hx hb dX11_hands_0 rfl (lv_at hl 0 rfl) ?_
  refine va_get (D := D) (ci := 11) (v := .ref (q 2)) (C := RX11) (T := TX11) (N := 14) hx hb hts inX11 hown hK hP 0 rfl rfl 2 (by decide) (hts _ kw_709) (fun _ h9 => h9) rfl dX11_hands_1 ?_
  refine rd_V (As := []) (rest := []) (d := 0) caV_SignalTable_136 hx hb hml hown hts (hP.sub [2] rfl) (hK.sub [] rfl) (wX5_allCards (q 2) 4 4 (-1) 0 (q 32) (q 33) (q 34) (q 35) (q 36) 0 4 (q 3) (q 4) (q 5) 1820) (ci := 5) (q0 := 0) rfl rfl (by decide) rfl hl.1 (Nat.le_of_ble_eq_true rfl) (by decide) dX11_hands_4 rfl ?_
  refine lv_istore (lv' := [(4, .int 65535), (0, .ref (q 0)), (1, .int p1), (2, .int p2), (3, .int p3)]) hx hb dX11_hands_7 hl (by decide) rfl (fun ls hl => ?_)
  refine lv_aload_n hx hb dX11_hands_9 rfl (lv_at hl 1 rfl) ?_
  refine lv_iload_n hx hb dX11_hands_10 rfl (lv_at hl 2 rfl) ?_
  refine rd_V (As := [.int p1]) (rest := []) (d := 1) caV_SignalTable_140 hx hb hml hown hts (hP.sub [0, 2] rfl) (hK.sub [] rfl) (wX11_isHand (q 0) (q 2) (q 1) 0 (q 30) (q 6) (q 11) (q 15) (q 16) (q 19) (q 31) (q 21) (q 22) (q 24) (q 25) 4 4 (-1) 0 (q 32) (q 33) (q 34) (q 35) (q 36) 0 (q 3) (q 4) (q 5) 1820 p1) (ci := 11) (q0 := 0) rfl rfl (by decide) rfl hl.1 (Nat.le_of_ble_eq_true rfl) (by decide) dX11_hands_11 rfl ?_
  refine lv_if_eq (tgt := 51) hx hb dX11_hands_14 (by decide) (fun c_1 => ?_) (fun c_1 => ?_)
  · skip
    have c_1 := z_if0 c_1
    refine lv_iconst (v := 0) hx hb dX11_hands_51 (by decide) ?_
    refine W.eq (g2 := F0 m 52 ls [.int 0]) rfl ?_
    exact wr_z (q := (fun _ => 0)) (k := (fun _ => 0)) (g := (fun _ => fun _ => 0)) (gl := (fun _ => fun _ => 0)) hx hb hr hlocks rfl ((if_neg (by simp only [hOK, Bool.and_eq_true, decide_eq_true_eq]; exact fun h9 => c_1 h9.1.1.1.1.1)).symm) hS (hP.sub [] rfl) (hK.sub [] rfl) (hD.sub [] (by decide) rfl) dX11_hands_52
  · skip
    have c_1 := z_ifn c_1
    refine lv_aload_n hx hb dX11_hands_17 rfl (lv_at hl 1 rfl) ?_
    refine lv_iload_n hx hb dX11_hands_18 rfl (lv_at hl 3 rfl) ?_
    refine rd_V (As := [.int p2]) (rest := []) (d := 1) caV_SignalTable_140 hx hb hml hown hts (hP.sub [0, 2] rfl) (hK.sub [] rfl) (wX11_isHand (q 0) (q 2) (q 1) 0 (q 30) (q 6) (q 11) (q 15) (q 16) (q 19) (q 31) (q 21) (q 22) (q 24) (q 25) 4 4 (-1) 0 (q 32) (q 33) (q 34) (q 35) (q 36) 0 (q 3) (q 4) (q 5) 1820 p2) (ci := 11) (q0 := 0) rfl rfl (by decide) rfl hl.1 (Nat.le_of_ble_eq_true rfl) (by decide) dX11_hands_19 rfl ?_
    refine lv_if_eq (tgt := 51) hx hb dX11_hands_22 (by decide) (fun c_2 => ?_) (fun c_2 => ?_)
    · skip
      have c_2 := z_if0 c_2
      refine lv_iconst (v := 0) hx hb dX11_hands_51 (by decide) ?_
      exact wr_z (q := (fun _ => 0)) (k := (fun _ => 0)) (g := (fun _ => fun _ => 0)) (gl := (fun _ => fun _ => 0)) hx hb hr hlocks rfl ((if_neg (by simp only [hOK, Bool.and_eq_true, decide_eq_true_eq]; exact fun h9 => c_2 h9.1.1.1.1.2)).symm) hS (hP.sub [] rfl) (hK.sub [] rfl) (hD.sub [] (by decide) rfl) dX11_hands_52
    · skip
      have c_2 := z_ifn c_2
      refine lv_aload_n hx hb dX11_hands_25 rfl (lv_at hl 1 rfl) ?_
      refine lv_iload_n hx hb dX11_hands_26 rfl (lv_at hl 4 rfl) ?_
      refine rd_V (As := [.int p3]) (rest := []) (d := 1) caV_SignalTable_140 hx hb hml hown hts (hP.sub [0, 2] rfl) (hK.sub [] rfl) (wX11_isHand (q 0) (q 2) (q 1) 0 (q 30) (q 6) (q 11) (q 15) (q 16) (q 19) (q 31) (q 21) (q 22) (q 24) (q 25) 4 4 (-1) 0 (q 32) (q 33) (q 34) (q 35) (q 36) 0 (q 3) (q 4) (q 5) 1820 p3) (ci := 11) (q0 := 0) rfl rfl (by decide) rfl hl.1 (Nat.le_of_ble_eq_true rfl) (by decide) dX11_hands_27 rfl ?_
      refine W.eq (g2 := F0 m 30 ls [.int (if okX p3 = true then 1 else 0)]) rfl ?_
      refine lv_if_eq (tgt := 51) hx hb dX11_hands_30 (by decide) (fun c_3 => ?_) (fun c_3 => ?_)
      · skip
        have c_3 := z_if0 c_3
        refine lv_iconst (v := 0) hx hb dX11_hands_51 (by decide) ?_
        exact wr_z (q := (fun _ => 0)) (k := (fun _ => 0)) (g := (fun _ => fun _ => 0)) (gl := (fun _ => fun _ => 0)) hx hb hr hlocks rfl ((if_neg (by simp only [hOK, Bool.and_eq_true, decide_eq_true_eq]; exact fun h9 => c_3 h9.1.1.1.2)).symm) hS (hP.sub [] rfl) (hK.sub [] rfl) (hD.sub [] (by decide) rfl) dX11_hands_52
      · skip
        have c_3 := z_ifn c_3
        refine lv_iload_n hx hb dX11_hands_33 rfl (lv_at hl 2 rfl) ?_
        refine lv_iload_n hx hb dX11_hands_34 rfl (lv_at hl 3 rfl) ?_
        refine lv_iand hx hb dX11_hands_35 ?_
        refine lv_if_ne (tgt := 51) hx hb dX11_hands_36 (by decide) (fun c_4 => ?_) (fun c_4 => ?_)
        · skip
          refine lv_iconst (v := 0) hx hb dX11_hands_51 (by decide) ?_
          exact wr_z (q := (fun _ => 0)) (k := (fun _ => 0)) (g := (fun _ => fun _ => 0)) (gl := (fun _ => fun _ => 0)) hx hb hr hlocks rfl ((if_neg (by simp only [hOK, Bool.and_eq_true, decide_eq_true_eq]; exact fun h9 => c_4 h9.1.1.2)).symm) hS (hP.sub [] rfl) (hK.sub [] rfl) (hD.sub [] (by decide) rfl) dX11_hands_52
        · skip
          refine lv_iload_n hx hb dX11_hands_39 rfl (lv_at hl 2 rfl) ?_
          refine W.eq (g2 := F0 m 40 ls [.int p1]) rfl ?_
          refine lv_iload_n hx hb dX11_hands_40 rfl (lv_at hl 4 rfl) ?_
          refine lv_iand hx hb dX11_hands_41 ?_
          refine lv_if_ne (tgt := 51) hx hb dX11_hands_42 (by decide) (fun c_5 => ?_) (fun c_5 => ?_)
          · skip
            refine lv_iconst (v := 0) hx hb dX11_hands_51 (by decide) ?_
            exact wr_z (q := (fun _ => 0)) (k := (fun _ => 0)) (g := (fun _ => fun _ => 0)) (gl := (fun _ => fun _ => 0)) hx hb hr hlocks rfl ((if_neg (by simp only [hOK, Bool.and_eq_true, decide_eq_true_eq]; exact fun h9 => c_5 h9.1.2)).symm) hS (hP.sub [] rfl) (hK.sub [] rfl) (hD.sub [] (by decide) rfl) dX11_hands_52
          · skip
            refine lv_iload_n hx hb dX11_hands_45 rfl (lv_at hl 3 rfl) ?_
            refine lv_iload_n hx hb dX11_hands_46 rfl (lv_at hl 4 rfl) ?_
            refine lv_iand hx hb dX11_hands_47 ?_
            refine lv_if_eq (tgt := 53) hx hb dX11_hands_48 (by decide) (fun c_6 => ?_) (fun c_6 => ?_)
            · skip
              refine lv_aload_n hx hb dX11_hands_53 rfl (lv_at hl 1 rfl) ?_
              refine W.eq (g2 := F0 m 54 ls [.ref (q 0)]) rfl ?_
              refine va_get (D := D) (ci := 11) (v := .ref (q 11)) (C := RX11) (T := TX11) (N := 14) hx hb hts inX11 hown hK hP 0 rfl rfl 5 (by decide) (hts _ kw_712) (fun _ h9 => h9) rfl dX11_hands_54 ?_
              refine lv_iload_n hx hb dX11_hands_57 rfl (lv_at hl 2 rfl) ?_
              refine lv_iload_n hx hb dX11_hands_58 rfl (lv_at hl 3 rfl) ?_
              refine lv_iload_n hx hb dX11_hands_59 rfl (lv_at hl 4 rfl) ?_
              refine lv_iload hx hb dX11_hands_60 (lv_at hl 0 rfl) ?_
              refine lv_iload_n hx hb dX11_hands_62 rfl (lv_at hl 2 rfl) ?_
              refine lv_iload_n hx hb dX11_hands_63 rfl (lv_at hl 3 rfl) ?_
              refine lv_ior hx hb dX11_hands_64 ?_
              refine lv_iload_n hx hb dX11_hands_65 rfl (lv_at hl 4 rfl) ?_
              refine lv_ior hx hb dX11_hands_66 ?_
              refine W.eq (g2 := F0 m 67 ls [.int ((p1 ||| p2) ||| p3), .int 65535, .int p3, .int p2, .int p1, .ref (q 11)]) rfl ?_
              refine lv_iconst (v := (-1)) hx hb dX11_hands_67 (by decide) ?_
              refine lv_ixor hx hb dX11_hands_68 ?_
              refine lv_iand hx hb dX11_hands_69 ?_
              refine wr_V (As := [.int p1, .int p2, .int p3, .int (65535 &&& (((p1 ||| p2) ||| p3) ^^^ (-1)))]) (rest := []) caV_SignalTable_144 hx hb hml hown hts hP hD hK hS hA (isC := [11, 12, 13]) (isR := [0, 1, 2, 3, 4, 5, 6, 7, 8, 9, 10, 14, 15, 16, 17, 18, 19, 20, 21, 22, 23, 24, 25]) (isT := [7, 8]) (wr := [((q 0), .inr (11, [.ref (q 1), .int 0, .ref (q 2), .ref (q 30), .ref (q 6), .ref (q 11), .ref (q 15), .ref (q 16), .ref (q 19), .ref (q 31), .ref (q 21), .ref (q 22), .ref (q 24), .ref (q 25)])), ((q 1), .inl ((k 1), 2000, .inl (g 1))), ((q 2), .inr (5, [.int 4, .int 4, .int (-1), .int 0, .ref (q 32), .ref (q 33), .ref (q 34), .ref (q 35), .ref (q 36), .int 0, .int 16, .int 4, .ref (q 3), .ref (q 4), .ref (q 5), .int 1820])), ((q 3), .inl ((k 3), 4, .inl (g 3))), ((q 4), .inl ((k 4), 16, .inl (g 4))), ((q 5), .inl ((k 5), 1820, .inl (g 5))), ((q 6), .inr (8, [.ref (q 7), .ref (q 2), .ref (q 37), .int 0, .int 0, .int 0, .int 0, .int 0, .int (-1), .int 0, .int 0])), ((q 7), .inr (9, [.ref (q 8), .ref (q 9), .ref (q 10), .ref (q 38), .int 0])), ((q 8), .inl ((k 8), 402, .inl (g 8))), ((q 9), .inl ((k 9), 402, .inl (g 9))), ((q 10), .inl ((k 10), 402, .inr (.inl (gl 10)))), ((q 14), .inl ((k 14), 16, .inl (g 14))), ((q 15), .inr (3, [.ref (q 2), .ref (q 30), .int 0, .ref (q 60), .ref (q 61), .int 0, .int (-2), .int 0, .ref (q 62), .ref (q 63), .ref (q 64), .ref (q 65), .ref (q 66), .ref (q 67), .ref (q 68), .ref (q 69), .ref (q 70), .int 0])), ((q 16), .inl ((k 16), 2, .inr (.inr (.inr (.inr (va_up (va_up (fun _ => none) 0 (some (q 17))) 1 (some (q 18)))))))), ((q 17), .inr (3, [.ref (q 2), .ref (q 30), .int 0, .ref (q 72), .ref (q 73), .int 0, .int (-2), .int 0, .ref (q 74), .ref (q 75), .ref (q 76), .ref (q 77), .ref (q 78), .ref (q 79), .ref (q 80), .ref (q 81), .ref (q 82), .int 0])), ((q 18), .inr (3, [.ref (q 2), .ref (q 30), .int 0, .ref (q 84), .ref (q 85), .int 0, .int (-2), .int 0, .ref (q 86), .ref (q 87), .ref (q 88), .ref (q 89), .ref (q 90), .ref (q 91), .ref (q 92), .ref (q 93), .ref (q 94), .int 0])), ((q 19), .inr (6, [.ref (q 2), .ref (q 3), .ref (q 4), .ref (q 39), .int 0, .int 0, .int 0, .int 0, .ref (q 40), .int 0, .int 1, .ref (q 20), .ref (q 41), .int (-1)])), ((q 20), .inl ((k 20), 4, .inl (g 20))), ((q 21), .inr (10, [.ref (q 31), .ref (q 19), .ref (q 42), .int 0, .null, .int 0, .int 0])), ((q 22), .inr (2, [.ref (q 15), .ref (q 21), .ref (q 23)])), ((q 23), .inl ((k 23), 1024, .inl (g 23))), ((q 24), .inr (0, [.ref (q 43), .ref (q 44), .int 0])), ((q 25), .inr (7, [.ref (q 2), .ref (q 30)]))]) ⟨rfl, rfl, rfl, rfl, by decide⟩ rfl (wX3_begin (q 11) (q 2) (q 14) (q 12) (q 13) (q 30) 0 0 (-2) 0 (q 50) (q 51) (q 52) (q 53) (q 54) (q 55) (q 56) (q 57) 0 (k 12) (g 12) (k 13) (g 13) p1 p2 p3 (65535 &&& (((p1 ||| p2) ||| p3) ^^^ (-1)))) bl_T (fun _ _ _ => trivial) (ci := 3) (q0 := 11) rfl rfl (by decide) rfl hl.1 (Nat.le_of_ble_eq_true rfl) (by decide) dX11_hands_70 rfl (fun q1 k1 g1 l1 H locs hP hD hK hS => ?_)
              have hP : va_P D vwCl [((q 0), .inr (11, [.ref (q 1), .int 0, .ref (q 2), .ref (q 30), .ref (q 6), .ref (q 11), .ref (q 15), .ref (q 16), .ref (q 19), .ref (q 31), .ref (q 21), .ref (q 22), .ref (q 24), .ref (q 25)])), ((q 1), .inl ((k 1), 2000, .inl (g 1))), ((q 2), .inr (5, [.int 4, .int 4, .int (-1), .int 0, .ref (q 32), .ref (q 33), .ref (q 34), .ref (q 35), .ref (q 36), .int 0, .int 16, .int 4, .ref (q 3), .ref (q 4), .ref (q 5), .int 1820])), ((q 3), .inl ((k 3), 4, .inl (g 3))), ((q 4), .inl ((k 4), 16, .inl (g 4))), ((q 5), .inl ((k 5), 1820, .inl (g 5))), ((q 6), .inr (8, [.ref (q 7), .ref (q 2), .ref (q 37), .int 0, .int 0, .int 0, .int 0, .int 0, .int (-1), .int 0, .int 0])), ((q 7), .inr (9, [.ref (q 8), .ref (q 9), .ref (q 10), .ref (q 38), .int 0])), ((q 8), .inl ((k 8), 402, .inl (g 8))), ((q 9), .inl ((k 9), 402, .inl (g 9))), ((q 10), .inl ((k 10), 402, .inr (.inl (gl 10)))), ((q 14), .inl ((k 14), 16, .inl (g 14))), ((q 15), .inr (3, [.ref (q 2), .ref (q 30), .int 0, .ref (q 60), .ref (q 61), .int 0, .int (-2), .int 0, .ref (q 62), .ref (q 63), .ref (q 64), .ref (q 65), .ref (q 66), .ref (q 67), .ref (q 68), .ref (q 69), .ref (q 70), .int 0])), ((q 16), .inl ((k 16), 2, .inr (.inr (.inr (.inr (va_up (va_up (fun _ => none) 0 (some (q 17))) 1 (some (q 18)))))))), ((q 17), .inr (3, [.ref (q 2), .ref (q 30), .int 0, .ref (q 72), .ref (q 73), .int 0, .int (-2), .int 0, .ref (q 74), .ref (q 75), .ref (q 76), .ref (q 77), .ref (q 78), .ref (q 79), .ref (q 80), .ref (q 81), .ref (q 82), .int 0])), ((q 18), .inr (3, [.ref (q 2), .ref (q 30), .int 0, .ref (q 84), .ref (q 85), .int 0, .int (-2), .int 0, .ref (q 86), .ref (q 87), .ref (q 88), .ref (q 89), .ref (q 90), .ref (q 91), .ref (q 92), .ref (q 93), .ref (q 94), .int 0])), ((q 19), .inr (6, [.ref (q 2), .ref (q 3), .ref (q 4), .ref (q 39), .int 0, .int 0, .int 0, .int 0, .ref (q 40), .int 0, .int 1, .ref (q 20), .ref (q 41), .int (-1)])), ((q 20), .inl ((k 20), 4, .inl (g 20))), ((q 21), .inr (10, [.ref (q 31), .ref (q 19), .ref (q 42), .int 0, .null, .int 0, .int 0])), ((q 22), .inr (2, [.ref (q 15), .ref (q 21), .ref (q 23)])), ((q 23), .inl ((k 23), 1024, .inl (g 23))), ((q 24), .inr (0, [.ref (q 43), .ref (q 44), .int 0])), ((q 25), .inr (7, [.ref (q 2), .ref (q 30)]))] H := hP
              have hD : va_D A [((q 0), .inr (11, [.ref (q 1), .int 0, .ref (q 2), .ref (q 30), .ref (q 6), .ref (q 11), .ref (q 15), .ref (q 16), .ref (q 19), .ref (q 31), .ref (q 21), .ref (q 22), .ref (q 24), .ref (q 25)])), ((q 1), .inl ((k 1), 2000, .inl (g 1))), ((q 2), .inr (5, [.int 4, .int 4, .int (-1), .int 0, .ref (q 32), .ref (q 33), .ref (q 34), .ref (q 35), .ref (q 36), .int 0, .int 16, .int 4, .ref (q 3), .ref (q 4), .ref (q 5), .int 1820])), ((q 3), .inl ((k 3), 4, .inl (g 3))), ((q 4), .inl ((k 4), 16, .inl (g 4))), ((q 5), .inl ((k 5), 1820, .inl (g 5))), ((q 6), .inr (8, [.ref (q 7), .ref (q 2), .ref (q 37), .int 0, .int 0, .int 0, .int 0, .int 0, .int (-1), .int 0, .int 0])), ((q 7), .inr (9, [.ref (q 8), .ref (q 9), .ref (q 10), .ref (q 38), .int 0])), ((q 8), .inl ((k 8), 402, .inl (g 8))), ((q 9), .inl ((k 9), 402, .inl (g 9))), ((q 10), .inl ((k 10), 402, .inr (.inl (gl 10)))), ((q 14), .inl ((k 14), 16, .inl (g 14))), ((q 15), .inr (3, [.ref (q 2), .ref (q 30), .int 0, .ref (q 60), .ref (q 61), .int 0, .int (-2), .int 0, .ref (q 62), .ref (q 63), .ref (q 64), .ref (q 65), .ref (q 66), .ref (q 67), .ref (q 68), .ref (q 69), .ref (q 70), .int 0])), ((q 16), .inl ((k 16), 2, .inr (.inr (.inr (.inr (va_up (va_up (fun _ => none) 0 (some (q 17))) 1 (some (q 18)))))))), ((q 17), .inr (3, [.ref (q 2), .ref (q 30), .int 0, .ref (q 72), .ref (q 73), .int 0, .int (-2), .int 0, .ref (q 74), .ref (q 75), .ref (q 76), .ref (q 77), .ref (q 78), .ref (q 79), .ref (q 80), .ref (q 81), .ref (q 82), .int 0])), ((q 18), .inr (3, [.ref (q 2), .ref (q 30), .int 0, .ref (q 84), .ref (q 85), .int 0, .int (-2), .int 0, .ref (q 86), .ref (q 87), .ref (q 88), .ref (q 89), .ref (q 90), .ref (q 91), .ref (q 92), .ref (q 93), .ref (q 94), .int 0])), ((q 19), .inr (6, [.ref (q 2), .ref (q 3), .ref (q 4), .ref (q 39), .int 0, .int 0, .int 0, .int 0, .ref (q 40), .int 0, .int 1, .ref (q 20), .ref (q 41), .int (-1)])), ((q 20), .inl ((k 20), 4, .inl (g 20))), ((q 21), .inr (10, [.ref (q 31), .ref (q 19), .ref (q 42), .int 0, .null, .int 0, .int 0])), ((q 22), .inr (2, [.ref (q 15), .ref (q 21), .ref (q 23)])), ((q 23), .inl ((k 23), 1024, .inl (g 23))), ((q 24), .inr (0, [.ref (q 43), .ref (q 44), .int 0])), ((q 25), .inr (7, [.ref (q 2), .ref (q 30)]))] := hD
              have hK : va_K D vwCl [((k 1), .byte), ((k 3), .int), ((k 4), .int), ((k 5), .int), ((k 8), .int), ((k 9), .int), ((k 10), .long), ((k 12), .int), ((k 13), .int), ((k 14), .int), ((k 16), .object "SignalTable$Game"), ((k 20), .int), ((k 23), .int)] s := hK
              refine W.cs (cells' := 0) (slots' := 0) rfl rfl ?_
              have hK : va_K D vwCl [((k 1), .byte), ((k 3), .int), ((k 4), .int), ((k 5), .int), ((k 8), .int), ((k 9), .int), ((k 10), .long), ((k 14), .int), ((k 16), .object "SignalTable$Game"), ((k 20), .int), ((k 23), .int)] s := hK.sub [0, 1, 2, 3, 4, 5, 6, 9, 10, 11, 12] rfl
              refine lv_iconst (v := 1) hx hb dX11_hands_73 (by decide) ?_
              exact wr_z (q := (fun _ => 0)) (k := (fun _ => 0)) (g := (fun _ => fun _ => 0)) (gl := (fun _ => fun _ => 0)) hx hb hr hlocks rfl ((if_pos (by simp only [hOK, c_1, c_2, c_3, c_4, c_5, c_6, decide_true, Bool.and_self])).symm) hS (hP.sub [] rfl) (hK.sub [] rfl) (hD.sub [] (by decide) rfl) dX11_hands_74
            · skip
              refine lv_iconst (v := 0) hx hb dX11_hands_51 (by decide) ?_
              exact wr_z (q := (fun _ => 0)) (k := (fun _ => 0)) (g := (fun _ => fun _ => 0)) (gl := (fun _ => fun _ => 0)) hx hb hr hlocks rfl ((if_neg (by simp only [hOK, Bool.and_eq_true, decide_eq_true_eq]; exact fun h9 => c_6 h9.2)).symm) hS (hP.sub [] rfl) (hK.sub [] rfl) (hD.sub [] (by decide) rfl) dX11_hands_52
