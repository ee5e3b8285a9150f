set_option maxHeartbeats 4000000 in
set_option maxRecDepth 100000 in
theorem wX12_cards {l : Launch} {D : va_G} (q : Nat → Nat) (k : Nat → ClassId) (g : Nat → Nat → Int32) (gl : Nat → Nat → Int64) : Rd l yX12_cards cX12_cards 1 (some .int) 0 D [((q 0), .inr (12, mObj q)), ((q 6), .inl ((k 6), 2, .inl (upd (fun _ => 0) 0 4))), ((q 7), .inl ((k 7), 2, .inl (upd (fun _ => 0) 0 4)))] [((k 6), .int), ((k 7), .int)] [.ref (q 0)] (.int 16) := by
  refine Rd.of (by decide) (Nat.le_of_ble_eq_true rfl) ?_
  intro p e s m below meth c ls hx hb hr hml hown hts hlocks hP hK hl
  have hown : s.vm.findClass "SignalTableModel" = some m.cls := hown
  have hl : lv_has ls 1 [(0, .ref (q 0))] := hl
  refine lv_aload_n hx hb dX12_cards_0 rfl (lv_at hl 0 rfl) ?_
  refine va_get (D := D) (ci := 12) (v := .ref (q 6)) (C := RX12) (T := TX12) (N := 95) hx hb hts inX12 hown hK hP 0 rfl rfl 22 (by decide) (hts _ kw_1536) (fun _ h9 => h9) rfl dX12_cards_1 ?_
  refine lv_aload_n hx hb dX12_cards_4 rfl (lv_at hl 0 rfl) ?_
  refine va_get (D := D) (ci := 12) (v := .int 0) (C := RX12) (T := TX12) (N := 95) hx hb hts inX12 hown hK hP 0 rfl rfl 18 (by decide) (hts _ kw_1532) (fun _ h9 => h9) rfl dX12_cards_5 ?_
  refine va_iald hx hb hK hP 1 0 rfl rfl (z_in (by decide)) dX12_cards_8 ?_
  refine z_i (v := 4) (by rfl) ?_
  refine lv_aload_n hx hb dX12_cards_9 rfl (lv_at hl 0 rfl) ?_
  refine va_get (D := D) (ci := 12) (v := .ref (q 7)) (C := RX12) (T := TX12) (N := 95) hx hb hts inX12 hown hK hP 0 rfl rfl 23 (by decide) (hts _ kw_1537) (fun _ h9 => h9) rfl dX12_cards_10 ?_
  refine lv_aload_n hx hb dX12_cards_13 rfl (lv_at hl 0 rfl) ?_
  refine va_get (D := D) (ci := 12) (v := .int 0) (C := RX12) (T := TX12) (N := 95) hx hb hts inX12 hown hK hP 0 rfl rfl 18 (by decide) (hts _ kw_1532) (fun _ h9 => h9) rfl dX12_cards_14 ?_
  refine W.eq (g2 := F0 m 17 ls [.int 0, .ref (q 7), .int 4]) rfl ?_
  refine va_iald hx hb hK hP 2 1 rfl rfl (z_in (by decide)) dX12_cards_17 ?_
  refine z_i (v := 4) (by rfl) ?_
  refine lv_imul hx hb dX12_cards_18 ?_
  refine z_i (v := 16) (by decide) ?_
  exact rd_i hx hb hr hlocks (rfl) dX12_cards_19
set_option maxHeartbeats 4000000 in
set_option maxRecDepth 100000 in
theorem wX12_handSize {l : Launch} {D : va_G} (q : Nat → Nat) (k : Nat → ClassId) (g : Nat → Nat → Int32) (gl : Nat → Nat → Int64) : Rd l yX12_handSize cX12_handSize 1 (some .int) 1 D [((q 0), .inr (12, mObj q)), ((q 6), .inl ((k 6), 2, .inl (upd (fun _ => 0) 0 4))), ((q 7), .inl ((k 7), 2, .inl (upd (fun _ => 0) 0 4)))] [((k 6), .int), ((k 7), .int)] [.ref (q 0)] (.int 4) := by
  refine Rd.of (by decide) (Nat.le_of_ble_eq_true rfl) ?_
  intro p e s m below meth c ls hx hb hr hml hown hts hlocks hP hK hl
  have hown : s.vm.findClass "SignalTableModel" = some m.cls := hown
  have hl : lv_has ls 1 [(0, .ref (q 0))] := hl
  refine lv_aload_n hx hb dX12_handSize_0 rfl (lv_at hl 0 rfl) ?_
  refine rd_V (As := []) (rest := []) (d := 0) caV_SignalTableModel_351 hx hb hml hown hts (hP.sub [0, 1, 2] rfl) (hK.sub [0, 1] rfl) (wX12_cards q k g gl) (ci := 12) (q0 := 0) rfl rfl (by decide) rfl hl.1 (Nat.le_of_ble_eq_true rfl) (by decide) dX12_handSize_1 rfl ?_
  refine lv_iconst (v := 4) hx hb dX12_handSize_4 (by decide) ?_
  refine lv_idiv hx hb dX12_handSize_5 (by decide) ?_
  refine z_i (v := 4) (by decide) ?_
  exact rd_i hx hb hr hlocks (rfl) dX12_handSize_6
set_option maxHeartbeats 4000000 in
set_option maxRecDepth 100000 in
theorem wX12_starts {l : Launch} {D : va_G} {sz : Nat} (q : Nat → Nat) (k : Nat → ClassId) (g : Nat → Nat → Int32) (gl : Nat → Nat → Int64) : Wv l yX12_starts cX12_starts 1 0 0 0 D [((q 0), .inr (12, mObj q))] [] [.ref (q 0)] sz (fun _ => True) (fun qz kz gz lz => []) (fun kz => []) := by
  refine Wv.of (by decide) (Nat.le_of_ble_eq_true rfl) ?_
  intro p e s m below meth c ls A hx hb hr hml hown hts hlocks hin hP hK hD hA hS hE hAe hl
  have hown : s.vm.findClass "SignalTableModel" = some m.cls := hown
  have hin : meth.name = "starts" := hin
  skip
  have hl : lv_has ls 1 [(0, .ref (q 0))] := hl
  refine lv_aload_n hx hb dX12_starts_0 rfl (lv_at hl 0 rfl) ?_
  refine lv_iconst (v := 1) hx hb dX12_starts_1 (by decide) ?_
  refine va_put (D := D) (ci := 12) (v := .int 1) (ty := .boolean) (C := RX12) (T := TX12) (N := 95) hx hb hts inX12 tyX12 tyX12_ok nmX12 hown hK hP hD hS 0 rfl rfl 45 (by decide) (hts _ kw_1559) (fun _ h9 => h9) rfl (by decide +kernel) rfl rfl (Nat.le_of_ble_eq_true rfl) dX12_starts_2 (fun H locs hP hD hS => ?_)
  have hP : va_P D vwCl [((q 0), .inr (12, [.int 0, .ref (q 1), .int 0, .ref (q 20), .int 0, .ref (q 2), .ref (q 3), .ref (q 4), .ref (q 5), .ref (q 21), .int 0, .int 0, .int 0, .int 0, .int 0, .int 0, .int 0, .int (-1), .int 0, .int 0, .int 0, .ref (q 22), .ref (q 6), .ref (q 7), .ref (q 8), .ref (q 9), .ref (q 23), .ref (q 24), .ref (q 25), .ref (q 26), .int 0, .ref (q 27), .ref (q 28), .ref (q 29), .ref (q 30), .ref (q 31), .ref (q 32), .int 0, .ref (q 33), .ref (q 34), .ref (q 35), .int 0, .ref (q 13), .ref (q 36), .int 0, .int 1, .ref (q 10), .int 0, .int 0, .ref (q 37), .ref (q 38), .ref (q 11), .ref (q 39), .int 0, .int 0, .int 0, .ref (q 40), .ref (q 41), .ref (q 42), .int 0, .int 0, .int 0, .ref (q 43), .ref (q 44), .ref (q 45), .ref (q 46), .ref (q 47), .ref (q 48), .ref (q 49), .int 0, .ref (q 50), .int 0, .ref (q 51), .ref (q 52), .ref (q 53), .ref (q 54), .ref (q 55), .ref (q 56), .int 0, .int 0, .int 0, .ref (q 57), .int 0, .int 0, .ref (q 58), .ref (q 59), .int 0, .ref (q 60), .ref (q 61), .ref (q 12), .ref (q 62), .ref (q 63), .ref (q 64), .ref (q 65), .ref (q 66)]))] H := hP
  have hD : va_D A [((q 0), .inr (12, [.int 0, .ref (q 1), .int 0, .ref (q 20), .int 0, .ref (q 2), .ref (q 3), .ref (q 4), .ref (q 5), .ref (q 21), .int 0, .int 0, .int 0, .int 0, .int 0, .int 0, .int 0, .int (-1), .int 0, .int 0, .int 0, .ref (q 22), .ref (q 6), .ref (q 7), .ref (q 8), .ref (q 9), .ref (q 23), .ref (q 24), .ref (q 25), .ref (q 26), .int 0, .ref (q 27), .ref (q 28), .ref (q 29), .ref (q 30), .ref (q 31), .ref (q 32), .int 0, .ref (q 33), .ref (q 34), .ref (q 35), .int 0, .ref (q 13), .ref (q 36), .int 0, .int 1, .ref (q 10), .int 0, .int 0, .ref (q 37), .ref (q 38), .ref (q 11), .ref (q 39), .int 0, .int 0, .int 0, .ref (q 40), .ref (q 41), .ref (q 42), .int 0, .int 0, .int 0, .ref (q 43), .ref (q 44), .ref (q 45), .ref (q 46), .ref (q 47), .ref (q 48), .ref (q 49), .int 0, .ref (q 50), .int 0, .ref (q 51), .ref (q 52), .ref (q 53), .ref (q 54), .ref (q 55), .ref (q 56), .int 0, .int 0, .int 0, .ref (q 57), .int 0, .int 0, .ref (q 58), .ref (q 59), .int 0, .ref (q 60), .ref (q 61), .ref (q 12), .ref (q 62), .ref (q 63), .ref (q 64), .ref (q 65), .ref (q 66)]))] := hD
  refine lv_aload_n hx hb dX12_starts_5 rfl (lv_at hl 0 rfl) ?_
  refine lv_iconst (v := 0) hx hb dX12_starts_6 (by decide) ?_
  refine va_put (D := D) (ci := 12) (v := .int 0) (ty := .int) (C := RX12) (T := TX12) (N := 95) hx hb hts inX12 tyX12 tyX12_ok nmX12 hown hK hP hD hS 0 rfl rfl 47 (by decide) (hts _ kw_1561) (fun _ h9 => h9) rfl (by decide +kernel) rfl rfl (Nat.le_of_ble_eq_true rfl) dX12_starts_7 (fun H locs hP hD hS => ?_)
  have hP : va_P D vwCl [((q 0), .inr (12, [.int 0, .ref (q 1), .int 0, .ref (q 20), .int 0, .ref (q 2), .ref (q 3), .ref (q 4), .ref (q 5), .ref (q 21), .int 0, .int 0, .int 0, .int 0, .int 0, .int 0, .int 0, .int (-1), .int 0, .int 0, .int 0, .ref (q 22), .ref (q 6), .ref (q 7), .ref (q 8), .ref (q 9), .ref (q 23), .ref (q 24), .ref (q 25), .ref (q 26), .int 0, .ref (q 27), .ref (q 28), .ref (q 29), .ref (q 30), .ref (q 31), .ref (q 32), .int 0, .ref (q 33), .ref (q 34), .ref (q 35), .int 0, .ref (q 13), .ref (q 36), .int 0, .int 1, .ref (q 10), .int 0, .int 0, .ref (q 37), .ref (q 38), .ref (q 11), .ref (q 39), .int 0, .int 0, .int 0, .ref (q 40), .ref (q 41), .ref (q 42), .int 0, .int 0, .int 0, .ref (q 43), .ref (q 44), .ref (q 45), .ref (q 46), .ref (q 47), .ref (q 48), .ref (q 49), .int 0, .ref (q 50), .int 0, .ref (q 51), .ref (q 52), .ref (q 53), .ref (q 54), .ref (q 55), .ref (q 56), .int 0, .int 0, .int 0, .ref (q 57), .int 0, .int 0, .ref (q 58), .ref (q 59), .int 0, .ref (q 60), .ref (q 61), .ref (q 12), .ref (q 62), .ref (q 63), .ref (q 64), .ref (q 65), .ref (q 66)]))] H := hP
  have hD : va_D A [((q 0), .inr (12, [.int 0, .ref (q 1), .int 0, .ref (q 20), .int 0, .ref (q 2), .ref (q 3), .ref (q 4), .ref (q 5), .ref (q 21), .int 0, .int 0, .int 0, .int 0, .int 0, .int 0, .int 0, .int (-1), .int 0, .int 0, .int 0, .ref (q 22), .ref (q 6), .ref (q 7), .ref (q 8), .ref (q 9), .ref (q 23), .ref (q 24), .ref (q 25), .ref (q 26), .int 0, .ref (q 27), .ref (q 28), .ref (q 29), .ref (q 30), .ref (q 31), .ref (q 32), .int 0, .ref (q 33), .ref (q 34), .ref (q 35), .int 0, .ref (q 13), .ref (q 36), .int 0, .int 1, .ref (q 10), .int 0, .int 0, .ref (q 37), .ref (q 38), .ref (q 11), .ref (q 39), .int 0, .int 0, .int 0, .ref (q 40), .ref (q 41), .ref (q 42), .int 0, .int 0, .int 0, .ref (q 43), .ref (q 44), .ref (q 45), .ref (q 46), .ref (q 47), .ref (q 48), .ref (q 49), .int 0, .ref (q 50), .int 0, .ref (q 51), .ref (q 52), .ref (q 53), .ref (q 54), .ref (q 55), .ref (q 56), .int 0, .int 0, .int 0, .ref (q 57), .int 0, .int 0, .ref (q 58), .ref (q 59), .int 0, .ref (q 60), .ref (q 61), .ref (q 12), .ref (q 62), .ref (q 63), .ref (q 64), .ref (q 65), .ref (q 66)]))] := hD
  refine lv_aload_n hx hb dX12_starts_10 rfl (lv_at hl 0 rfl) ?_
  refine lv_iconst (v := 0) hx hb dX12_starts_11 (by decide) ?_
  refine va_put (D := D) (ci := 12) (v := .int 0) (ty := .int) (C := RX12) (T := TX12) (N := 95) hx hb hts inX12 tyX12 tyX12_ok nmX12 hown hK hP hD hS 0 rfl rfl 48 (by decide) (hts _ kw_1562) (fun _ h9 => h9) rfl (by decide +kernel) rfl rfl (Nat.le_of_ble_eq_true rfl) dX12_starts_12 (fun H locs hP hD hS => ?_)
  have hP : va_P D vwCl [((q 0), .inr (12, [.int 0, .ref (q 1), .int 0, .ref (q 20), .int 0, .ref (q 2), .ref (q 3), .ref (q 4), .ref (q 5), .ref (q 21), .int 0, .int 0, .int 0, .int 0, .int 0, .int 0, .int 0, .int (-1), .int 0, .int 0, .int 0, .ref (q 22), .ref (q 6), .ref (q 7), .ref (q 8), .ref (q 9), .ref (q 23), .ref (q 24), .ref (q 25), .ref (q 26), .int 0, .ref (q 27), .ref (q 28), .ref (q 29), .ref (q 30), .ref (q 31), .ref (q 32), .int 0, .ref (q 33), .ref (q 34), .ref (q 35), .int 0, .ref (q 13), .ref (q 36), .int 0, .int 1, .ref (q 10), .int 0, .int 0, .ref (q 37), .ref (q 38), .ref (q 11), .ref (q 39), .int 0, .int 0, .int 0, .ref (q 40), .ref (q 41), .ref (q 42), .int 0, .int 0, .int 0, .ref (q 43), .ref (q 44), .ref (q 45), .ref (q 46), .ref (q 47), .ref (q 48), .ref (q 49), .int 0, .ref (q 50), .int 0, .ref (q 51), .ref (q 52), .ref (q 53), .ref (q 54), .ref (q 55), .ref (q 56), .int 0, .int 0, .int 0, .ref (q 57), .int 0, .int 0, .ref (q 58), .ref (q 59), .int 0, .ref (q 60), .ref (q 61), .ref (q 12), .ref (q 62), .ref (q 63), .ref (q 64), .ref (q 65), .ref (q 66)]))] H := hP
  have hD : va_D A [((q 0), .inr (12, [.int 0, .ref (q 1), .int 0, .ref (q 20), .int 0, .ref (q 2), .ref (q 3), .ref (q 4), .ref (q 5), .ref (q 21), .int 0, .int 0, .int 0, .int 0, .int 0, .int 0, .int 0, .int (-1), .int 0, .int 0, .int 0, .ref (q 22), .ref (q 6), .ref (q 7), .ref (q 8), .ref (q 9), .ref (q 23), .ref (q 24), .ref (q 25), .ref (q 26), .int 0, .ref (q 27), .ref (q 28), .ref (q 29), .ref (q 30), .ref (q 31), .ref (q 32), .int 0, .ref (q 33), .ref (q 34), .ref (q 35), .int 0, .ref (q 13), .ref (q 36), .int 0, .int 1, .ref (q 10), .int 0, .int 0, .ref (q 37), .ref (q 38), .ref (q 11), .ref (q 39), .int 0, .int 0, .int 0, .ref (q 40), .ref (q 41), .ref (q 42), .int 0, .int 0, .int 0, .ref (q 43), .ref (q 44), .ref (q 45), .ref (q 46), .ref (q 47), .ref (q 48), .ref (q 49), .int 0, .ref (q 50), .int 0, .ref (q 51), .ref (q 52), .ref (q 53), .ref (q 54), .ref (q 55), .ref (q 56), .int 0, .int 0, .int 0, .ref (q 57), .int 0, .int 0, .ref (q 58), .ref (q 59), .int 0, .ref (q 60), .ref (q 61), .ref (q 12), .ref (q 62), .ref (q 63), .ref (q 64), .ref (q 65), .ref (q 66)]))] := hD
  refine W.eq (g2 := F0 m 15 ls []) rfl ?_
  exact wr_v (q := (fun _ => 0)) (k := (fun _ => 0)) (g := (fun _ => fun _ => 0)) (gl := (fun _ => fun _ => 0)) hx hb hr hlocks hS (hP.sub [] rfl) (hK.sub [] rfl) (hD.sub [] (by decide) rfl) dX12_starts_15
set_option maxHeartbeats 4000000 in
set_option maxRecDepth 100000 in
theorem eM_mixed {l : Launch} (p1 p2 : Int32) : RdE l yX12_mixed cX12_mixed 3 (some .int) 0 (fun _ => True) [.int p1, .int p2] (.int (smix p1 p2)) := by
  refine RdE.of (by decide) (Nat.le_of_ble_eq_true rfl) ?_
  intro p e s m below meth c ls hx hb hr hml hown hts hlocks hE hl
  have hown : s.vm.findClass "SignalTableModel" = some m.cls := hown
  have hl : lv_has ls 3 [(0, .int p1), (1, .int p2)] := hl
  refine lv_iload_n hx hb dX12_mixed_0 rfl (lv_at hl 0 rfl) ?_
  refine lv_iload_n hx hb dX12_mixed_1 rfl (lv_at hl 1 rfl) ?_
  refine lv_ixor hx hb dX12_mixed_2 ?_
  refine lv_ldcw (v := 1103515245) hx hb hown (hts _ kw_1916) dX12_mixed_3 ?_
  refine lv_imul hx hb dX12_mixed_6 ?_
  refine lv_sipush (v := 12345) hx hb dX12_mixed_7 (by decide) ?_
  refine lv_iadd hx hb dX12_mixed_10 ?_
  refine lv_istore_n (lv' := [(2, .int (((p1 ^^^ p2) * 1103515245) + 12345)), (0, .int p1), (1, .int p2)]) hx hb dX12_mixed_11 rfl hl (by decide) rfl (fun ls hl => ?_)
  refine lv_iload_n hx hb dX12_mixed_12 rfl (lv_at hl 0 rfl) ?_
  refine lv_iload_n hx hb dX12_mixed_13 rfl (lv_at hl 0 rfl) ?_
  refine lv_bipush (v := 15) hx hb dX12_mixed_14 (by decide) ?_
  refine lv_iushr (v := (jush (((p1 ^^^ p2) * 1103515245) + 12345) 15)) hx hb dX12_mixed_16 rfl ?_
  refine lv_ixor hx hb dX12_mixed_17 ?_
  exact rd_i hx hb hr hlocks (rfl) dX12_mixed_18
set_option maxHeartbeats 4000000 in
set_option maxRecDepth 100000 in
theorem eM_lot {l : Launch} (p1 p2 : Int32) (n : Nat) (h0 : 0 < n) (h1 : n < 2 ^ 31) : RdE l yX12_lot cX12_lot 3 (some .int) 1 (fun _ => True) [.int p1, .int p2, .int (nI n)] (.int (nI (lotv n p1 p2))) := by
  refine RdE.of (by decide) (Nat.le_of_ble_eq_true rfl) ?_
  intro p e s m below meth c ls hx hb hr hml hown hts hlocks hE hl
  have hown : s.vm.findClass "SignalTableModel" = some m.cls := hown
  have hl : lv_has ls 3 [(0, .int p1), (1, .int p2), (2, .int (nI n))] := hl
  refine lv_iload_n hx hb dX12_lot_0 rfl (lv_at hl 0 rfl) ?_
  refine lv_bipush (v := 20) hx hb dX12_lot_1 (by decide) ?_
  refine re_S (As := [.int p1, .int 20]) (rest := []) caS_SignalTableModel_359 hx hb hml hown hts (eM_mixed p1 20) bl_T (fun _ _ _ => trivial) (by decide) rfl hl.1 (Nat.le_of_ble_eq_true rfl) (by decide) dX12_lot_3 rfl ?_
  refine lv_iload_n hx hb dX12_lot_6 rfl (lv_at hl 1 rfl) ?_
  refine re_S (As := [.int (smix p1 20), .int p2]) (rest := []) caS_SignalTableModel_359 hx hb hml hown hts (eM_mixed (smix p1 20) p2) bl_T (fun _ _ _ => trivial) (by decide) rfl hl.1 (Nat.le_of_ble_eq_true rfl) (by decide) dX12_lot_7 rfl ?_
  refine lv_iconst (v := 1) hx hb dX12_lot_10 (by decide) ?_
  refine lv_iushr (v := (jush (smix (smix p1 20) p2) 1)) hx hb dX12_lot_11 rfl ?_
  refine lv_iload_n hx hb dX12_lot_12 rfl (lv_at hl 2 rfl) ?_
  refine lv_irem hx hb dX12_lot_13 (nI_ne0 h0 h1) ?_
  exact rd_i hx hb hr hlocks (congrArg Value.int (lot_eq h0 h1 _)) dX12_lot_14
set_option maxHeartbeats 4000000 in
set_option maxRecDepth 100000 in
theorem wX12_deal {l : Launch} {D : va_G} {sz : Nat} (q : Nat → Nat) (k : Nat → ClassId) (g : Nat → Nat → Int32) (gl : Nat → Nat → Int64) (p1 : Int32) : Wi l yX12_deal cX12_deal 5 (some .boolean) 2 0 0 D [((q 0), .inr (12, mObj q)), ((q 1), .inl ((k 1), 2000, .inl (g 1))), ((q 2), .inl ((k 2), 403, .inl (g 2))), ((q 3), .inl ((k 3), 403, .inl (g 3))), ((q 4), .inl ((k 4), 403, .inl (g 4))), ((q 5), .inl ((k 5), 403, .inr (.inl (gl 5)))), ((q 6), .inl ((k 6), 2, .inl (upd (fun _ => 0) 0 4))), ((q 7), .inl ((k 7), 2, .inl (upd (fun _ => 0) 0 4))), ((q 8), .inl ((k 8), 2, .inl (upd (fun _ => 0) 0 (-1)))), ((q 9), .inl ((k 9), 2, .inl (fun _ => 0))), ((q 10), .inl ((k 10), 4, .inl (g 10))), ((q 11), .inl ((k 11), 16, .inl (g 11))), ((q 12), .inl ((k 12), 2, .inl (fun _ => 0))), ((q 13), .inl ((k 13), 14, .inl (g 13)))] [((k 1), .byte), ((k 2), .int), ((k 3), .int), ((k 4), .int), ((k 5), .long), ((k 6), .int), ((k 7), .int), ((k 8), .int), ((k 9), .int), ((k 10), .int), ((k 11), .int), ((k 12), .boolean), ((k 13), .int)] [.ref (q 0), .int p1] sz (fun _ => True) 1 (fun qz kz gz lz => []) (fun kz => []) := by
  refine Wi.of (by decide) (Nat.le_of_ble_eq_true rfl) ?_
  intro p e s m below meth c ls A hx hb hr hml hown hts hlocks hin hP hK hD hA hS hE hAe hl
  have hown : s.vm.findClass "SignalTableModel" = some m.cls := hown
  have hin : meth.name = "deal" := hin
  skip
  have hl : lv_has ls 5 [(0, .ref (q 0)), (1, .int p1)] := hl
  have hP : va_P D vwCl [((q 0), .inr (12, mObj q)), ((q 6), .inl ((k 6), 2, .inl (upd (fun _ => 0) 0 4))), ((q 7), .inl ((k 7), 2, .inl (upd (fun _ => 0) 0 4))), ((q 10), .inl ((k 10), 4, .inl (g 10))), ((q 11), .inl ((k 11), 16, .inl (g 11)))] s.heap := hP.sub [0, 6, 7, 10, 11] rfl
  have hD : va_D A [((q 0), .inr (12, mObj q)), ((q 6), .inl ((k 6), 2, .inl (upd (fun _ => 0) 0 4))), ((q 7), .inl ((k 7), 2, .inl (upd (fun _ => 0) 0 4))), ((q 10), .inl ((k 10), 4, .inl (g 10))), ((q 11), .inl ((k 11), 16, .inl (g 11)))] := hD.sub [0, 6, 7, 10, 11] (by decide) rfl
  have hK : va_K D vwCl [((k 6), .int), ((k 7), .int), ((k 10), .int), ((k 11), .int)] s := hK.sub [5, 6, 9, 10] rfl
  refine lv_iconst (v := 0) hx hb dX12_deal_0 (by decide) ?_
  refine lv_istore_n (lv' := [(2, .int 0), (0, .ref (q 0)), (1, .int p1)]) hx hb dX12_deal_1 rfl hl (by decide) rfl (fun ls hl => ?_)
  refine lv_iload_n hx hb dX12_deal_2 rfl (lv_at hl 0 rfl) ?_
  refine lv_aload_n hx hb dX12_deal_3 rfl (lv_at hl 1 rfl) ?_
  refine rd_V (As := []) (rest := [.int 0]) (d := 0) caV_SignalTableModel_351 hx hb hml hown hts (hP.sub [0, 1, 2] rfl) (hK.sub [0, 1] rfl) (wX12_cards q k g gl) (ci := 12) (q0 := 0) rfl rfl (by decide) rfl hl.1 (Nat.le_of_ble_eq_true rfl) (by decide) dX12_deal_4 rfl ?_
  refine lv_icmp_ge (tgt := 23) hx hb dX12_deal_7 (by decide) (fun h => absurd h (by decide)) (fun _ => ?_)
  refine lv_aload_n hx hb dX12_deal_10 rfl (lv_at hl 1 rfl) ?_
  refine va_get (D := D) (ci := 12) (v := .ref (q 11)) (C := RX12) (T := TX12) (N := 95) hx hb hts inX12 hown hK hP 0 rfl rfl 51 (by decide) (hts _ kw_1565) (fun _ h9 => h9) rfl dX12_deal_11 ?_
  refine lv_iload_n hx hb dX12_deal_14 rfl (lv_at hl 0 rfl) ?_
  refine W.eq (g2 := F0 m 15 ls [.int 0, .ref (q 11)]) rfl ?_
  refine lv_iload_n hx hb dX12_deal_15 rfl (lv_at hl 0 rfl) ?_
  refine va_iast hx hb hK hP hD hS 4 3 rfl rfl (z_in (by decide)) dX12_deal_16 (fun H locs hP hD hS => ?_)
  obtain ⟨f16_1, hf16_1⟩ : ∃ z, z = upd (g 11) ((0 : Int32).toNatClampNeg) 0 := ⟨_, rfl⟩
  rw [← hf16_1] at hP hD
  have hP : va_P D vwCl [((q 0), .inr (12, mObj q)), ((q 6), .inl ((k 6), 2, .inl (upd (fun _ => 0) 0 4))), ((q 7), .inl ((k 7), 2, .inl (upd (fun _ => 0) 0 4))), ((q 10), .inl ((k 10), 4, .inl (g 10))), ((q 11), .inl ((k 11), 16, .inl f16_1))] H := hP
  have hD : va_D A [((q 0), .inr (12, mObj q)), ((q 6), .inl ((k 6), 2, .inl (upd (fun _ => 0) 0 4))), ((q 7), .inl ((k 7), 2, .inl (upd (fun _ => 0) 0 4))), ((q 10), .inl ((k 10), 4, .inl (g 10))), ((q 11), .inl ((k 11), 16, .inl f16_1))] := hD
  refine lv_iinc (v := 1) (lv' := [(2, .int 1), (0, .ref (q 0)), (1, .int p1)]) hx hb dX12_deal_17 hl (k := 0) rfl (by decide) (by decide) rfl (fun ls hl => ?_)
  refine lv_goto (tgt := 2) hx hb dX12_deal_20 (by decide) ?_
  refine lv_iload_n hx hb dX12_deal_2 rfl (lv_at hl 0 rfl) ?_
  refine lv_aload_n hx hb dX12_deal_3 rfl (lv_at hl 1 rfl) ?_
  refine rd_V (As := []) (rest := [.int 1]) (d := 0) caV_SignalTableModel_351 hx hb hml hown hts (hP.sub [0, 1, 2] rfl) (hK.sub [0, 1] rfl) (wX12_cards q k g gl) (ci := 12) (q0 := 0) rfl rfl (by decide) rfl hl.1 (Nat.le_of_ble_eq_true rfl) (by decide) dX12_deal_4 rfl ?_
  refine lv_icmp_ge (tgt := 23) hx hb dX12_deal_7 (by decide) (fun h => absurd h (by decide)) (fun _ => ?_)
  refine lv_aload_n hx hb dX12_deal_10 rfl (lv_at hl 1 rfl) ?_
  refine va_get (D := D) (ci := 12) (v := .ref (q 11)) (C := RX12) (T := TX12) (N := 95) hx hb hts inX12 hown hK hP 0 rfl rfl 51 (by decide) (hts _ kw_1565) (fun _ h9 => h9) rfl dX12_deal_11 ?_
  refine W.eq (g2 := F0 m 14 ls [.ref (q 11)]) rfl ?_
  refine lv_iload_n hx hb dX12_deal_14 rfl (lv_at hl 0 rfl) ?_
  refine lv_iload_n hx hb dX12_deal_15 rfl (lv_at hl 0 rfl) ?_
  refine va_iast hx hb hK hP hD hS 4 3 rfl rfl (z_in (by decide)) dX12_deal_16 (fun H locs hP hD hS => ?_)
  obtain ⟨f16_2, hf16_2⟩ : ∃ z, z = upd f16_1 ((1 : Int32).toNatClampNeg) 1 := ⟨_, rfl⟩
  rw [← hf16_2] at hP hD
  have hP : va_P D vwCl [((q 0), .inr (12, mObj q)), ((q 6), .inl ((k 6), 2, .inl (upd (fun _ => 0) 0 4))), ((q 7), .inl ((k 7), 2, .inl (upd (fun _ => 0) 0 4))), ((q 10), .inl ((k 10), 4, .inl (g 10))), ((q 11), .inl ((k 11), 16, .inl f16_2))] H := hP
  have hD : va_D A [((q 0), .inr (12, mObj q)), ((q 6), .inl ((k 6), 2, .inl (upd (fun _ => 0) 0 4))), ((q 7), .inl ((k 7), 2, .inl (upd (fun _ => 0) 0 4))), ((q 10), .inl ((k 10), 4, .inl (g 10))), ((q 11), .inl ((k 11), 16, .inl f16_2))] := hD
  refine lv_iinc (v := 2) (lv' := [(2, .int 2), (0, .ref (q 0)), (1, .int p1)]) hx hb dX12_deal_17 hl (k := 0) rfl (by decide) (by decide) rfl (fun ls hl => ?_)
  refine lv_goto (tgt := 2) hx hb dX12_deal_20 (by decide) ?_
  refine lv_iload_n hx hb dX12_deal_2 rfl (lv_at hl 0 rfl) ?_
  refine lv_aload_n hx hb dX12_deal_3 rfl (lv_at hl 1 rfl) ?_
  refine rd_V (As := []) (rest := [.int 2]) (d := 0) caV_SignalTableModel_351 hx hb hml hown hts (hP.sub [0, 1, 2] rfl) (hK.sub [0, 1] rfl) (wX12_cards q k g gl) (ci := 12) (q0 := 0) rfl rfl (by decide) rfl hl.1 (Nat.le_of_ble_eq_true rfl) (by decide) dX12_deal_4 rfl ?_
  refine lv_icmp_ge (tgt := 23) hx hb dX12_deal_7 (by decide) (fun h => absurd h (by decide)) (fun _ => ?_)
  refine lv_aload_n hx hb dX12_deal_10 rfl (lv_at hl 1 rfl) ?_
  refine W.eq (g2 := F0 m 11 ls [.ref (q 0)]) rfl ?_
  refine va_get (D := D) (ci := 12) (v := .ref (q 11)) (C := RX12) (T := TX12) (N := 95) hx hb hts inX12 hown hK hP 0 rfl rfl 51 (by decide) (hts _ kw_1565) (fun _ h9 => h9) rfl dX12_deal_11 ?_
  refine lv_iload_n hx hb dX12_deal_14 rfl (lv_at hl 0 rfl) ?_
  refine lv_iload_n hx hb dX12_deal_15 rfl (lv_at hl 0 rfl) ?_
  refine va_iast hx hb hK hP hD hS 4 3 rfl rfl (z_in (by decide)) dX12_deal_16 (fun H locs hP hD hS => ?_)
  obtain ⟨f16_3, hf16_3⟩ : ∃ z, z = upd f16_2 ((2 : Int32).toNatClampNeg) 2 := ⟨_, rfl⟩
  rw [← hf16_3] at hP hD
  have hP : va_P D vwCl [((q 0), .inr (12, mObj q)), ((q 6), .inl ((k 6), 2, .inl (upd (fun _ => 0) 0 4))), ((q 7), .inl ((k 7), 2, .inl (upd (fun _ => 0) 0 4))), ((q 10), .inl ((k 10), 4, .inl (g 10))), ((q 11), .inl ((k 11), 16, .inl f16_3))] H := hP
  have hD : va_D A [((q 0), .inr (12, mObj q)), ((q 6), .inl ((k 6), 2, .inl (upd (fun _ => 0) 0 4))), ((q 7), .inl ((k 7), 2, .inl (upd (fun _ => 0) 0 4))), ((q 10), .inl ((k 10), 4, .inl (g 10))), ((q 11), .inl ((k 11), 16, .inl f16_3))] := hD
  refine lv_iinc (v := 3) (lv' := [(2, .int 3), (0, .ref (q 0)), (1, .int p1)]) hx hb dX12_deal_17 hl (k := 0) rfl (by decide) (by decide) rfl (fun ls hl => ?_)
  refine lv_goto (tgt := 2) hx hb dX12_deal_20 (by decide) ?_
  refine lv_iload_n hx hb dX12_deal_2 rfl (lv_at hl 0 rfl) ?_
  refine lv_aload_n hx hb dX12_deal_3 rfl (lv_at hl 1 rfl) ?_
  refine rd_V (As := []) (rest := [.int 3]) (d := 0) caV_SignalTableModel_351 hx hb hml hown hts (hP.sub [0, 1, 2] rfl) (hK.sub [0, 1] rfl) (wX12_cards q k g gl) (ci := 12) (q0 := 0) rfl rfl (by decide) rfl hl.1 (Nat.le_of_ble_eq_true rfl) (by decide) dX12_deal_4 rfl ?_
  refine lv_icmp_ge (tgt := 23) hx hb dX12_deal_7 (by decide) (fun h => absurd h (by decide)) (fun _ => ?_)
  refine W.eq (g2 := F0 m 10 ls []) rfl ?_
  refine lv_aload_n hx hb dX12_deal_10 rfl (lv_at hl 1 rfl) ?_
  refine va_get (D := D) (ci := 12) (v := .ref (q 11)) (C := RX12) (T := TX12) (N := 95) hx hb hts inX12 hown hK hP 0 rfl rfl 51 (by decide) (hts _ kw_1565) (fun _ h9 => h9) rfl dX12_deal_11 ?_
  refine lv_iload_n hx hb dX12_deal_14 rfl (lv_at hl 0 rfl) ?_
  refine lv_iload_n hx hb dX12_deal_15 rfl (lv_at hl 0 rfl) ?_
  refine va_iast hx hb hK hP hD hS 4 3 rfl rfl (z_in (by decide)) dX12_deal_16 (fun H locs hP hD hS => ?_)
  obtain ⟨f16_4, hf16_4⟩ : ∃ z, z = upd f16_3 ((3 : Int32).toNatClampNeg) 3 := ⟨_, rfl⟩
  rw [← hf16_4] at hP hD
  have hP : va_P D vwCl [((q 0), .inr (12, mObj q)), ((q 6), .inl ((k 6), 2, .inl (upd (fun _ => 0) 0 4))), ((q 7), .inl ((k 7), 2, .inl (upd (fun _ => 0) 0 4))), ((q 10), .inl ((k 10), 4, .inl (g 10))), ((q 11), .inl ((k 11), 16, .inl f16_4))] H := hP
  have hD : va_D A [((q 0), .inr (12, mObj q)), ((q 6), .inl ((k 6), 2, .inl (upd (fun _ => 0) 0 4))), ((q 7), .inl ((k 7), 2, .inl (upd (fun _ => 0) 0 4))), ((q 10), .inl ((k 10), 4, .inl (g 10))), ((q 11), .inl ((k 11), 16, .inl f16_4))] := hD
  refine lv_iinc (v := 4) (lv' := [(2, .int 4), (0, .ref (q 0)), (1, .int p1)]) hx hb dX12_deal_17 hl (k := 0) rfl (by decide) (by decide) rfl (fun ls hl => ?_)
  refine lv_goto (tgt := 2) hx hb dX12_deal_20 (by decide) ?_
  refine lv_iload_n hx hb dX12_deal_2 rfl (lv_at hl 0 rfl) ?_
  refine lv_aload_n hx hb dX12_deal_3 rfl (lv_at hl 1 rfl) ?_
  refine rd_V (As := []) (rest := [.int 4]) (d := 0) caV_SignalTableModel_351 hx hb hml hown hts (hP.sub [0, 1, 2] rfl) (hK.sub [0, 1] rfl) (wX12_cards q k g gl) (ci := 12) (q0 := 0) rfl rfl (by decide) rfl hl.1 (Nat.le_of_ble_eq_true rfl) (by decide) dX12_deal_4 rfl ?_
  refine W.eq (g2 := F0 m 7 ls [.int 16, .int 4]) rfl ?_
  refine lv_icmp_ge (tgt := 23) hx hb dX12_deal_7 (by decide) (fun h => absurd h (by decide)) (fun _ => ?_)
  refine lv_aload_n hx hb dX12_deal_10 rfl (lv_at hl 1 rfl) ?_
  refine va_get (D := D) (ci := 12) (v := .ref (q 11)) (C := RX12) (T := TX12) (N := 95) hx hb hts inX12 hown hK hP 0 rfl rfl 51 (by decide) (hts _ kw_1565) (fun _ h9 => h9) rfl dX12_deal_11 ?_
  refine lv_iload_n hx hb dX12_deal_14 rfl (lv_at hl 0 rfl) ?_
  refine lv_iload_n hx hb dX12_deal_15 rfl (lv_at hl 0 rfl) ?_
  refine va_iast hx hb hK hP hD hS 4 3 rfl rfl (z_in (by decide)) dX12_deal_16 (fun H locs hP hD hS => ?_)
  obtain ⟨f16_5, hf16_5⟩ : ∃ z, z = upd f16_4 ((4 : Int32).toNatClampNeg) 4 := ⟨_, rfl⟩
  rw [← hf16_5] at hP hD
  have hP : va_P D vwCl [((q 0), .inr (12, mObj q)), ((q 6), .inl ((k 6), 2, .inl (upd (fun _ => 0) 0 4))), ((q 7), .inl ((k 7), 2, .inl (upd (fun _ => 0) 0 4))), ((q 10), .inl ((k 10), 4, .inl (g 10))), ((q 11), .inl ((k 11), 16, .inl f16_5))] H := hP
  have hD : va_D A [((q 0), .inr (12, mObj q)), ((q 6), .inl ((k 6), 2, .inl (upd (fun _ => 0) 0 4))), ((q 7), .inl ((k 7), 2, .inl (upd (fun _ => 0) 0 4))), ((q 10), .inl ((k 10), 4, .inl (g 10))), ((q 11), .inl ((k 11), 16, .inl f16_5))] := hD
  refine lv_iinc (v := 5) (lv' := [(2, .int 5), (0, .ref (q 0)), (1, .int p1)]) hx hb dX12_deal_17 hl (k := 0) rfl (by decide) (by decide) rfl (fun ls hl => ?_)
  refine lv_goto (tgt := 2) hx hb dX12_deal_20 (by decide) ?_
  refine lv_iload_n hx hb dX12_deal_2 rfl (lv_at hl 0 rfl) ?_
  refine lv_aload_n hx hb dX12_deal_3 rfl (lv_at hl 1 rfl) ?_
  refine W.eq (g2 := F0 m 4 ls [.ref (q 0), .int 5]) rfl ?_
  refine rd_V (As := []) (rest := [.int 5]) (d := 0) caV_SignalTableModel_351 hx hb hml hown hts (hP.sub [0, 1, 2] rfl) (hK.sub [0, 1] rfl) (wX12_cards q k g gl) (ci := 12) (q0 := 0) rfl rfl (by decide) rfl hl.1 (Nat.le_of_ble_eq_true rfl) (by decide) dX12_deal_4 rfl ?_
  refine lv_icmp_ge (tgt := 23) hx hb dX12_deal_7 (by decide) (fun h => absurd h (by decide)) (fun _ => ?_)
  refine lv_aload_n hx hb dX12_deal_10 rfl (lv_at hl 1 rfl) ?_
  refine va_get (D := D) (ci := 12) (v := .ref (q 11)) (C := RX12) (T := TX12) (N := 95) hx hb hts inX12 hown hK hP 0 rfl rfl 51 (by decide) (hts _ kw_1565) (fun _ h9 => h9) rfl dX12_deal_11 ?_
  refine lv_iload_n hx hb dX12_deal_14 rfl (lv_at hl 0 rfl) ?_
  refine lv_iload_n hx hb dX12_deal_15 rfl (lv_at hl 0 rfl) ?_
  refine va_iast hx hb hK hP hD hS 4 3 rfl rfl (z_in (by decide)) dX12_deal_16 (fun H locs hP hD hS => ?_)
  obtain ⟨f16_6, hf16_6⟩ : ∃ z, z = upd f16_5 ((5 : Int32).toNatClampNeg) 5 := ⟨_, rfl⟩
  rw [← hf16_6] at hP hD
  have hP : va_P D vwCl [((q 0), .inr (12, mObj q)), ((q 6), .inl ((k 6), 2, .inl (upd (fun _ => 0) 0 4))), ((q 7), .inl ((k 7), 2, .inl (upd (fun _ => 0) 0 4))), ((q 10), .inl ((k 10), 4, .inl (g 10))), ((q 11), .inl ((k 11), 16, .inl f16_6))] H := hP
  have hD : va_D A [((q 0), .inr (12, mObj q)), ((q 6), .inl ((k 6), 2, .inl (upd (fun _ => 0) 0 4))), ((q 7), .inl ((k 7), 2, .inl (upd (fun _ => 0) 0 4))), ((q 10), .inl ((k 10), 4, .inl (g 10))), ((q 11), .inl ((k 11), 16, .inl f16_6))] := hD
  refine lv_iinc (v := 6) (lv' := [(2, .int 6), (0, .ref (q 0)), (1, .int p1)]) hx hb dX12_deal_17 hl (k := 0) rfl (by decide) (by decide) rfl (fun ls hl => ?_)
  refine lv_goto (tgt := 2) hx hb dX12_deal_20 (by decide) ?_
  refine lv_iload_n hx hb dX12_deal_2 rfl (lv_at hl 0 rfl) ?_
  refine W.eq (g2 := F0 m 3 ls [.int 6]) rfl ?_
  refine lv_aload_n hx hb dX12_deal_3 rfl (lv_at hl 1 rfl) ?_
  refine rd_V (As := []) (rest := [.int 6]) (d := 0) caV_SignalTableModel_351 hx hb hml hown hts (hP.sub [0, 1, 2] rfl) (hK.sub [0, 1] rfl) (wX12_cards q k g gl) (ci := 12) (q0 := 0) rfl rfl (by decide) rfl hl.1 (Nat.le_of_ble_eq_true rfl) (by decide) dX12_deal_4 rfl ?_
  refine lv_icmp_ge (tgt := 23) hx hb dX12_deal_7 (by decide) (fun h => absurd h (by decide)) (fun _ => ?_)
  refine lv_aload_n hx hb dX12_deal_10 rfl (lv_at hl 1 rfl) ?_
  refine va_get (D := D) (ci := 12) (v := .ref (q 11)) (C := RX12) (T := TX12) (N := 95) hx hb hts inX12 hown hK hP 0 rfl rfl 51 (by decide) (hts _ kw_1565) (fun _ h9 => h9) rfl dX12_deal_11 ?_
  refine lv_iload_n hx hb dX12_deal_14 rfl (lv_at hl 0 rfl) ?_
  refine lv_iload_n hx hb dX12_deal_15 rfl (lv_at hl 0 rfl) ?_
  refine va_iast hx hb hK hP hD hS 4 3 rfl rfl (z_in (by decide)) dX12_deal_16 (fun H locs hP hD hS => ?_)
  obtain ⟨f16_7, hf16_7⟩ : ∃ z, z = upd f16_6 ((6 : Int32).toNatClampNeg) 6 := ⟨_, rfl⟩
  rw [← hf16_7] at hP hD
  have hP : va_P D vwCl [((q 0), .inr (12, mObj q)), ((q 6), .inl ((k 6), 2, .inl (upd (fun _ => 0) 0 4))), ((q 7), .inl ((k 7), 2, .inl (upd (fun _ => 0) 0 4))), ((q 10), .inl ((k 10), 4, .inl (g 10))), ((q 11), .inl ((k 11), 16, .inl f16_7))] H := hP
  have hD : va_D A [((q 0), .inr (12, mObj q)), ((q 6), .inl ((k 6), 2, .inl (upd (fun _ => 0) 0 4))), ((q 7), .inl ((k 7), 2, .inl (upd (fun _ => 0) 0 4))), ((q 10), .inl ((k 10), 4, .inl (g 10))), ((q 11), .inl ((k 11), 16, .inl f16_7))] := hD
  refine lv_iinc (v := 7) (lv' := [(2, .int 7), (0, .ref (q 0)), (1, .int p1)]) hx hb dX12_deal_17 hl (k := 0) rfl (by decide) (by decide) rfl (fun ls hl => ?_)
  refine lv_goto (tgt := 2) hx hb dX12_deal_20 (by decide) ?_
  refine W.eq (g2 := F0 m 2 ls []) rfl ?_
  refine lv_iload_n hx hb dX12_deal_2 rfl (lv_at hl 0 rfl) ?_
  refine lv_aload_n hx hb dX12_deal_3 rfl (lv_at hl 1 rfl) ?_
  refine rd_V (As := []) (rest := [.int 7]) (d := 0) caV_SignalTableModel_351 hx hb hml hown hts (hP.sub [0, 1, 2] rfl) (hK.sub [0, 1] rfl) (wX12_cards q k g gl) (ci := 12) (q0 := 0) rfl rfl (by decide) rfl hl.1 (Nat.le_of_ble_eq_true rfl) (by decide) dX12_deal_4 rfl ?_
  refine lv_icmp_ge (tgt := 23) hx hb dX12_deal_7 (by decide) (fun h => absurd h (by decide)) (fun _ => ?_)
  refine lv_aload_n hx hb dX12_deal_10 rfl (lv_at hl 1 rfl) ?_
  refine va_get (D := D) (ci := 12) (v := .ref (q 11)) (C := RX12) (T := TX12) (N := 95) hx hb hts inX12 hown hK hP 0 rfl rfl 51 (by decide) (hts _ kw_1565) (fun _ h9 => h9) rfl dX12_deal_11 ?_
  refine lv_iload_n hx hb dX12_deal_14 rfl (lv_at hl 0 rfl) ?_
  refine lv_iload_n hx hb dX12_deal_15 rfl (lv_at hl 0 rfl) ?_
  refine va_iast hx hb hK hP hD hS 4 3 rfl rfl (z_in (by decide)) dX12_deal_16 (fun H locs hP hD hS => ?_)
  obtain ⟨f16_8, hf16_8⟩ : ∃ z, z = upd f16_7 ((7 : Int32).toNatClampNeg) 7 := ⟨_, rfl⟩
  rw [← hf16_8] at hP hD
  have hP : va_P D vwCl [((q 0), .inr (12, mObj q)), ((q 6), .inl ((k 6), 2, .inl (upd (fun _ => 0) 0 4))), ((q 7), .inl ((k 7), 2, .inl (upd (fun _ => 0) 0 4))), ((q 10), .inl ((k 10), 4, .inl (g 10))), ((q 11), .inl ((k 11), 16, .inl f16_8))] H := hP
  have hD : va_D A [((q 0), .inr (12, mObj q)), ((q 6), .inl ((k 6), 2, .inl (upd (fun _ => 0) 0 4))), ((q 7), .inl ((k 7), 2, .inl (upd (fun _ => 0) 0 4))), ((q 10), .inl ((k 10), 4, .inl (g 10))), ((q 11), .inl ((k 11), 16, .inl f16_8))] := hD
  refine lv_iinc (v := 8) (lv' := [(2, .int 8), (0, .ref (q 0)), (1, .int p1)]) hx hb dX12_deal_17 hl (k := 0) rfl (by decide) (by decide) rfl (fun ls hl => ?_)
  refine W.eq (g2 := F0 m 20 ls []) rfl ?_
  refine lv_goto (tgt := 2) hx hb dX12_deal_20 (by decide) ?_
  refine lv_iload_n hx hb dX12_deal_2 rfl (lv_at hl 0 rfl) ?_
  refine lv_aload_n hx hb dX12_deal_3 rfl (lv_at hl 1 rfl) ?_
  refine rd_V (As := []) (rest := [.int 8]) (d := 0) caV_SignalTableModel_351 hx hb hml hown hts (hP.sub [0, 1, 2] rfl) (hK.sub [0, 1] rfl) (wX12_cards q k g gl) (ci := 12) (q0 := 0) rfl rfl (by decide) rfl hl.1 (Nat.le_of_ble_eq_true rfl) (by decide) dX12_deal_4 rfl ?_
  refine lv_icmp_ge (tgt := 23) hx hb dX12_deal_7 (by decide) (fun h => absurd h (by decide)) (fun _ => ?_)
  refine lv_aload_n hx hb dX12_deal_10 rfl (lv_at hl 1 rfl) ?_
  refine va_get (D := D) (ci := 12) (v := .ref (q 11)) (C := RX12) (T := TX12) (N := 95) hx hb hts inX12 hown hK hP 0 rfl rfl 51 (by decide) (hts _ kw_1565) (fun _ h9 => h9) rfl dX12_deal_11 ?_
  refine lv_iload_n hx hb dX12_deal_14 rfl (lv_at hl 0 rfl) ?_
  refine lv_iload_n hx hb dX12_deal_15 rfl (lv_at hl 0 rfl) ?_
  refine va_iast hx hb hK hP hD hS 4 3 rfl rfl (z_in (by decide)) dX12_deal_16 (fun H locs hP hD hS => ?_)
  obtain ⟨f16_9, hf16_9⟩ : ∃ z, z = upd f16_8 ((8 : Int32).toNatClampNeg) 8 := ⟨_, rfl⟩
  rw [← hf16_9] at hP hD
  have hP : va_P D vwCl [((q 0), .inr (12, mObj q)), ((q 6), .inl ((k 6), 2, .inl (upd (fun _ => 0) 0 4))), ((q 7), .inl ((k 7), 2, .inl (upd (fun _ => 0) 0 4))), ((q 10), .inl ((k 10), 4, .inl (g 10))), ((q 11), .inl ((k 11), 16, .inl f16_9))] H := hP
  have hD : va_D A [((q 0), .inr (12, mObj q)), ((q 6), .inl ((k 6), 2, .inl (upd (fun _ => 0) 0 4))), ((q 7), .inl ((k 7), 2, .inl (upd (fun _ => 0) 0 4))), ((q 10), .inl ((k 10), 4, .inl (g 10))), ((q 11), .inl ((k 11), 16, .inl f16_9))] := hD
  refine W.eq (g2 := F0 m 17 ls []) rfl ?_
  refine lv_iinc (v := 9) (lv' := [(2, .int 9), (0, .ref (q 0)), (1, .int p1)]) hx hb dX12_deal_17 hl (k := 0) rfl (by decide) (by decide) rfl (fun ls hl => ?_)
  refine lv_goto (tgt := 2) hx hb dX12_deal_20 (by decide) ?_
  refine lv_iload_n hx hb dX12_deal_2 rfl (lv_at hl 0 rfl) ?_
  refine lv_aload_n hx hb dX12_deal_3 rfl (lv_at hl 1 rfl) ?_
  refine rd_V (As := []) (rest := [.int 9]) (d := 0) caV_SignalTableModel_351 hx hb hml hown hts (hP.sub [0, 1, 2] rfl) (hK.sub [0, 1] rfl) (wX12_cards q k g gl) (ci := 12) (q0 := 0) rfl rfl (by decide) rfl hl.1 (Nat.le_of_ble_eq_true rfl) (by decide) dX12_deal_4 rfl ?_
  refine lv_icmp_ge (tgt := 23) hx hb dX12_deal_7 (by decide) (fun h => absurd h (by decide)) (fun _ => ?_)
  refine lv_aload_n hx hb dX12_deal_10 rfl (lv_at hl 1 rfl) ?_
  refine va_get (D := D) (ci := 12) (v := .ref (q 11)) (C := RX12) (T := TX12) (N := 95) hx hb hts inX12 hown hK hP 0 rfl rfl 51 (by decide) (hts _ kw_1565) (fun _ h9 => h9) rfl dX12_deal_11 ?_
  refine lv_iload_n hx hb dX12_deal_14 rfl (lv_at hl 0 rfl) ?_
  refine lv_iload_n hx hb dX12_deal_15 rfl (lv_at hl 0 rfl) ?_
  refine W.eq (g2 := F0 m 16 ls [.int 9, .int 9, .ref (q 11)]) rfl ?_
  refine va_iast hx hb hK hP hD hS 4 3 rfl rfl (z_in (by decide)) dX12_deal_16 (fun H locs hP hD hS => ?_)
  obtain ⟨f16_10, hf16_10⟩ : ∃ z, z = upd f16_9 ((9 : Int32).toNatClampNeg) 9 := ⟨_, rfl⟩
  rw [← hf16_10] at hP hD
  have hP : va_P D vwCl [((q 0), .inr (12, mObj q)), ((q 6), .inl ((k 6), 2, .inl (upd (fun _ => 0) 0 4))), ((q 7), .inl ((k 7), 2, .inl (upd (fun _ => 0) 0 4))), ((q 10), .inl ((k 10), 4, .inl (g 10))), ((q 11), .inl ((k 11), 16, .inl f16_10))] H := hP
  have hD : va_D A [((q 0), .inr (12, mObj q)), ((q 6), .inl ((k 6), 2, .inl (upd (fun _ => 0) 0 4))), ((q 7), .inl ((k 7), 2, .inl (upd (fun _ => 0) 0 4))), ((q 10), .inl ((k 10), 4, .inl (g 10))), ((q 11), .inl ((k 11), 16, .inl f16_10))] := hD
  refine lv_iinc (v := 10) (lv' := [(2, .int 10), (0, .ref (q 0)), (1, .int p1)]) hx hb dX12_deal_17 hl (k := 0) rfl (by decide) (by decide) rfl (fun ls hl => ?_)
  refine lv_goto (tgt := 2) hx hb dX12_deal_20 (by decide) ?_
  refine lv_iload_n hx hb dX12_deal_2 rfl (lv_at hl 0 rfl) ?_
  refine lv_aload_n hx hb dX12_deal_3 rfl (lv_at hl 1 rfl) ?_
  refine rd_V (As := []) (rest := [.int 10]) (d := 0) caV_SignalTableModel_351 hx hb hml hown hts (hP.sub [0, 1, 2] rfl) (hK.sub [0, 1] rfl) (wX12_cards q k g gl) (ci := 12) (q0 := 0) rfl rfl (by decide) rfl hl.1 (Nat.le_of_ble_eq_true rfl) (by decide) dX12_deal_4 rfl ?_
  refine lv_icmp_ge (tgt := 23) hx hb dX12_deal_7 (by decide) (fun h => absurd h (by decide)) (fun _ => ?_)
  refine lv_aload_n hx hb dX12_deal_10 rfl (lv_at hl 1 rfl) ?_
  refine va_get (D := D) (ci := 12) (v := .ref (q 11)) (C := RX12) (T := TX12) (N := 95) hx hb hts inX12 hown hK hP 0 rfl rfl 51 (by decide) (hts _ kw_1565) (fun _ h9 => h9) rfl dX12_deal_11 ?_
  refine lv_iload_n hx hb dX12_deal_14 rfl (lv_at hl 0 rfl) ?_
  refine W.eq (g2 := F0 m 15 ls [.int 10, .ref (q 11)]) rfl ?_
  refine lv_iload_n hx hb dX12_deal_15 rfl (lv_at hl 0 rfl) ?_
  refine va_iast hx hb hK hP hD hS 4 3 rfl rfl (z_in (by decide)) dX12_deal_16 (fun H locs hP hD hS => ?_)
  obtain ⟨f16_11, hf16_11⟩ : ∃ z, z = upd f16_10 ((10 : Int32).toNatClampNeg) 10 := ⟨_, rfl⟩
  rw [← hf16_11] at hP hD
  have hP : va_P D vwCl [((q 0), .inr (12, mObj q)), ((q 6), .inl ((k 6), 2, .inl (upd (fun _ => 0) 0 4))), ((q 7), .inl ((k 7), 2, .inl (upd (fun _ => 0) 0 4))), ((q 10), .inl ((k 10), 4, .inl (g 10))), ((q 11), .inl ((k 11), 16, .inl f16_11))] H := hP
  have hD : va_D A [((q 0), .inr (12, mObj q)), ((q 6), .inl ((k 6), 2, .inl (upd (fun _ => 0) 0 4))), ((q 7), .inl ((k 7), 2, .inl (upd (fun _ => 0) 0 4))), ((q 10), .inl ((k 10), 4, .inl (g 10))), ((q 11), .inl ((k 11), 16, .inl f16_11))] := hD
  refine lv_iinc (v := 11) (lv' := [(2, .int 11), (0, .ref (q 0)), (1, .int p1)]) hx hb dX12_deal_17 hl (k := 0) rfl (by decide) (by decide) rfl (fun ls hl => ?_)
  refine lv_goto (tgt := 2) hx hb dX12_deal_20 (by decide) ?_
  refine lv_iload_n hx hb dX12_deal_2 rfl (lv_at hl 0 rfl) ?_
  refine lv_aload_n hx hb dX12_deal_3 rfl (lv_at hl 1 rfl) ?_
  refine rd_V (As := []) (rest := [.int 11]) (d := 0) caV_SignalTableModel_351 hx hb hml hown hts (hP.sub [0, 1, 2] rfl) (hK.sub [0, 1] rfl) (wX12_cards q k g gl) (ci := 12) (q0 := 0) rfl rfl (by decide) rfl hl.1 (Nat.le_of_ble_eq_true rfl) (by decide) dX12_deal_4 rfl ?_
  refine lv_icmp_ge (tgt := 23) hx hb dX12_deal_7 (by decide) (fun h => absurd h (by decide)) (fun _ => ?_)
  refine lv_aload_n hx hb dX12_deal_10 rfl (lv_at hl 1 rfl) ?_
  refine va_get (D := D) (ci := 12) (v := .ref (q 11)) (C := RX12) (T := TX12) (N := 95) hx hb hts inX12 hown hK hP 0 rfl rfl 51 (by decide) (hts _ kw_1565) (fun _ h9 => h9) rfl dX12_deal_11 ?_
  refine W.eq (g2 := F0 m 14 ls [.ref (q 11)]) rfl ?_
  refine lv_iload_n hx hb dX12_deal_14 rfl (lv_at hl 0 rfl) ?_
  refine lv_iload_n hx hb dX12_deal_15 rfl (lv_at hl 0 rfl) ?_
  refine va_iast hx hb hK hP hD hS 4 3 rfl rfl (z_in (by decide)) dX12_deal_16 (fun H locs hP hD hS => ?_)
  obtain ⟨f16_12, hf16_12⟩ : ∃ z, z = upd f16_11 ((11 : Int32).toNatClampNeg) 11 := ⟨_, rfl⟩
  rw [← hf16_12] at hP hD
  have hP : va_P D vwCl [((q 0), .inr (12, mObj q)), ((q 6), .inl ((k 6), 2, .inl (upd (fun _ => 0) 0 4))), ((q 7), .inl ((k 7), 2, .inl (upd (fun _ => 0) 0 4))), ((q 10), .inl ((k 10), 4, .inl (g 10))), ((q 11), .inl ((k 11), 16, .inl f16_12))] H := hP
  have hD : va_D A [((q 0), .inr (12, mObj q)), ((q 6), .inl ((k 6), 2, .inl (upd (fun _ => 0) 0 4))), ((q 7), .inl ((k 7), 2, .inl (upd (fun _ => 0) 0 4))), ((q 10), .inl ((k 10), 4, .inl (g 10))), ((q 11), .inl ((k 11), 16, .inl f16_12))] := hD
  refine lv_iinc (v := 12) (lv' := [(2, .int 12), (0, .ref (q 0)), (1, .int p1)]) hx hb dX12_deal_17 hl (k := 0) rfl (by decide) (by decide) rfl (fun ls hl => ?_)
  refine lv_goto (tgt := 2) hx hb dX12_deal_20 (by decide) ?_
  refine lv_iload_n hx hb dX12_deal_2 rfl (lv_at hl 0 rfl) ?_
  refine lv_aload_n hx hb dX12_deal_3 rfl (lv_at hl 1 rfl) ?_
  refine rd_V (As := []) (rest := [.int 12]) (d := 0) caV_SignalTableModel_351 hx hb hml hown hts (hP.sub [0, 1, 2] rfl) (hK.sub [0, 1] rfl) (wX12_cards q k g gl) (ci := 12) (q0 := 0) rfl rfl (by decide) rfl hl.1 (Nat.le_of_ble_eq_true rfl) (by decide) dX12_deal_4 rfl ?_
  refine lv_icmp_ge (tgt := 23) hx hb dX12_deal_7 (by decide) (fun h => absurd h (by decide)) (fun _ => ?_)
  refine lv_aload_n hx hb dX12_deal_10 rfl (lv_at hl 1 rfl) ?_
  refine W.eq (g2 := F0 m 11 ls [.ref (q 0)]) rfl ?_
  refine va_get (D := D) (ci := 12) (v := .ref (q 11)) (C := RX12) (T := TX12) (N := 95) hx hb hts inX12 hown hK hP 0 rfl rfl 51 (by decide) (hts _ kw_1565) (fun _ h9 => h9) rfl dX12_deal_11 ?_
  refine lv_iload_n hx hb dX12_deal_14 rfl (lv_at hl 0 rfl) ?_
  refine lv_iload_n hx hb dX12_deal_15 rfl (lv_at hl 0 rfl) ?_
  refine va_iast hx hb hK hP hD hS 4 3 rfl rfl (z_in (by decide)) dX12_deal_16 (fun H locs hP hD hS => ?_)
  obtain ⟨f16_13, hf16_13⟩ : ∃ z, z = upd f16_12 ((12 : Int32).toNatClampNeg) 12 := ⟨_, rfl⟩
  rw [← hf16_13] at hP hD
  have hP : va_P D vwCl [((q 0), .inr (12, mObj q)), ((q 6), .inl ((k 6), 2, .inl (upd (fun _ => 0) 0 4))), ((q 7), .inl ((k 7), 2, .inl (upd (fun _ => 0) 0 4))), ((q 10), .inl ((k 10), 4, .inl (g 10))), ((q 11), .inl ((k 11), 16, .inl f16_13))] H := hP
  have hD : va_D A [((q 0), .inr (12, mObj q)), ((q 6), .inl ((k 6), 2, .inl (upd (fun _ => 0) 0 4))), ((q 7), .inl ((k 7), 2, .inl (upd (fun _ => 0) 0 4))), ((q 10), .inl ((k 10), 4, .inl (g 10))), ((q 11), .inl ((k 11), 16, .inl f16_13))] := hD
  refine lv_iinc (v := 13) (lv' := [(2, .int 13), (0, .ref (q 0)), (1, .int p1)]) hx hb dX12_deal_17 hl (k := 0) rfl (by decide) (by decide) rfl (fun ls hl => ?_)
  refine lv_goto (tgt := 2) hx hb dX12_deal_20 (by decide) ?_
  refine lv_iload_n hx hb dX12_deal_2 rfl (lv_at hl 0 rfl) ?_
  refine lv_aload_n hx hb dX12_deal_3 rfl (lv_at hl 1 rfl) ?_
  refine rd_V (As := []) (rest := [.int 13]) (d := 0) caV_SignalTableModel_351 hx hb hml hown hts (hP.sub [0, 1, 2] rfl) (hK.sub [0, 1] rfl) (wX12_cards q k g gl) (ci := 12) (q0 := 0) rfl rfl (by decide) rfl hl.1 (Nat.le_of_ble_eq_true rfl) (by decide) dX12_deal_4 rfl ?_
  refine lv_icmp_ge (tgt := 23) hx hb dX12_deal_7 (by decide) (fun h => absurd h (by decide)) (fun _ => ?_)
  refine W.eq (g2 := F0 m 10 ls []) rfl ?_
  refine lv_aload_n hx hb dX12_deal_10 rfl (lv_at hl 1 rfl) ?_
  refine va_get (D := D) (ci := 12) (v := .ref (q 11)) (C := RX12) (T := TX12) (N := 95) hx hb hts inX12 hown hK hP 0 rfl rfl 51 (by decide) (hts _ kw_1565) (fun _ h9 => h9) rfl dX12_deal_11 ?_
  refine lv_iload_n hx hb dX12_deal_14 rfl (lv_at hl 0 rfl) ?_
  refine lv_iload_n hx hb dX12_deal_15 rfl (lv_at hl 0 rfl) ?_
  refine va_iast hx hb hK hP hD hS 4 3 rfl rfl (z_in (by decide)) dX12_deal_16 (fun H locs hP hD hS => ?_)
  obtain ⟨f16_14, hf16_14⟩ : ∃ z, z = upd f16_13 ((13 : Int32).toNatClampNeg) 13 := ⟨_, rfl⟩
  rw [← hf16_14] at hP hD
  have hP : va_P D vwCl [((q 0), .inr (12, mObj q)), ((q 6), .inl ((k 6), 2, .inl (upd (fun _ => 0) 0 4))), ((q 7), .inl ((k 7), 2, .inl (upd (fun _ => 0) 0 4))), ((q 10), .inl ((k 10), 4, .inl (g 10))), ((q 11), .inl ((k 11), 16, .inl f16_14))] H := hP
  have hD : va_D A [((q 0), .inr (12, mObj q)), ((q 6), .inl ((k 6), 2, .inl (upd (fun _ => 0) 0 4))), ((q 7), .inl ((k 7), 2, .inl (upd (fun _ => 0) 0 4))), ((q 10), .inl ((k 10), 4, .inl (g 10))), ((q 11), .inl ((k 11), 16, .inl f16_14))] := hD
  refine lv_iinc (v := 14) (lv' := [(2, .int 14), (0, .ref (q 0)), (1, .int p1)]) hx hb dX12_deal_17 hl (k := 0) rfl (by decide) (by decide) rfl (fun ls hl => ?_)
  refine lv_goto (tgt := 2) hx hb dX12_deal_20 (by decide) ?_
  refine lv_iload_n hx hb dX12_deal_2 rfl (lv_at hl 0 rfl) ?_
  refine lv_aload_n hx hb dX12_deal_3 rfl (lv_at hl 1 rfl) ?_
  refine rd_V (As := []) (rest := [.int 14]) (d := 0) caV_SignalTableModel_351 hx hb hml hown hts (hP.sub [0, 1, 2] rfl) (hK.sub [0, 1] rfl) (wX12_cards q k g gl) (ci := 12) (q0 := 0) rfl rfl (by decide) rfl hl.1 (Nat.le_of_ble_eq_true rfl) (by decide) dX12_deal_4 rfl ?_
  refine W.eq (g2 := F0 m 7 ls [.int 16, .int 14]) rfl ?_
  refine lv_icmp_ge (tgt := 23) hx hb dX12_deal_7 (by decide) (fun h => absurd h (by decide)) (fun _ => ?_)
  refine lv_aload_n hx hb dX12_deal_10 rfl (lv_at hl 1 rfl) ?_
  refine va_get (D := D) (ci := 12) (v := .ref (q 11)) (C := RX12) (T := TX12) (N := 95) hx hb hts inX12 hown hK hP 0 rfl rfl 51 (by decide) (hts _ kw_1565) (fun _ h9 => h9) rfl dX12_deal_11 ?_
  refine lv_iload_n hx hb dX12_deal_14 rfl (lv_at hl 0 rfl) ?_
  refine lv_iload_n hx hb dX12_deal_15 rfl (lv_at hl 0 rfl) ?_
  refine va_iast hx hb hK hP hD hS 4 3 rfl rfl (z_in (by decide)) dX12_deal_16 (fun H locs hP hD hS => ?_)
  obtain ⟨f16_15, hf16_15⟩ : ∃ z, z = upd f16_14 ((14 : Int32).toNatClampNeg) 14 := ⟨_, rfl⟩
  rw [← hf16_15] at hP hD
  have hP : va_P D vwCl [((q 0), .inr (12, mObj q)), ((q 6), .inl ((k 6), 2, .inl (upd (fun _ => 0) 0 4))), ((q 7), .inl ((k 7), 2, .inl (upd (fun _ => 0) 0 4))), ((q 10), .inl ((k 10), 4, .inl (g 10))), ((q 11), .inl ((k 11), 16, .inl f16_15))] H := hP
  have hD : va_D A [((q 0), .inr (12, mObj q)), ((q 6), .inl ((k 6), 2, .inl (upd (fun _ => 0) 0 4))), ((q 7), .inl ((k 7), 2, .inl (upd (fun _ => 0) 0 4))), ((q 10), .inl ((k 10), 4, .inl (g 10))), ((q 11), .inl ((k 11), 16, .inl f16_15))] := hD
  refine lv_iinc (v := 15) (lv' := [(2, .int 15), (0, .ref (q 0)), (1, .int p1)]) hx hb dX12_deal_17 hl (k := 0) rfl (by decide) (by decide) rfl (fun ls hl => ?_)
  refine lv_goto (tgt := 2) hx hb dX12_deal_20 (by decide) ?_
  refine lv_iload_n hx hb dX12_deal_2 rfl (lv_at hl 0 rfl) ?_
  refine lv_aload_n hx hb dX12_deal_3 rfl (lv_at hl 1 rfl) ?_
  refine W.eq (g2 := F0 m 4 ls [.ref (q 0), .int 15]) rfl ?_
  refine rd_V (As := []) (rest := [.int 15]) (d := 0) caV_SignalTableModel_351 hx hb hml hown hts (hP.sub [0, 1, 2] rfl) (hK.sub [0, 1] rfl) (wX12_cards q k g gl) (ci := 12) (q0 := 0) rfl rfl (by decide) rfl hl.1 (Nat.le_of_ble_eq_true rfl) (by decide) dX12_deal_4 rfl ?_
  refine lv_icmp_ge (tgt := 23) hx hb dX12_deal_7 (by decide) (fun h => absurd h (by decide)) (fun _ => ?_)
  refine lv_aload_n hx hb dX12_deal_10 rfl (lv_at hl 1 rfl) ?_
  refine va_get (D := D) (ci := 12) (v := .ref (q 11)) (C := RX12) (T := TX12) (N := 95) hx hb hts inX12 hown hK hP 0 rfl rfl 51 (by decide) (hts _ kw_1565) (fun _ h9 => h9) rfl dX12_deal_11 ?_
  refine lv_iload_n hx hb dX12_deal_14 rfl (lv_at hl 0 rfl) ?_
  refine lv_iload_n hx hb dX12_deal_15 rfl (lv_at hl 0 rfl) ?_
  refine va_iast hx hb hK hP hD hS 4 3 rfl rfl (z_in (by decide)) dX12_deal_16 (fun H locs hP hD hS => ?_)
  obtain ⟨f16_16, hf16_16⟩ : ∃ z, z = upd f16_15 ((15 : Int32).toNatClampNeg) 15 := ⟨_, rfl⟩
  rw [← hf16_16] at hP hD
  have hP : va_P D vwCl [((q 0), .inr (12, mObj q)), ((q 6), .inl ((k 6), 2, .inl (upd (fun _ => 0) 0 4))), ((q 7), .inl ((k 7), 2, .inl (upd (fun _ => 0) 0 4))), ((q 10), .inl ((k 10), 4, .inl (g 10))), ((q 11), .inl ((k 11), 16, .inl f16_16))] H := hP
  have hD : va_D A [((q 0), .inr (12, mObj q)), ((q 6), .inl ((k 6), 2, .inl (upd (fun _ => 0) 0 4))), ((q 7), .inl ((k 7), 2, .inl (upd (fun _ => 0) 0 4))), ((q 10), .inl ((k 10), 4, .inl (g 10))), ((q 11), .inl ((k 11), 16, .inl f16_16))] := hD
  refine lv_iinc (v := 16) (lv' := [(2, .int 16), (0, .ref (q 0)), (1, .int p1)]) hx hb dX12_deal_17 hl (k := 0) rfl (by decide) (by decide) rfl (fun ls hl => ?_)
  refine lv_goto (tgt := 2) hx hb dX12_deal_20 (by decide) ?_
  refine lv_iload_n hx hb dX12_deal_2 rfl (lv_at hl 0 rfl) ?_
  refine W.eq (g2 := F0 m 3 ls [.int 16]) rfl ?_
  refine lv_aload_n hx hb dX12_deal_3 rfl (lv_at hl 1 rfl) ?_
  refine rd_V (As := []) (rest := [.int 16]) (d := 0) caV_SignalTableModel_351 hx hb hml hown hts (hP.sub [0, 1, 2] rfl) (hK.sub [0, 1] rfl) (wX12_cards q k g gl) (ci := 12) (q0 := 0) rfl rfl (by decide) rfl hl.1 (Nat.le_of_ble_eq_true rfl) (by decide) dX12_deal_4 rfl ?_
  refine lv_icmp_ge (tgt := 23) hx hb dX12_deal_7 (by decide) (fun _ => ?_) (fun h => absurd (by decide) h)
  refine lv_aload_n hx hb dX12_deal_23 rfl (lv_at hl 1 rfl) ?_
  refine rd_V (As := []) (rest := []) (d := 0) caV_SignalTableModel_351 hx hb hml hown hts (hP.sub [0, 1, 2] rfl) (hK.sub [0, 1] rfl) (wX12_cards q k g gl) (ci := 12) (q0 := 0) rfl rfl (by decide) rfl hl.1 (Nat.le_of_ble_eq_true rfl) (by decide) dX12_deal_24 rfl ?_
  refine lv_iconst (v := 1) hx hb dX12_deal_27 (by decide) ?_
  refine lv_isub hx hb dX12_deal_28 ?_
  refine z_i (v := 15) (by decide) ?_
  refine lv_istore_n (lv' := [(2, .int 15), (0, .ref (q 0)), (1, .int p1)]) hx hb dX12_deal_29 rfl hl (by decide) rfl (fun ls hl => ?_)
  refine lv_iload_n hx hb dX12_deal_30 rfl (lv_at hl 0 rfl) ?_
  refine lv_if_le (tgt := 77) hx hb dX12_deal_31 (by decide) (fun h => absurd h (by decide)) (fun _ => ?_)
  refine W.eq (g2 := F0 m 34 ls []) rfl ?_
  refine lv_iload_n hx hb dX12_deal_34 rfl (lv_at hl 2 rfl) ?_
  refine lv_iload_n hx hb dX12_deal_35 rfl (lv_at hl 0 rfl) ?_
  refine lv_iload_n hx hb dX12_deal_36 rfl (lv_at hl 0 rfl) ?_
  refine lv_iconst (v := 1) hx hb dX12_deal_37 (by decide) ?_
  refine lv_iadd hx hb dX12_deal_38 ?_
  refine z_i (v := 16) (by decide) ?_
  refine re_S (As := [.int p1, .int 15, .int 16]) (rest := []) caS_SignalTableModel_362 hx hb hml hown hts (eM_lot p1 15 16 (by decide) (by decide)) bl_T (fun _ _ _ => trivial) (by decide) rfl hl.1 (Nat.le_of_ble_eq_true rfl) (by decide) dX12_deal_39 rfl ?_
  refine lv_istore_n (lv' := [(3, .int (nI (lotv 16 p1 15))), (2, .int 15), (0, .ref (q 0)), (1, .int p1)]) hx hb dX12_deal_42 rfl hl (by decide) rfl (fun ls hl => ?_)
  refine lv_aload_n hx hb dX12_deal_43 rfl (lv_at hl 2 rfl) ?_
  refine va_get (D := D) (ci := 12) (v := .ref (q 11)) (C := RX12) (T := TX12) (N := 95) hx hb hts inX12 hown hK hP 0 rfl rfl 51 (by decide) (hts _ kw_1565) (fun _ h9 => h9) rfl dX12_deal_44 ?_
  refine lv_iload_n hx hb dX12_deal_47 rfl (lv_at hl 1 rfl) ?_
  refine W.eq (g2 := F0 m 48 ls [.int 15, .ref (q 11)]) rfl ?_
  refine va_iald hx hb hK hP 4 3 rfl rfl (z_in (by decide)) dX12_deal_48 ?_
  refine lv_istore (lv' := [(4, .int (f16_16 (15 : Int32).toNatClampNeg)), (3, .int (nI (lotv 16 p1 15))), (2, .int 15), (0, .ref (q 0)), (1, .int p1)]) hx hb dX12_deal_49 hl (by decide) rfl (fun ls hl => ?_)
  refine lv_aload_n hx hb dX12_deal_51 rfl (lv_at hl 3 rfl) ?_
  refine va_get (D := D) (ci := 12) (v := .ref (q 11)) (C := RX12) (T := TX12) (N := 95) hx hb hts inX12 hown hK hP 0 rfl rfl 51 (by decide) (hts _ kw_1565) (fun _ h9 => h9) rfl dX12_deal_52 ?_
  refine lv_iload_n hx hb dX12_deal_55 rfl (lv_at hl 2 rfl) ?_
  refine lv_aload_n hx hb dX12_deal_56 rfl (lv_at hl 3 rfl) ?_
  refine va_get (D := D) (ci := 12) (v := .ref (q 11)) (C := RX12) (T := TX12) (N := 95) hx hb hts inX12 hown hK hP 0 rfl rfl 51 (by decide) (hts _ kw_1565) (fun _ h9 => h9) rfl dX12_deal_57 ?_
  refine lv_iload_n hx hb dX12_deal_60 rfl (lv_at hl 1 rfl) ?_
  refine va_iald hx hb hK hP 4 3 rfl rfl (vp_in_nI (Nat.lt_of_lt_of_le (lotv_lt (by decide) _ _) (by decide)) (by decide)) dX12_deal_61 ?_
  refine va_iast hx hb hK hP hD hS 4 3 rfl rfl (z_in (by decide)) dX12_deal_62 (fun H locs hP hD hS => ?_)
  obtain ⟨f62_17, hf62_17⟩ : ∃ z, z = upd f16_16 ((15 : Int32).toNatClampNeg) (f16_16 ((nI (lotv 16 p1 15)) : Int32).toNatClampNeg) := ⟨_, rfl⟩
  rw [← hf62_17] at hP hD
  have hP : va_P D vwCl [((q 0), .inr (12, mObj q)), ((q 6), .inl ((k 6), 2, .inl (upd (fun _ => 0) 0 4))), ((q 7), .inl ((k 7), 2, .inl (upd (fun _ => 0) 0 4))), ((q 10), .inl ((k 10), 4, .inl (g 10))), ((q 11), .inl ((k 11), 16, .inl f62_17))] H := hP
  have hD : va_D A [((q 0), .inr (12, mObj q)), ((q 6), .inl ((k 6), 2, .inl (upd (fun _ => 0) 0 4))), ((q 7), .inl ((k 7), 2, .inl (upd (fun _ => 0) 0 4))), ((q 10), .inl ((k 10), 4, .inl (g 10))), ((q 11), .inl ((k 11), 16, .inl f62_17))] := hD
  refine W.eq (g2 := F0 m 63 ls []) rfl ?_
  refine lv_aload_n hx hb dX12_deal_63 rfl (lv_at hl 3 rfl) ?_
  refine va_get (D := D) (ci := 12) (v := .ref (q 11)) (C := RX12) (T := TX12) (N := 95) hx hb hts inX12 hown hK hP 0 rfl rfl 51 (by decide) (hts _ kw_1565) (fun _ h9 => h9) rfl dX12_deal_64 ?_
  refine lv_iload_n hx hb dX12_deal_67 rfl (lv_at hl 1 rfl) ?_
  refine lv_iload hx hb dX12_deal_68 (lv_at hl 0 rfl) ?_
  refine va_iast hx hb hK hP hD hS 4 3 rfl rfl (vp_in_nI (Nat.lt_of_lt_of_le (lotv_lt (by decide) _ _) (by decide)) (by decide)) dX12_deal_70 (fun H locs hP hD hS => ?_)
  obtain ⟨f70_18, hf70_18⟩ : ∃ z, z = upd f62_17 (((nI (lotv 16 p1 15)) : Int32).toNatClampNeg) (f16_16 (15 : Int32).toNatClampNeg) := ⟨_, rfl⟩
  rw [← hf70_18] at hP hD
  have hP : va_P D vwCl [((q 0), .inr (12, mObj q)), ((q 6), .inl ((k 6), 2, .inl (upd (fun _ => 0) 0 4))), ((q 7), .inl ((k 7), 2, .inl (upd (fun _ => 0) 0 4))), ((q 10), .inl ((k 10), 4, .inl (g 10))), ((q 11), .inl ((k 11), 16, .inl f70_18))] H := hP
  have hD : va_D A [((q 0), .inr (12, mObj q)), ((q 6), .inl ((k 6), 2, .inl (upd (fun _ => 0) 0 4))), ((q 7), .inl ((k 7), 2, .inl (upd (fun _ => 0) 0 4))), ((q 10), .inl ((k 10), 4, .inl (g 10))), ((q 11), .inl ((k 11), 16, .inl f70_18))] := hD
  refine lv_iinc (v := 14) (lv' := [(2, .int 14), (4, .int (f16_16 (15 : Int32).toNatClampNeg)), (3, .int (nI (lotv 16 p1 15))), (0, .ref (q 0)), (1, .int p1)]) hx hb dX12_deal_71 hl (k := 2) rfl (by decide) (by decide) rfl (fun ls hl => ?_)
  refine lv_goto (tgt := 30) hx hb dX12_deal_74 (by decide) ?_
  refine lv_iload_n hx hb dX12_deal_30 rfl (lv_at hl 0 rfl) ?_
  refine lv_if_le (tgt := 77) hx hb dX12_deal_31 (by decide) (fun h => absurd h (by decide)) (fun _ => ?_)
  refine lv_iload_n hx hb dX12_deal_34 rfl (lv_at hl 4 rfl) ?_
  refine W.eq (g2 := F0 m 35 ls [.int p1]) rfl ?_
  refine lv_iload_n hx hb dX12_deal_35 rfl (lv_at hl 0 rfl) ?_
  refine lv_iload_n hx hb dX12_deal_36 rfl (lv_at hl 0 rfl) ?_
  refine lv_iconst (v := 1) hx hb dX12_deal_37 (by decide) ?_
  refine lv_iadd hx hb dX12_deal_38 ?_
  refine z_i (v := 15) (by decide) ?_
  refine re_S (As := [.int p1, .int 14, .int 15]) (rest := []) caS_SignalTableModel_362 hx hb hml hown hts (eM_lot p1 14 15 (by decide) (by decide)) bl_T (fun _ _ _ => trivial) (by decide) rfl hl.1 (Nat.le_of_ble_eq_true rfl) (by decide) dX12_deal_39 rfl ?_
  refine lv_istore_n (lv' := [(3, .int (nI (lotv 15 p1 14))), (2, .int 14), (4, .int (f16_16 (15 : Int32).toNatClampNeg)), (0, .ref (q 0)), (1, .int p1)]) hx hb dX12_deal_42 rfl hl (by decide) rfl (fun ls hl => ?_)
  refine lv_aload_n hx hb dX12_deal_43 rfl (lv_at hl 3 rfl) ?_
  refine va_get (D := D) (ci := 12) (v := .ref (q 11)) (C := RX12) (T := TX12) (N := 95) hx hb hts inX12 hown hK hP 0 rfl rfl 51 (by decide) (hts _ kw_1565) (fun _ h9 => h9) rfl dX12_deal_44 ?_
  refine lv_iload_n hx hb dX12_deal_47 rfl (lv_at hl 1 rfl) ?_
  refine va_iald hx hb hK hP 4 3 rfl rfl (z_in (by decide)) dX12_deal_48 ?_
  refine W.eq (g2 := F0 m 49 ls [.int (f70_18 (14 : Int32).toNatClampNeg)]) rfl ?_
  refine lv_istore (lv' := [(4, .int (f70_18 (14 : Int32).toNatClampNeg)), (3, .int (nI (lotv 15 p1 14))), (2, .int 14), (0, .ref (q 0)), (1, .int p1)]) hx hb dX12_deal_49 hl (by decide) rfl (fun ls hl => ?_)
  refine lv_aload_n hx hb dX12_deal_51 rfl (lv_at hl 3 rfl) ?_
  refine va_get (D := D) (ci := 12) (v := .ref (q 11)) (C := RX12) (T := TX12) (N := 95) hx hb hts inX12 hown hK hP 0 rfl rfl 51 (by decide) (hts _ kw_1565) (fun _ h9 => h9) rfl dX12_deal_52 ?_
  refine lv_iload_n hx hb dX12_deal_55 rfl (lv_at hl 2 rfl) ?_
  refine lv_aload_n hx hb dX12_deal_56 rfl (lv_at hl 3 rfl) ?_
  refine va_get (D := D) (ci := 12) (v := .ref (q 11)) (C := RX12) (T := TX12) (N := 95) hx hb hts inX12 hown hK hP 0 rfl rfl 51 (by decide) (hts _ kw_1565) (fun _ h9 => h9) rfl dX12_deal_57 ?_
  refine lv_iload_n hx hb dX12_deal_60 rfl (lv_at hl 1 rfl) ?_
  refine va_iald hx hb hK hP 4 3 rfl rfl (vp_in_nI (Nat.lt_of_lt_of_le (lotv_lt (by decide) _ _) (by decide)) (by decide)) dX12_deal_61 ?_
  refine va_iast hx hb hK hP hD hS 4 3 rfl rfl (z_in (by decide)) dX12_deal_62 (fun H locs hP hD hS => ?_)
  obtain ⟨f62_19, hf62_19⟩ : ∃ z, z = upd f70_18 ((14 : Int32).toNatClampNeg) (f70_18 ((nI (lotv 15 p1 14)) : Int32).toNatClampNeg) := ⟨_, rfl⟩
  rw [← hf62_19] at hP hD
  have hP : va_P D vwCl [((q 0), .inr (12, mObj q)), ((q 6), .inl ((k 6), 2, .inl (upd (fun _ => 0) 0 4))), ((q 7), .inl ((k 7), 2, .inl (upd (fun _ => 0) 0 4))), ((q 10), .inl ((k 10), 4, .inl (g 10))), ((q 11), .inl ((k 11), 16, .inl f62_19))] H := hP
  have hD : va_D A [((q 0), .inr (12, mObj q)), ((q 6), .inl ((k 6), 2, .inl (upd (fun _ => 0) 0 4))), ((q 7), .inl ((k 7), 2, .inl (upd (fun _ => 0) 0 4))), ((q 10), .inl ((k 10), 4, .inl (g 10))), ((q 11), .inl ((k 11), 16, .inl f62_19))] := hD
  refine lv_aload_n hx hb dX12_deal_63 rfl (lv_at hl 3 rfl) ?_
  refine W.eq (g2 := F0 m 64 ls [.ref (q 0)]) rfl ?_
  refine va_get (D := D) (ci := 12) (v := .ref (q 11)) (C := RX12) (T := TX12) (N := 95) hx hb hts inX12 hown hK hP 0 rfl rfl 51 (by decide) (hts _ kw_1565) (fun _ h9 => h9) rfl dX12_deal_64 ?_
  refine lv_iload_n hx hb dX12_deal_67 rfl (lv_at hl 1 rfl) ?_
  refine lv_iload hx hb dX12_deal_68 (lv_at hl 0 rfl) ?_
  refine va_iast hx hb hK hP hD hS 4 3 rfl rfl (vp_in_nI (Nat.lt_of_lt_of_le (lotv_lt (by decide) _ _) (by decide)) (by decide)) dX12_deal_70 (fun H locs hP hD hS => ?_)
  obtain ⟨f70_20, hf70_20⟩ : ∃ z, z = upd f62_19 (((nI (lotv 15 p1 14)) : Int32).toNatClampNeg) (f70_18 (14 : Int32).toNatClampNeg) := ⟨_, rfl⟩
  rw [← hf70_20] at hP hD
  have hP : va_P D vwCl [((q 0), .inr (12, mObj q)), ((q 6), .inl ((k 6), 2, .inl (upd (fun _ => 0) 0 4))), ((q 7), .inl ((k 7), 2, .inl (upd (fun _ => 0) 0 4))), ((q 10), .inl ((k 10), 4, .inl (g 10))), ((q 11), .inl ((k 11), 16, .inl f70_20))] H := hP
  have hD : va_D A [((q 0), .inr (12, mObj q)), ((q 6), .inl ((k 6), 2, .inl (upd (fun _ => 0) 0 4))), ((q 7), .inl ((k 7), 2, .inl (upd (fun _ => 0) 0 4))), ((q 10), .inl ((k 10), 4, .inl (g 10))), ((q 11), .inl ((k 11), 16, .inl f70_20))] := hD
  refine lv_iinc (v := 13) (lv' := [(2, .int 13), (4, .int (f70_18 (14 : Int32).toNatClampNeg)), (3, .int (nI (lotv 15 p1 14))), (0, .ref (q 0)), (1, .int p1)]) hx hb dX12_deal_71 hl (k := 2) rfl (by decide) (by decide) rfl (fun ls hl => ?_)
  refine lv_goto (tgt := 30) hx hb dX12_deal_74 (by decide) ?_
  refine lv_iload_n hx hb dX12_deal_30 rfl (lv_at hl 0 rfl) ?_
  refine lv_if_le (tgt := 77) hx hb dX12_deal_31 (by decide) (fun h => absurd h (by decide)) (fun _ => ?_)
  refine lv_iload_n hx hb dX12_deal_34 rfl (lv_at hl 4 rfl) ?_
  refine lv_iload_n hx hb dX12_deal_35 rfl (lv_at hl 0 rfl) ?_
  refine W.eq (g2 := F0 m 36 ls [.int 13, .int p1]) rfl ?_
  refine lv_iload_n hx hb dX12_deal_36 rfl (lv_at hl 0 rfl) ?_
  refine lv_iconst (v := 1) hx hb dX12_deal_37 (by decide) ?_
  refine lv_iadd hx hb dX12_deal_38 ?_
  refine z_i (v := 14) (by decide) ?_
  refine re_S (As := [.int p1, .int 13, .int 14]) (rest := []) caS_SignalTableModel_362 hx hb hml hown hts (eM_lot p1 13 14 (by decide) (by decide)) bl_T (fun _ _ _ => trivial) (by decide) rfl hl.1 (Nat.le_of_ble_eq_true rfl) (by decide) dX12_deal_39 rfl ?_
  refine lv_istore_n (lv' := [(3, .int (nI (lotv 14 p1 13))), (2, .int 13), (4, .int (f70_18 (14 : Int32).toNatClampNeg)), (0, .ref (q 0)), (1, .int p1)]) hx hb dX12_deal_42 rfl hl (by decide) rfl (fun ls hl => ?_)
  refine lv_aload_n hx hb dX12_deal_43 rfl (lv_at hl 3 rfl) ?_
  refine va_get (D := D) (ci := 12) (v := .ref (q 11)) (C := RX12) (T := TX12) (N := 95) hx hb hts inX12 hown hK hP 0 rfl rfl 51 (by decide) (hts _ kw_1565) (fun _ h9 => h9) rfl dX12_deal_44 ?_
  refine lv_iload_n hx hb dX12_deal_47 rfl (lv_at hl 1 rfl) ?_
  refine va_iald hx hb hK hP 4 3 rfl rfl (z_in (by decide)) dX12_deal_48 ?_
  refine lv_istore (lv' := [(4, .int (f70_20 (13 : Int32).toNatClampNeg)), (3, .int (nI (lotv 14 p1 13))), (2, .int 13), (0, .ref (q 0)), (1, .int p1)]) hx hb dX12_deal_49 hl (by decide) rfl (fun ls hl => ?_)
  refine W.eq (g2 := F0 m 51 ls []) rfl ?_
  refine lv_aload_n hx hb dX12_deal_51 rfl (lv_at hl 3 rfl) ?_
  refine va_get (D := D) (ci := 12) (v := .ref (q 11)) (C := RX12) (T := TX12) (N := 95) hx hb hts inX12 hown hK hP 0 rfl rfl 51 (by decide) (hts _ kw_1565) (fun _ h9 => h9) rfl dX12_deal_52 ?_
  refine lv_iload_n hx hb dX12_deal_55 rfl (lv_at hl 2 rfl) ?_
  refine lv_aload_n hx hb dX12_deal_56 rfl (lv_at hl 3 rfl) ?_
  refine va_get (D := D) (ci := 12) (v := .ref (q 11)) (C := RX12) (T := TX12) (N := 95) hx hb hts inX12 hown hK hP 0 rfl rfl 51 (by decide) (hts _ kw_1565) (fun _ h9 => h9) rfl dX12_deal_57 ?_
  refine lv_iload_n hx hb dX12_deal_60 rfl (lv_at hl 1 rfl) ?_
  refine va_iald hx hb hK hP 4 3 rfl rfl (vp_in_nI (Nat.lt_of_lt_of_le (lotv_lt (by decide) _ _) (by decide)) (by decide)) dX12_deal_61 ?_
  refine va_iast hx hb hK hP hD hS 4 3 rfl rfl (z_in (by decide)) dX12_deal_62 (fun H locs hP hD hS => ?_)
  obtain ⟨f62_21, hf62_21⟩ : ∃ z, z = upd f70_20 ((13 : Int32).toNatClampNeg) (f70_20 ((nI (lotv 14 p1 13)) : Int32).toNatClampNeg) := ⟨_, rfl⟩
  rw [← hf62_21] at hP hD
  have hP : va_P D vwCl [((q 0), .inr (12, mObj q)), ((q 6), .inl ((k 6), 2, .inl (upd (fun _ => 0) 0 4))), ((q 7), .inl ((k 7), 2, .inl (upd (fun _ => 0) 0 4))), ((q 10), .inl ((k 10), 4, .inl (g 10))), ((q 11), .inl ((k 11), 16, .inl f62_21))] H := hP
  have hD : va_D A [((q 0), .inr (12, mObj q)), ((q 6), .inl ((k 6), 2, .inl (upd (fun _ => 0) 0 4))), ((q 7), .inl ((k 7), 2, .inl (upd (fun _ => 0) 0 4))), ((q 10), .inl ((k 10), 4, .inl (g 10))), ((q 11), .inl ((k 11), 16, .inl f62_21))] := hD
  refine lv_aload_n hx hb dX12_deal_63 rfl (lv_at hl 3 rfl) ?_
  refine va_get (D := D) (ci := 12) (v := .ref (q 11)) (C := RX12) (T := TX12) (N := 95) hx hb hts inX12 hown hK hP 0 rfl rfl 51 (by decide) (hts _ kw_1565) (fun _ h9 => h9) rfl dX12_deal_64 ?_
  refine W.eq (g2 := F0 m 67 ls [.ref (q 11)]) rfl ?_
  refine lv_iload_n hx hb dX12_deal_67 rfl (lv_at hl 1 rfl) ?_
  refine lv_iload hx hb dX12_deal_68 (lv_at hl 0 rfl) ?_
  refine va_iast hx hb hK hP hD hS 4 3 rfl rfl (vp_in_nI (Nat.lt_of_lt_of_le (lotv_lt (by decide) _ _) (by decide)) (by decide)) dX12_deal_70 (fun H locs hP hD hS => ?_)
  obtain ⟨f70_22, hf70_22⟩ : ∃ z, z = upd f62_21 (((nI (lotv 14 p1 13)) : Int32).toNatClampNeg) (f70_20 (13 : Int32).toNatClampNeg) := ⟨_, rfl⟩
  rw [← hf70_22] at hP hD
  have hP : va_P D vwCl [((q 0), .inr (12, mObj q)), ((q 6), .inl ((k 6), 2, .inl (upd (fun _ => 0) 0 4))), ((q 7), .inl ((k 7), 2, .inl (upd (fun _ => 0) 0 4))), ((q 10), .inl ((k 10), 4, .inl (g 10))), ((q 11), .inl ((k 11), 16, .inl f70_22))] H := hP
  have hD : va_D A [((q 0), .inr (12, mObj q)), ((q 6), .inl ((k 6), 2, .inl (upd (fun _ => 0) 0 4))), ((q 7), .inl ((k 7), 2, .inl (upd (fun _ => 0) 0 4))), ((q 10), .inl ((k 10), 4, .inl (g 10))), ((q 11), .inl ((k 11), 16, .inl f70_22))] := hD
  refine lv_iinc (v := 12) (lv' := [(2, .int 12), (4, .int (f70_20 (13 : Int32).toNatClampNeg)), (3, .int (nI (lotv 14 p1 13))), (0, .ref (q 0)), (1, .int p1)]) hx hb dX12_deal_71 hl (k := 2) rfl (by decide) (by decide) rfl (fun ls hl => ?_)
  refine lv_goto (tgt := 30) hx hb dX12_deal_74 (by decide) ?_
  refine lv_iload_n hx hb dX12_deal_30 rfl (lv_at hl 0 rfl) ?_
  refine lv_if_le (tgt := 77) hx hb dX12_deal_31 (by decide) (fun h => absurd h (by decide)) (fun _ => ?_)
  refine lv_iload_n hx hb dX12_deal_34 rfl (lv_at hl 4 rfl) ?_
  refine lv_iload_n hx hb dX12_deal_35 rfl (lv_at hl 0 rfl) ?_
  refine lv_iload_n hx hb dX12_deal_36 rfl (lv_at hl 0 rfl) ?_
  refine W.eq (g2 := F0 m 37 ls [.int 12, .int 12, .int p1]) rfl ?_
  refine lv_iconst (v := 1) hx hb dX12_deal_37 (by decide) ?_
  refine lv_iadd hx hb dX12_deal_38 ?_
  refine z_i (v := 13) (by decide) ?_
  refine re_S (As := [.int p1, .int 12, .int 13]) (rest := []) caS_SignalTableModel_362 hx hb hml hown hts (eM_lot p1 12 13 (by decide) (by decide)) bl_T (fun _ _ _ => trivial) (by decide) rfl hl.1 (Nat.le_of_ble_eq_true rfl) (by decide) dX12_deal_39 rfl ?_
  refine lv_istore_n (lv' := [(3, .int (nI (lotv 13 p1 12))), (2, .int 12), (4, .int (f70_20 (13 : Int32).toNatClampNeg)), (0, .ref (q 0)), (1, .int p1)]) hx hb dX12_deal_42 rfl hl (by decide) rfl (fun ls hl => ?_)
  refine lv_aload_n hx hb dX12_deal_43 rfl (lv_at hl 3 rfl) ?_
  refine va_get (D := D) (ci := 12) (v := .ref (q 11)) (C := RX12) (T := TX12) (N := 95) hx hb hts inX12 hown hK hP 0 rfl rfl 51 (by decide) (hts _ kw_1565) (fun _ h9 => h9) rfl dX12_deal_44 ?_
  refine lv_iload_n hx hb dX12_deal_47 rfl (lv_at hl 1 rfl) ?_
  refine va_iald hx hb hK hP 4 3 rfl rfl (z_in (by decide)) dX12_deal_48 ?_
  refine lv_istore (lv' := [(4, .int (f70_22 (12 : Int32).toNatClampNeg)), (3, .int (nI (lotv 13 p1 12))), (2, .int 12), (0, .ref (q 0)), (1, .int p1)]) hx hb dX12_deal_49 hl (by decide) rfl (fun ls hl => ?_)
  refine lv_aload_n hx hb dX12_deal_51 rfl (lv_at hl 3 rfl) ?_
  refine W.eq (g2 := F0 m 52 ls [.ref (q 0)]) rfl ?_
  refine va_get (D := D) (ci := 12) (v := .ref (q 11)) (C := RX12) (T := TX12) (N := 95) hx hb hts inX12 hown hK hP 0 rfl rfl 51 (by decide) (hts _ kw_1565) (fun _ h9 => h9) rfl dX12_deal_52 ?_
  refine lv_iload_n hx hb dX12_deal_55 rfl (lv_at hl 2 rfl) ?_
  refine lv_aload_n hx hb dX12_deal_56 rfl (lv_at hl 3 rfl) ?_
  refine va_get (D := D) (ci := 12) (v := .ref (q 11)) (C := RX12) (T := TX12) (N := 95) hx hb hts inX12 hown hK hP 0 rfl rfl 51 (by decide) (hts _ kw_1565) (fun _ h9 => h9) rfl dX12_deal_57 ?_
  refine lv_iload_n hx hb dX12_deal_60 rfl (lv_at hl 1 rfl) ?_
  refine va_iald hx hb hK hP 4 3 rfl rfl (vp_in_nI (Nat.lt_of_lt_of_le (lotv_lt (by decide) _ _) (by decide)) (by decide)) dX12_deal_61 ?_
  refine va_iast hx hb hK hP hD hS 4 3 rfl rfl (z_in (by decide)) dX12_deal_62 (fun H locs hP hD hS => ?_)
  obtain ⟨f62_23, hf62_23⟩ : ∃ z, z = upd f70_22 ((12 : Int32).toNatClampNeg) (f70_22 ((nI (lotv 13 p1 12)) : Int32).toNatClampNeg) := ⟨_, rfl⟩
  rw [← hf62_23] at hP hD
  have hP : va_P D vwCl [((q 0), .inr (12, mObj q)), ((q 6), .inl ((k 6), 2, .inl (upd (fun _ => 0) 0 4))), ((q 7), .inl ((k 7), 2, .inl (upd (fun _ => 0) 0 4))), ((q 10), .inl ((k 10), 4, .inl (g 10))), ((q 11), .inl ((k 11), 16, .inl f62_23))] H := hP
  have hD : va_D A [((q 0), .inr (12, mObj q)), ((q 6), .inl ((k 6), 2, .inl (upd (fun _ => 0) 0 4))), ((q 7), .inl ((k 7), 2, .inl (upd (fun _ => 0) 0 4))), ((q 10), .inl ((k 10), 4, .inl (g 10))), ((q 11), .inl ((k 11), 16, .inl f62_23))] := hD
  refine lv_aload_n hx hb dX12_deal_63 rfl (lv_at hl 3 rfl) ?_
  refine va_get (D := D) (ci := 12) (v := .ref (q 11)) (C := RX12) (T := TX12) (N := 95) hx hb hts inX12 hown hK hP 0 rfl rfl 51 (by decide) (hts _ kw_1565) (fun _ h9 => h9) rfl dX12_deal_64 ?_
  refine lv_iload_n hx hb dX12_deal_67 rfl (lv_at hl 1 rfl) ?_
  refine W.eq (g2 := F0 m 68 ls [.int (nI (lotv 13 p1 12)), .ref (q 11)]) rfl ?_
  refine lv_iload hx hb dX12_deal_68 (lv_at hl 0 rfl) ?_
  refine va_iast hx hb hK hP hD hS 4 3 rfl rfl (vp_in_nI (Nat.lt_of_lt_of_le (lotv_lt (by decide) _ _) (by decide)) (by decide)) dX12_deal_70 (fun H locs hP hD hS => ?_)
  obtain ⟨f70_24, hf70_24⟩ : ∃ z, z = upd f62_23 (((nI (lotv 13 p1 12)) : Int32).toNatClampNeg) (f70_22 (12 : Int32).toNatClampNeg) := ⟨_, rfl⟩
  rw [← hf70_24] at hP hD
  have hP : va_P D vwCl [((q 0), .inr (12, mObj q)), ((q 6), .inl ((k 6), 2, .inl (upd (fun _ => 0) 0 4))), ((q 7), .inl ((k 7), 2, .inl (upd (fun _ => 0) 0 4))), ((q 10), .inl ((k 10), 4, .inl (g 10))), ((q 11), .inl ((k 11), 16, .inl f70_24))] H := hP
  have hD : va_D A [((q 0), .inr (12, mObj q)), ((q 6), .inl ((k 6), 2, .inl (upd (fun _ => 0) 0 4))), ((q 7), .inl ((k 7), 2, .inl (upd (fun _ => 0) 0 4))), ((q 10), .inl ((k 10), 4, .inl (g 10))), ((q 11), .inl ((k 11), 16, .inl f70_24))] := hD
  refine lv_iinc (v := 11) (lv' := [(2, .int 11), (4, .int (f70_22 (12 : Int32).toNatClampNeg)), (3, .int (nI (lotv 13 p1 12))), (0, .ref (q 0)), (1, .int p1)]) hx hb dX12_deal_71 hl (k := 2) rfl (by decide) (by decide) rfl (fun ls hl => ?_)
  refine lv_goto (tgt := 30) hx hb dX12_deal_74 (by decide) ?_
  refine lv_iload_n hx hb dX12_deal_30 rfl (lv_at hl 0 rfl) ?_
  refine lv_if_le (tgt := 77) hx hb dX12_deal_31 (by decide) (fun h => absurd h (by decide)) (fun _ => ?_)
  refine lv_iload_n hx hb dX12_deal_34 rfl (lv_at hl 4 rfl) ?_
  refine lv_iload_n hx hb dX12_deal_35 rfl (lv_at hl 0 rfl) ?_
  refine lv_iload_n hx hb dX12_deal_36 rfl (lv_at hl 0 rfl) ?_
  refine lv_iconst (v := 1) hx hb dX12_deal_37 (by decide) ?_
  refine W.eq (g2 := F0 m 38 ls [.int 1, .int 11, .int 11, .int p1]) rfl ?_
  refine lv_iadd hx hb dX12_deal_38 ?_
  refine z_i (v := 12) (by decide) ?_
  refine re_S (As := [.int p1, .int 11, .int 12]) (rest := []) caS_SignalTableModel_362 hx hb hml hown hts (eM_lot p1 11 12 (by decide) (by decide)) bl_T (fun _ _ _ => trivial) (by decide) rfl hl.1 (Nat.le_of_ble_eq_true rfl) (by decide) dX12_deal_39 rfl ?_
  refine lv_istore_n (lv' := [(3, .int (nI (lotv 12 p1 11))), (2, .int 11), (4, .int (f70_22 (12 : Int32).toNatClampNeg)), (0, .ref (q 0)), (1, .int p1)]) hx hb dX12_deal_42 rfl hl (by decide) rfl (fun ls hl => ?_)
  refine lv_aload_n hx hb dX12_deal_43 rfl (lv_at hl 3 rfl) ?_
  refine va_get (D := D) (ci := 12) (v := .ref (q 11)) (C := RX12) (T := TX12) (N := 95) hx hb hts inX12 hown hK hP 0 rfl rfl 51 (by decide) (hts _ kw_1565) (fun _ h9 => h9) rfl dX12_deal_44 ?_
  refine lv_iload_n hx hb dX12_deal_47 rfl (lv_at hl 1 rfl) ?_
  refine va_iald hx hb hK hP 4 3 rfl rfl (z_in (by decide)) dX12_deal_48 ?_
  refine lv_istore (lv' := [(4, .int (f70_24 (11 : Int32).toNatClampNeg)), (3, .int (nI (lotv 12 p1 11))), (2, .int 11), (0, .ref (q 0)), (1, .int p1)]) hx hb dX12_deal_49 hl (by decide) rfl (fun ls hl => ?_)
  refine lv_aload_n hx hb dX12_deal_51 rfl (lv_at hl 3 rfl) ?_
  refine va_get (D := D) (ci := 12) (v := .ref (q 11)) (C := RX12) (T := TX12) (N := 95) hx hb hts inX12 hown hK hP 0 rfl rfl 51 (by decide) (hts _ kw_1565) (fun _ h9 => h9) rfl dX12_deal_52 ?_
  refine W.eq (g2 := F0 m 55 ls [.ref (q 11)]) rfl ?_
  refine lv_iload_n hx hb dX12_deal_55 rfl (lv_at hl 2 rfl) ?_
  refine lv_aload_n hx hb dX12_deal_56 rfl (lv_at hl 3 rfl) ?_
  refine va_get (D := D) (ci := 12) (v := .ref (q 11)) (C := RX12) (T := TX12) (N := 95) hx hb hts inX12 hown hK hP 0 rfl rfl 51 (by decide) (hts _ kw_1565) (fun _ h9 => h9) rfl dX12_deal_57 ?_
  refine lv_iload_n hx hb dX12_deal_60 rfl (lv_at hl 1 rfl) ?_
  refine va_iald hx hb hK hP 4 3 rfl rfl (vp_in_nI (Nat.lt_of_lt_of_le (lotv_lt (by decide) _ _) (by decide)) (by decide)) dX12_deal_61 ?_
  refine va_iast hx hb hK hP hD hS 4 3 rfl rfl (z_in (by decide)) dX12_deal_62 (fun H locs hP hD hS => ?_)
  obtain ⟨f62_25, hf62_25⟩ : ∃ z, z = upd f70_24 ((11 : Int32).toNatClampNeg) (f70_24 ((nI (lotv 12 p1 11)) : Int32).toNatClampNeg) := ⟨_, rfl⟩
  rw [← hf62_25] at hP hD
  have hP : va_P D vwCl [((q 0), .inr (12, mObj q)), ((q 6), .inl ((k 6), 2, .inl (upd (fun _ => 0) 0 4))), ((q 7), .inl ((k 7), 2, .inl (upd (fun _ => 0) 0 4))), ((q 10), .inl ((k 10), 4, .inl (g 10))), ((q 11), .inl ((k 11), 16, .inl f62_25))] H := hP
  have hD : va_D A [((q 0), .inr (12, mObj q)), ((q 6), .inl ((k 6), 2, .inl (upd (fun _ => 0) 0 4))), ((q 7), .inl ((k 7), 2, .inl (upd (fun _ => 0) 0 4))), ((q 10), .inl ((k 10), 4, .inl (g 10))), ((q 11), .inl ((k 11), 16, .inl f62_25))] := hD
  refine lv_aload_n hx hb dX12_deal_63 rfl (lv_at hl 3 rfl) ?_
  refine va_get (D := D) (ci := 12) (v := .ref (q 11)) (C := RX12) (T := TX12) (N := 95) hx hb hts inX12 hown hK hP 0 rfl rfl 51 (by decide) (hts _ kw_1565) (fun _ h9 => h9) rfl dX12_deal_64 ?_
  refine lv_iload_n hx hb dX12_deal_67 rfl (lv_at hl 1 rfl) ?_
  refine lv_iload hx hb dX12_deal_68 (lv_at hl 0 rfl) ?_
  refine W.eq (g2 := F0 m 70 ls [.int (f70_24 (11 : Int32).toNatClampNeg), .int (nI (lotv 12 p1 11)), .ref (q 11)]) rfl ?_
  refine va_iast hx hb hK hP hD hS 4 3 rfl rfl (vp_in_nI (Nat.lt_of_lt_of_le (lotv_lt (by decide) _ _) (by decide)) (by decide)) dX12_deal_70 (fun H locs hP hD hS => ?_)
  obtain ⟨f70_26, hf70_26⟩ : ∃ z, z = upd f62_25 (((nI (lotv 12 p1 11)) : Int32).toNatClampNeg) (f70_24 (11 : Int32).toNatClampNeg) := ⟨_, rfl⟩
  rw [← hf70_26] at hP hD
  have hP : va_P D vwCl [((q 0), .inr (12, mObj q)), ((q 6), .inl ((k 6), 2, .inl (upd (fun _ => 0) 0 4))), ((q 7), .inl ((k 7), 2, .inl (upd (fun _ => 0) 0 4))), ((q 10), .inl ((k 10), 4, .inl (g 10))), ((q 11), .inl ((k 11), 16, .inl f70_26))] H := hP
  have hD : va_D A [((q 0), .inr (12, mObj q)), ((q 6), .inl ((k 6), 2, .inl (upd (fun _ => 0) 0 4))), ((q 7), .inl ((k 7), 2, .inl (upd (fun _ => 0) 0 4))), ((q 10), .inl ((k 10), 4, .inl (g 10))), ((q 11), .inl ((k 11), 16, .inl f70_26))] := hD
  refine lv_iinc (v := 10) (lv' := [(2, .int 10), (4, .int (f70_24 (11 : Int32).toNatClampNeg)), (3, .int (nI (lotv 12 p1 11))), (0, .ref (q 0)), (1, .int p1)]) hx hb dX12_deal_71 hl (k := 2) rfl (by decide) (by decide) rfl (fun ls hl => ?_)
  refine lv_goto (tgt := 30) hx hb dX12_deal_74 (by decide) ?_
  refine lv_iload_n hx hb dX12_deal_30 rfl (lv_at hl 0 rfl) ?_
  refine lv_if_le (tgt := 77) hx hb dX12_deal_31 (by decide) (fun h => absurd h (by decide)) (fun _ => ?_)
  refine lv_iload_n hx hb dX12_deal_34 rfl (lv_at hl 4 rfl) ?_
  refine lv_iload_n hx hb dX12_deal_35 rfl (lv_at hl 0 rfl) ?_
  refine lv_iload_n hx hb dX12_deal_36 rfl (lv_at hl 0 rfl) ?_
  refine lv_iconst (v := 1) hx hb dX12_deal_37 (by decide) ?_
  refine lv_iadd hx hb dX12_deal_38 ?_
  refine z_i (v := 11) (by decide) ?_
  refine W.eq (g2 := F0 m 39 ls [.int 11, .int 10, .int p1]) rfl ?_
  refine re_S (As := [.int p1, .int 10, .int 11]) (rest := []) caS_SignalTableModel_362 hx hb hml hown hts (eM_lot p1 10 11 (by decide) (by decide)) bl_T (fun _ _ _ => trivial) (by decide) rfl hl.1 (Nat.le_of_ble_eq_true rfl) (by decide) dX12_deal_39 rfl ?_
  refine lv_istore_n (lv' := [(3, .int (nI (lotv 11 p1 10))), (2, .int 10), (4, .int (f70_24 (11 : Int32).toNatClampNeg)), (0, .ref (q 0)), (1, .int p1)]) hx hb dX12_deal_42 rfl hl (by decide) rfl (fun ls hl => ?_)
  refine lv_aload_n hx hb dX12_deal_43 rfl (lv_at hl 3 rfl) ?_
  refine va_get (D := D) (ci := 12) (v := .ref (q 11)) (C := RX12) (T := TX12) (N := 95) hx hb hts inX12 hown hK hP 0 rfl rfl 51 (by decide) (hts _ kw_1565) (fun _ h9 => h9) rfl dX12_deal_44 ?_
  refine lv_iload_n hx hb dX12_deal_47 rfl (lv_at hl 1 rfl) ?_
  refine va_iald hx hb hK hP 4 3 rfl rfl (z_in (by decide)) dX12_deal_48 ?_
  refine lv_istore (lv' := [(4, .int (f70_26 (10 : Int32).toNatClampNeg)), (3, .int (nI (lotv 11 p1 10))), (2, .int 10), (0, .ref (q 0)), (1, .int p1)]) hx hb dX12_deal_49 hl (by decide) rfl (fun ls hl => ?_)
  refine lv_aload_n hx hb dX12_deal_51 rfl (lv_at hl 3 rfl) ?_
  refine va_get (D := D) (ci := 12) (v := .ref (q 11)) (C := RX12) (T := TX12) (N := 95) hx hb hts inX12 hown hK hP 0 rfl rfl 51 (by decide) (hts _ kw_1565) (fun _ h9 => h9) rfl dX12_deal_52 ?_
  refine lv_iload_n hx hb dX12_deal_55 rfl (lv_at hl 2 rfl) ?_
  refine W.eq (g2 := F0 m 56 ls [.int 10, .ref (q 11)]) rfl ?_
  refine lv_aload_n hx hb dX12_deal_56 rfl (lv_at hl 3 rfl) ?_
  refine va_get (D := D) (ci := 12) (v := .ref (q 11)) (C := RX12) (T := TX12) (N := 95) hx hb hts inX12 hown hK hP 0 rfl rfl 51 (by decide) (hts _ kw_1565) (fun _ h9 => h9) rfl dX12_deal_57 ?_
  refine lv_iload_n hx hb dX12_deal_60 rfl (lv_at hl 1 rfl) ?_
  refine va_iald hx hb hK hP 4 3 rfl rfl (vp_in_nI (Nat.lt_of_lt_of_le (lotv_lt (by decide) _ _) (by decide)) (by decide)) dX12_deal_61 ?_
  refine va_iast hx hb hK hP hD hS 4 3 rfl rfl (z_in (by decide)) dX12_deal_62 (fun H locs hP hD hS => ?_)
  obtain ⟨f62_27, hf62_27⟩ : ∃ z, z = upd f70_26 ((10 : Int32).toNatClampNeg) (f70_26 ((nI (lotv 11 p1 10)) : Int32).toNatClampNeg) := ⟨_, rfl⟩
  rw [← hf62_27] at hP hD
  have hP : va_P D vwCl [((q 0), .inr (12, mObj q)), ((q 6), .inl ((k 6), 2, .inl (upd (fun _ => 0) 0 4))), ((q 7), .inl ((k 7), 2, .inl (upd (fun _ => 0) 0 4))), ((q 10), .inl ((k 10), 4, .inl (g 10))), ((q 11), .inl ((k 11), 16, .inl f62_27))] H := hP
  have hD : va_D A [((q 0), .inr (12, mObj q)), ((q 6), .inl ((k 6), 2, .inl (upd (fun _ => 0) 0 4))), ((q 7), .inl ((k 7), 2, .inl (upd (fun _ => 0) 0 4))), ((q 10), .inl ((k 10), 4, .inl (g 10))), ((q 11), .inl ((k 11), 16, .inl f62_27))] := hD
  refine lv_aload_n hx hb dX12_deal_63 rfl (lv_at hl 3 rfl) ?_
  refine va_get (D := D) (ci := 12) (v := .ref (q 11)) (C := RX12) (T := TX12) (N := 95) hx hb hts inX12 hown hK hP 0 rfl rfl 51 (by decide) (hts _ kw_1565) (fun _ h9 => h9) rfl dX12_deal_64 ?_
  refine lv_iload_n hx hb dX12_deal_67 rfl (lv_at hl 1 rfl) ?_
  refine lv_iload hx hb dX12_deal_68 (lv_at hl 0 rfl) ?_
  refine va_iast hx hb hK hP hD hS 4 3 rfl rfl (vp_in_nI (Nat.lt_of_lt_of_le (lotv_lt (by decide) _ _) (by decide)) (by decide)) dX12_deal_70 (fun H locs hP hD hS => ?_)
  obtain ⟨f70_28, hf70_28⟩ : ∃ z, z = upd f62_27 (((nI (lotv 11 p1 10)) : Int32).toNatClampNeg) (f70_26 (10 : Int32).toNatClampNeg) := ⟨_, rfl⟩
  rw [← hf70_28] at hP hD
  have hP : va_P D vwCl [((q 0), .inr (12, mObj q)), ((q 6), .inl ((k 6), 2, .inl (upd (fun _ => 0) 0 4))), ((q 7), .inl ((k 7), 2, .inl (upd (fun _ => 0) 0 4))), ((q 10), .inl ((k 10), 4, .inl (g 10))), ((q 11), .inl ((k 11), 16, .inl f70_28))] H := hP
  have hD : va_D A [((q 0), .inr (12, mObj q)), ((q 6), .inl ((k 6), 2, .inl (upd (fun _ => 0) 0 4))), ((q 7), .inl ((k 7), 2, .inl (upd (fun _ => 0) 0 4))), ((q 10), .inl ((k 10), 4, .inl (g 10))), ((q 11), .inl ((k 11), 16, .inl f70_28))] := hD
  refine W.eq (g2 := F0 m 71 ls []) rfl ?_
  refine lv_iinc (v := 9) (lv' := [(2, .int 9), (4, .int (f70_26 (10 : Int32).toNatClampNeg)), (3, .int (nI (lotv 11 p1 10))), (0, .ref (q 0)), (1, .int p1)]) hx hb dX12_deal_71 hl (k := 2) rfl (by decide) (by decide) rfl (fun ls hl => ?_)
  refine lv_goto (tgt := 30) hx hb dX12_deal_74 (by decide) ?_
  refine lv_iload_n hx hb dX12_deal_30 rfl (lv_at hl 0 rfl) ?_
  refine lv_if_le (tgt := 77) hx hb dX12_deal_31 (by decide) (fun h => absurd h (by decide)) (fun _ => ?_)
  refine lv_iload_n hx hb dX12_deal_34 rfl (lv_at hl 4 rfl) ?_
  refine lv_iload_n hx hb dX12_deal_35 rfl (lv_at hl 0 rfl) ?_
  refine lv_iload_n hx hb dX12_deal_36 rfl (lv_at hl 0 rfl) ?_
  refine lv_iconst (v := 1) hx hb dX12_deal_37 (by decide) ?_
  refine lv_iadd hx hb dX12_deal_38 ?_
  refine z_i (v := 10) (by decide) ?_
  refine re_S (As := [.int p1, .int 9, .int 10]) (rest := []) caS_SignalTableModel_362 hx hb hml hown hts (eM_lot p1 9 10 (by decide) (by decide)) bl_T (fun _ _ _ => trivial) (by decide) rfl hl.1 (Nat.le_of_ble_eq_true rfl) (by decide) dX12_deal_39 rfl ?_
  refine W.eq (g2 := F0 m 42 ls [.int (nI (lotv 10 p1 9))]) rfl ?_
  refine lv_istore_n (lv' := [(3, .int (nI (lotv 10 p1 9))), (2, .int 9), (4, .int (f70_26 (10 : Int32).toNatClampNeg)), (0, .ref (q 0)), (1, .int p1)]) hx hb dX12_deal_42 rfl hl (by decide) rfl (fun ls hl => ?_)
  refine lv_aload_n hx hb dX12_deal_43 rfl (lv_at hl 3 rfl) ?_
  refine va_get (D := D) (ci := 12) (v := .ref (q 11)) (C := RX12) (T := TX12) (N := 95) hx hb hts inX12 hown hK hP 0 rfl rfl 51 (by decide) (hts _ kw_1565) (fun _ h9 => h9) rfl dX12_deal_44 ?_
  refine lv_iload_n hx hb dX12_deal_47 rfl (lv_at hl 1 rfl) ?_
  refine va_iald hx hb hK hP 4 3 rfl rfl (z_in (by decide)) dX12_deal_48 ?_
  refine lv_istore (lv' := [(4, .int (f70_28 (9 : Int32).toNatClampNeg)), (3, .int (nI (lotv 10 p1 9))), (2, .int 9), (0, .ref (q 0)), (1, .int p1)]) hx hb dX12_deal_49 hl (by decide) rfl (fun ls hl => ?_)
  refine lv_aload_n hx hb dX12_deal_51 rfl (lv_at hl 3 rfl) ?_
  refine va_get (D := D) (ci := 12) (v := .ref (q 11)) (C := RX12) (T := TX12) (N := 95) hx hb hts inX12 hown hK hP 0 rfl rfl 51 (by decide) (hts _ kw_1565) (fun _ h9 => h9) rfl dX12_deal_52 ?_
  refine lv_iload_n hx hb dX12_deal_55 rfl (lv_at hl 2 rfl) ?_
  refine lv_aload_n hx hb dX12_deal_56 rfl (lv_at hl 3 rfl) ?_
  refine W.eq (g2 := F0 m 57 ls [.ref (q 0), .int 9, .ref (q 11)]) rfl ?_
  refine va_get (D := D) (ci := 12) (v := .ref (q 11)) (C := RX12) (T := TX12) (N := 95) hx hb hts inX12 hown hK hP 0 rfl rfl 51 (by decide) (hts _ kw_1565) (fun _ h9 => h9) rfl dX12_deal_57 ?_
  refine lv_iload_n hx hb dX12_deal_60 rfl (lv_at hl 1 rfl) ?_
  refine va_iald hx hb hK hP 4 3 rfl rfl (vp_in_nI (Nat.lt_of_lt_of_le (lotv_lt (by decide) _ _) (by decide)) (by decide)) dX12_deal_61 ?_
  refine va_iast hx hb hK hP hD hS 4 3 rfl rfl (z_in (by decide)) dX12_deal_62 (fun H locs hP hD hS => ?_)
  obtain ⟨f62_29, hf62_29⟩ : ∃ z, z = upd f70_28 ((9 : Int32).toNatClampNeg) (f70_28 ((nI (lotv 10 p1 9)) : Int32).toNatClampNeg) := ⟨_, rfl⟩
  rw [← hf62_29] at hP hD
  have hP : va_P D vwCl [((q 0), .inr (12, mObj q)), ((q 6), .inl ((k 6), 2, .inl (upd (fun _ => 0) 0 4))), ((q 7), .inl ((k 7), 2, .inl (upd (fun _ => 0) 0 4))), ((q 10), .inl ((k 10), 4, .inl (g 10))), ((q 11), .inl ((k 11), 16, .inl f62_29))] H := hP
  have hD : va_D A [((q 0), .inr (12, mObj q)), ((q 6), .inl ((k 6), 2, .inl (upd (fun _ => 0) 0 4))), ((q 7), .inl ((k 7), 2, .inl (upd (fun _ => 0) 0 4))), ((q 10), .inl ((k 10), 4, .inl (g 10))), ((q 11), .inl ((k 11), 16, .inl f62_29))] := hD
  refine lv_aload_n hx hb dX12_deal_63 rfl (lv_at hl 3 rfl) ?_
  refine va_get (D := D) (ci := 12) (v := .ref (q 11)) (C := RX12) (T := TX12) (N := 95) hx hb hts inX12 hown hK hP 0 rfl rfl 51 (by decide) (hts _ kw_1565) (fun _ h9 => h9) rfl dX12_deal_64 ?_
  refine lv_iload_n hx hb dX12_deal_67 rfl (lv_at hl 1 rfl) ?_
  refine lv_iload hx hb dX12_deal_68 (lv_at hl 0 rfl) ?_
  refine va_iast hx hb hK hP hD hS 4 3 rfl rfl (vp_in_nI (Nat.lt_of_lt_of_le (lotv_lt (by decide) _ _) (by decide)) (by decide)) dX12_deal_70 (fun H locs hP hD hS => ?_)
  obtain ⟨f70_30, hf70_30⟩ : ∃ z, z = upd f62_29 (((nI (lotv 10 p1 9)) : Int32).toNatClampNeg) (f70_28 (9 : Int32).toNatClampNeg) := ⟨_, rfl⟩
  rw [← hf70_30] at hP hD
  have hP : va_P D vwCl [((q 0), .inr (12, mObj q)), ((q 6), .inl ((k 6), 2, .inl (upd (fun _ => 0) 0 4))), ((q 7), .inl ((k 7), 2, .inl (upd (fun _ => 0) 0 4))), ((q 10), .inl ((k 10), 4, .inl (g 10))), ((q 11), .inl ((k 11), 16, .inl f70_30))] H := hP
  have hD : va_D A [((q 0), .inr (12, mObj q)), ((q 6), .inl ((k 6), 2, .inl (upd (fun _ => 0) 0 4))), ((q 7), .inl ((k 7), 2, .inl (upd (fun _ => 0) 0 4))), ((q 10), .inl ((k 10), 4, .inl (g 10))), ((q 11), .inl ((k 11), 16, .inl f70_30))] := hD
  refine lv_iinc (v := 8) (lv' := [(2, .int 8), (4, .int (f70_28 (9 : Int32).toNatClampNeg)), (3, .int (nI (lotv 10 p1 9))), (0, .ref (q 0)), (1, .int p1)]) hx hb dX12_deal_71 hl (k := 2) rfl (by decide) (by decide) rfl (fun ls hl => ?_)
  refine W.eq (g2 := F0 m 74 ls []) rfl ?_
  refine lv_goto (tgt := 30) hx hb dX12_deal_74 (by decide) ?_
  refine lv_iload_n hx hb dX12_deal_30 rfl (lv_at hl 0 rfl) ?_
  refine lv_if_le (tgt := 77) hx hb dX12_deal_31 (by decide) (fun h => absurd h (by decide)) (fun _ => ?_)
  refine lv_iload_n hx hb dX12_deal_34 rfl (lv_at hl 4 rfl) ?_
  refine lv_iload_n hx hb dX12_deal_35 rfl (lv_at hl 0 rfl) ?_
  refine lv_iload_n hx hb dX12_deal_36 rfl (lv_at hl 0 rfl) ?_
  refine lv_iconst (v := 1) hx hb dX12_deal_37 (by decide) ?_
  refine lv_iadd hx hb dX12_deal_38 ?_
  refine z_i (v := 9) (by decide) ?_
  refine re_S (As := [.int p1, .int 8, .int 9]) (rest := []) caS_SignalTableModel_362 hx hb hml hown hts (eM_lot p1 8 9 (by decide) (by decide)) bl_T (fun _ _ _ => trivial) (by decide) rfl hl.1 (Nat.le_of_ble_eq_true rfl) (by decide) dX12_deal_39 rfl ?_
  refine lv_istore_n (lv' := [(3, .int (nI (lotv 9 p1 8))), (2, .int 8), (4, .int (f70_28 (9 : Int32).toNatClampNeg)), (0, .ref (q 0)), (1, .int p1)]) hx hb dX12_deal_42 rfl hl (by decide) rfl (fun ls hl => ?_)
  refine W.eq (g2 := F0 m 43 ls []) rfl ?_
  refine lv_aload_n hx hb dX12_deal_43 rfl (lv_at hl 3 rfl) ?_
  refine va_get (D := D) (ci := 12) (v := .ref (q 11)) (C := RX12) (T := TX12) (N := 95) hx hb hts inX12 hown hK hP 0 rfl rfl 51 (by decide) (hts _ kw_1565) (fun _ h9 => h9) rfl dX12_deal_44 ?_
  refine lv_iload_n hx hb dX12_deal_47 rfl (lv_at hl 1 rfl) ?_
  refine va_iald hx hb hK hP 4 3 rfl rfl (z_in (by decide)) dX12_deal_48 ?_
  refine lv_istore (lv' := [(4, .int (f70_30 (8 : Int32).toNatClampNeg)), (3, .int (nI (lotv 9 p1 8))), (2, .int 8), (0, .ref (q 0)), (1, .int p1)]) hx hb dX12_deal_49 hl (by decide) rfl (fun ls hl => ?_)
  refine lv_aload_n hx hb dX12_deal_51 rfl (lv_at hl 3 rfl) ?_
  refine va_get (D := D) (ci := 12) (v := .ref (q 11)) (C := RX12) (T := TX12) (N := 95) hx hb hts inX12 hown hK hP 0 rfl rfl 51 (by decide) (hts _ kw_1565) (fun _ h9 => h9) rfl dX12_deal_52 ?_
  refine lv_iload_n hx hb dX12_deal_55 rfl (lv_at hl 2 rfl) ?_
  refine lv_aload_n hx hb dX12_deal_56 rfl (lv_at hl 3 rfl) ?_
  refine va_get (D := D) (ci := 12) (v := .ref (q 11)) (C := RX12) (T := TX12) (N := 95) hx hb hts inX12 hown hK hP 0 rfl rfl 51 (by decide) (hts _ kw_1565) (fun _ h9 => h9) rfl dX12_deal_57 ?_
  refine W.eq (g2 := F0 m 60 ls [.ref (q 11), .int 8, .ref (q 11)]) rfl ?_
  refine lv_iload_n hx hb dX12_deal_60 rfl (lv_at hl 1 rfl) ?_
  refine va_iald hx hb hK hP 4 3 rfl rfl (vp_in_nI (Nat.lt_of_lt_of_le (lotv_lt (by decide) _ _) (by decide)) (by decide)) dX12_deal_61 ?_
  refine va_iast hx hb hK hP hD hS 4 3 rfl rfl (z_in (by decide)) dX12_deal_62 (fun H locs hP hD hS => ?_)
  obtain ⟨f62_31, hf62_31⟩ : ∃ z, z = upd f70_30 ((8 : Int32).toNatClampNeg) (f70_30 ((nI (lotv 9 p1 8)) : Int32).toNatClampNeg) := ⟨_, rfl⟩
  rw [← hf62_31] at hP hD
  have hP : va_P D vwCl [((q 0), .inr (12, mObj q)), ((q 6), .inl ((k 6), 2, .inl (upd (fun _ => 0) 0 4))), ((q 7), .inl ((k 7), 2, .inl (upd (fun _ => 0) 0 4))), ((q 10), .inl ((k 10), 4, .inl (g 10))), ((q 11), .inl ((k 11), 16, .inl f62_31))] H := hP
  have hD : va_D A [((q 0), .inr (12, mObj q)), ((q 6), .inl ((k 6), 2, .inl (upd (fun _ => 0) 0 4))), ((q 7), .inl ((k 7), 2, .inl (upd (fun _ => 0) 0 4))), ((q 10), .inl ((k 10), 4, .inl (g 10))), ((q 11), .inl ((k 11), 16, .inl f62_31))] := hD
  refine lv_aload_n hx hb dX12_deal_63 rfl (lv_at hl 3 rfl) ?_
  refine va_get (D := D) (ci := 12) (v := .ref (q 11)) (C := RX12) (T := TX12) (N := 95) hx hb hts inX12 hown hK hP 0 rfl rfl 51 (by decide) (hts _ kw_1565) (fun _ h9 => h9) rfl dX12_deal_64 ?_
  refine lv_iload_n hx hb dX12_deal_67 rfl (lv_at hl 1 rfl) ?_
  refine lv_iload hx hb dX12_deal_68 (lv_at hl 0 rfl) ?_
  refine va_iast hx hb hK hP hD hS 4 3 rfl rfl (vp_in_nI (Nat.lt_of_lt_of_le (lotv_lt (by decide) _ _) (by decide)) (by decide)) dX12_deal_70 (fun H locs hP hD hS => ?_)
  obtain ⟨f70_32, hf70_32⟩ : ∃ z, z = upd f62_31 (((nI (lotv 9 p1 8)) : Int32).toNatClampNeg) (f70_30 (8 : Int32).toNatClampNeg) := ⟨_, rfl⟩
  rw [← hf70_32] at hP hD
  have hP : va_P D vwCl [((q 0), .inr (12, mObj q)), ((q 6), .inl ((k 6), 2, .inl (upd (fun _ => 0) 0 4))), ((q 7), .inl ((k 7), 2, .inl (upd (fun _ => 0) 0 4))), ((q 10), .inl ((k 10), 4, .inl (g 10))), ((q 11), .inl ((k 11), 16, .inl f70_32))] H := hP
  have hD : va_D A [((q 0), .inr (12, mObj q)), ((q 6), .inl ((k 6), 2, .inl (upd (fun _ => 0) 0 4))), ((q 7), .inl ((k 7), 2, .inl (upd (fun _ => 0) 0 4))), ((q 10), .inl ((k 10), 4, .inl (g 10))), ((q 11), .inl ((k 11), 16, .inl f70_32))] := hD
  refine lv_iinc (v := 7) (lv' := [(2, .int 7), (4, .int (f70_30 (8 : Int32).toNatClampNeg)), (3, .int (nI (lotv 9 p1 8))), (0, .ref (q 0)), (1, .int p1)]) hx hb dX12_deal_71 hl (k := 2) rfl (by decide) (by decide) rfl (fun ls hl => ?_)
  refine lv_goto (tgt := 30) hx hb dX12_deal_74 (by decide) ?_
  refine W.eq (g2 := F0 m 30 ls []) rfl ?_
  refine lv_iload_n hx hb dX12_deal_30 rfl (lv_at hl 0 rfl) ?_
  refine lv_if_le (tgt := 77) hx hb dX12_deal_31 (by decide) (fun h => absurd h (by decide)) (fun _ => ?_)
  refine lv_iload_n hx hb dX12_deal_34 rfl (lv_at hl 4 rfl) ?_
  refine lv_iload_n hx hb dX12_deal_35 rfl (lv_at hl 0 rfl) ?_
  refine lv_iload_n hx hb dX12_deal_36 rfl (lv_at hl 0 rfl) ?_
  refine lv_iconst (v := 1) hx hb dX12_deal_37 (by decide) ?_
  refine lv_iadd hx hb dX12_deal_38 ?_
  refine z_i (v := 8) (by decide) ?_
  refine re_S (As := [.int p1, .int 7, .int 8]) (rest := []) caS_SignalTableModel_362 hx hb hml hown hts (eM_lot p1 7 8 (by decide) (by decide)) bl_T (fun _ _ _ => trivial) (by decide) rfl hl.1 (Nat.le_of_ble_eq_true rfl) (by decide) dX12_deal_39 rfl ?_
  refine lv_istore_n (lv' := [(3, .int (nI (lotv 8 p1 7))), (2, .int 7), (4, .int (f70_30 (8 : Int32).toNatClampNeg)), (0, .ref (q 0)), (1, .int p1)]) hx hb dX12_deal_42 rfl hl (by decide) rfl (fun ls hl => ?_)
  refine lv_aload_n hx hb dX12_deal_43 rfl (lv_at hl 3 rfl) ?_
  refine W.eq (g2 := F0 m 44 ls [.ref (q 0)]) rfl ?_
  refine va_get (D := D) (ci := 12) (v := .ref (q 11)) (C := RX12) (T := TX12) (N := 95) hx hb hts inX12 hown hK hP 0 rfl rfl 51 (by decide) (hts _ kw_1565) (fun _ h9 => h9) rfl dX12_deal_44 ?_
  refine lv_iload_n hx hb dX12_deal_47 rfl (lv_at hl 1 rfl) ?_
  refine va_iald hx hb hK hP 4 3 rfl rfl (z_in (by decide)) dX12_deal_48 ?_
  refine lv_istore (lv' := [(4, .int (f70_32 (7 : Int32).toNatClampNeg)), (3, .int (nI (lotv 8 p1 7))), (2, .int 7), (0, .ref (q 0)), (1, .int p1)]) hx hb dX12_deal_49 hl (by decide) rfl (fun ls hl => ?_)
  refine lv_aload_n hx hb dX12_deal_51 rfl (lv_at hl 3 rfl) ?_
  refine va_get (D := D) (ci := 12) (v := .ref (q 11)) (C := RX12) (T := TX12) (N := 95) hx hb hts inX12 hown hK hP 0 rfl rfl 51 (by decide) (hts _ kw_1565) (fun _ h9 => h9) rfl dX12_deal_52 ?_
  refine lv_iload_n hx hb dX12_deal_55 rfl (lv_at hl 2 rfl) ?_
  refine lv_aload_n hx hb dX12_deal_56 rfl (lv_at hl 3 rfl) ?_
  refine va_get (D := D) (ci := 12) (v := .ref (q 11)) (C := RX12) (T := TX12) (N := 95) hx hb hts inX12 hown hK hP 0 rfl rfl 51 (by decide) (hts _ kw_1565) (fun _ h9 => h9) rfl dX12_deal_57 ?_
  refine lv_iload_n hx hb dX12_deal_60 rfl (lv_at hl 1 rfl) ?_
  refine W.eq (g2 := F0 m 61 ls [.int (nI (lotv 8 p1 7)), .ref (q 11), .int 7, .ref (q 11)]) rfl ?_
  refine va_iald hx hb hK hP 4 3 rfl rfl (vp_in_nI (Nat.lt_of_lt_of_le (lotv_lt (by decide) _ _) (by decide)) (by decide)) dX12_deal_61 ?_
  refine va_iast hx hb hK hP hD hS 4 3 rfl rfl (z_in (by decide)) dX12_deal_62 (fun H locs hP hD hS => ?_)
  obtain ⟨f62_33, hf62_33⟩ : ∃ z, z = upd f70_32 ((7 : Int32).toNatClampNeg) (f70_32 ((nI (lotv 8 p1 7)) : Int32).toNatClampNeg) := ⟨_, rfl⟩
  rw [← hf62_33] at hP hD
  have hP : va_P D vwCl [((q 0), .inr (12, mObj q)), ((q 6), .inl ((k 6), 2, .inl (upd (fun _ => 0) 0 4))), ((q 7), .inl ((k 7), 2, .inl (upd (fun _ => 0) 0 4))), ((q 10), .inl ((k 10), 4, .inl (g 10))), ((q 11), .inl ((k 11), 16, .inl f62_33))] H := hP
  have hD : va_D A [((q 0), .inr (12, mObj q)), ((q 6), .inl ((k 6), 2, .inl (upd (fun _ => 0) 0 4))), ((q 7), .inl ((k 7), 2, .inl (upd (fun _ => 0) 0 4))), ((q 10), .inl ((k 10), 4, .inl (g 10))), ((q 11), .inl ((k 11), 16, .inl f62_33))] := hD
  refine lv_aload_n hx hb dX12_deal_63 rfl (lv_at hl 3 rfl) ?_
  refine va_get (D := D) (ci := 12) (v := .ref (q 11)) (C := RX12) (T := TX12) (N := 95) hx hb hts inX12 hown hK hP 0 rfl rfl 51 (by decide) (hts _ kw_1565) (fun _ h9 => h9) rfl dX12_deal_64 ?_
  refine lv_iload_n hx hb dX12_deal_67 rfl (lv_at hl 1 rfl) ?_
  refine lv_iload hx hb dX12_deal_68 (lv_at hl 0 rfl) ?_
  refine va_iast hx hb hK hP hD hS 4 3 rfl rfl (vp_in_nI (Nat.lt_of_lt_of_le (lotv_lt (by decide) _ _) (by decide)) (by decide)) dX12_deal_70 (fun H locs hP hD hS => ?_)
  obtain ⟨f70_34, hf70_34⟩ : ∃ z, z = upd f62_33 (((nI (lotv 8 p1 7)) : Int32).toNatClampNeg) (f70_32 (7 : Int32).toNatClampNeg) := ⟨_, rfl⟩
  rw [← hf70_34] at hP hD
  have hP : va_P D vwCl [((q 0), .inr (12, mObj q)), ((q 6), .inl ((k 6), 2, .inl (upd (fun _ => 0) 0 4))), ((q 7), .inl ((k 7), 2, .inl (upd (fun _ => 0) 0 4))), ((q 10), .inl ((k 10), 4, .inl (g 10))), ((q 11), .inl ((k 11), 16, .inl f70_34))] H := hP
  have hD : va_D A [((q 0), .inr (12, mObj q)), ((q 6), .inl ((k 6), 2, .inl (upd (fun _ => 0) 0 4))), ((q 7), .inl ((k 7), 2, .inl (upd (fun _ => 0) 0 4))), ((q 10), .inl ((k 10), 4, .inl (g 10))), ((q 11), .inl ((k 11), 16, .inl f70_34))] := hD
  refine lv_iinc (v := 6) (lv' := [(2, .int 6), (4, .int (f70_32 (7 : Int32).toNatClampNeg)), (3, .int (nI (lotv 8 p1 7))), (0, .ref (q 0)), (1, .int p1)]) hx hb dX12_deal_71 hl (k := 2) rfl (by decide) (by decide) rfl (fun ls hl => ?_)
  refine lv_goto (tgt := 30) hx hb dX12_deal_74 (by decide) ?_
  refine lv_iload_n hx hb dX12_deal_30 rfl (lv_at hl 0 rfl) ?_
  refine W.eq (g2 := F0 m 31 ls [.int 6]) rfl ?_
  refine lv_if_le (tgt := 77) hx hb dX12_deal_31 (by decide) (fun h => absurd h (by decide)) (fun _ => ?_)
  refine lv_iload_n hx hb dX12_deal_34 rfl (lv_at hl 4 rfl) ?_
  refine lv_iload_n hx hb dX12_deal_35 rfl (lv_at hl 0 rfl) ?_
  refine lv_iload_n hx hb dX12_deal_36 rfl (lv_at hl 0 rfl) ?_
  refine lv_iconst (v := 1) hx hb dX12_deal_37 (by decide) ?_
  refine lv_iadd hx hb dX12_deal_38 ?_
  refine z_i (v := 7) (by decide) ?_
  refine re_S (As := [.int p1, .int 6, .int 7]) (rest := []) caS_SignalTableModel_362 hx hb hml hown hts (eM_lot p1 6 7 (by decide) (by decide)) bl_T (fun _ _ _ => trivial) (by decide) rfl hl.1 (Nat.le_of_ble_eq_true rfl) (by decide) dX12_deal_39 rfl ?_
  refine lv_istore_n (lv' := [(3, .int (nI (lotv 7 p1 6))), (2, .int 6), (4, .int (f70_32 (7 : Int32).toNatClampNeg)), (0, .ref (q 0)), (1, .int p1)]) hx hb dX12_deal_42 rfl hl (by decide) rfl (fun ls hl => ?_)
  refine lv_aload_n hx hb dX12_deal_43 rfl (lv_at hl 3 rfl) ?_
  refine va_get (D := D) (ci := 12) (v := .ref (q 11)) (C := RX12) (T := TX12) (N := 95) hx hb hts inX12 hown hK hP 0 rfl rfl 51 (by decide) (hts _ kw_1565) (fun _ h9 => h9) rfl dX12_deal_44 ?_
  refine W.eq (g2 := F0 m 47 ls [.ref (q 11)]) rfl ?_
  refine lv_iload_n hx hb dX12_deal_47 rfl (lv_at hl 1 rfl) ?_
  refine va_iald hx hb hK hP 4 3 rfl rfl (z_in (by decide)) dX12_deal_48 ?_
  refine lv_istore (lv' := [(4, .int (f70_34 (6 : Int32).toNatClampNeg)), (3, .int (nI (lotv 7 p1 6))), (2, .int 6), (0, .ref (q 0)), (1, .int p1)]) hx hb dX12_deal_49 hl (by decide) rfl (fun ls hl => ?_)
  refine lv_aload_n hx hb dX12_deal_51 rfl (lv_at hl 3 rfl) ?_
  refine va_get (D := D) (ci := 12) (v := .ref (q 11)) (C := RX12) (T := TX12) (N := 95) hx hb hts inX12 hown hK hP 0 rfl rfl 51 (by decide) (hts _ kw_1565) (fun _ h9 => h9) rfl dX12_deal_52 ?_
  refine lv_iload_n hx hb dX12_deal_55 rfl (lv_at hl 2 rfl) ?_
  refine lv_aload_n hx hb dX12_deal_56 rfl (lv_at hl 3 rfl) ?_
  refine va_get (D := D) (ci := 12) (v := .ref (q 11)) (C := RX12) (T := TX12) (N := 95) hx hb hts inX12 hown hK hP 0 rfl rfl 51 (by decide) (hts _ kw_1565) (fun _ h9 => h9) rfl dX12_deal_57 ?_
  refine lv_iload_n hx hb dX12_deal_60 rfl (lv_at hl 1 rfl) ?_
  refine va_iald hx hb hK hP 4 3 rfl rfl (vp_in_nI (Nat.lt_of_lt_of_le (lotv_lt (by decide) _ _) (by decide)) (by decide)) dX12_deal_61 ?_
  refine W.eq (g2 := F0 m 62 ls [.int (f70_34 ((nI (lotv 7 p1 6)) : Int32).toNatClampNeg), .int 6, .ref (q 11)]) rfl ?_
  refine va_iast hx hb hK hP hD hS 4 3 rfl rfl (z_in (by decide)) dX12_deal_62 (fun H locs hP hD hS => ?_)
  obtain ⟨f62_35, hf62_35⟩ : ∃ z, z = upd f70_34 ((6 : Int32).toNatClampNeg) (f70_34 ((nI (lotv 7 p1 6)) : Int32).toNatClampNeg) := ⟨_, rfl⟩
  rw [← hf62_35] at hP hD
  have hP : va_P D vwCl [((q 0), .inr (12, mObj q)), ((q 6), .inl ((k 6), 2, .inl (upd (fun _ => 0) 0 4))), ((q 7), .inl ((k 7), 2, .inl (upd (fun _ => 0) 0 4))), ((q 10), .inl ((k 10), 4, .inl (g 10))), ((q 11), .inl ((k 11), 16, .inl f62_35))] H := hP
  have hD : va_D A [((q 0), .inr (12, mObj q)), ((q 6), .inl ((k 6), 2, .inl (upd (fun _ => 0) 0 4))), ((q 7), .inl ((k 7), 2, .inl (upd (fun _ => 0) 0 4))), ((q 10), .inl ((k 10), 4, .inl (g 10))), ((q 11), .inl ((k 11), 16, .inl f62_35))] := hD
  refine lv_aload_n hx hb dX12_deal_63 rfl (lv_at hl 3 rfl) ?_
  refine va_get (D := D) (ci := 12) (v := .ref (q 11)) (C := RX12) (T := TX12) (N := 95) hx hb hts inX12 hown hK hP 0 rfl rfl 51 (by decide) (hts _ kw_1565) (fun _ h9 => h9) rfl dX12_deal_64 ?_
  refine lv_iload_n hx hb dX12_deal_67 rfl (lv_at hl 1 rfl) ?_
  refine lv_iload hx hb dX12_deal_68 (lv_at hl 0 rfl) ?_
  refine va_iast hx hb hK hP hD hS 4 3 rfl rfl (vp_in_nI (Nat.lt_of_lt_of_le (lotv_lt (by decide) _ _) (by decide)) (by decide)) dX12_deal_70 (fun H locs hP hD hS => ?_)
  obtain ⟨f70_36, hf70_36⟩ : ∃ z, z = upd f62_35 (((nI (lotv 7 p1 6)) : Int32).toNatClampNeg) (f70_34 (6 : Int32).toNatClampNeg) := ⟨_, rfl⟩
  rw [← hf70_36] at hP hD
  have hP : va_P D vwCl [((q 0), .inr (12, mObj q)), ((q 6), .inl ((k 6), 2, .inl (upd (fun _ => 0) 0 4))), ((q 7), .inl ((k 7), 2, .inl (upd (fun _ => 0) 0 4))), ((q 10), .inl ((k 10), 4, .inl (g 10))), ((q 11), .inl ((k 11), 16, .inl f70_36))] H := hP
  have hD : va_D A [((q 0), .inr (12, mObj q)), ((q 6), .inl ((k 6), 2, .inl (upd (fun _ => 0) 0 4))), ((q 7), .inl ((k 7), 2, .inl (upd (fun _ => 0) 0 4))), ((q 10), .inl ((k 10), 4, .inl (g 10))), ((q 11), .inl ((k 11), 16, .inl f70_36))] := hD
  refine lv_iinc (v := 5) (lv' := [(2, .int 5), (4, .int (f70_34 (6 : Int32).toNatClampNeg)), (3, .int (nI (lotv 7 p1 6))), (0, .ref (q 0)), (1, .int p1)]) hx hb dX12_deal_71 hl (k := 2) rfl (by decide) (by decide) rfl (fun ls hl => ?_)
  refine lv_goto (tgt := 30) hx hb dX12_deal_74 (by decide) ?_
  refine lv_iload_n hx hb dX12_deal_30 rfl (lv_at hl 0 rfl) ?_
  refine lv_if_le (tgt := 77) hx hb dX12_deal_31 (by decide) (fun h => absurd h (by decide)) (fun _ => ?_)
  refine W.eq (g2 := F0 m 34 ls []) rfl ?_
  refine lv_iload_n hx hb dX12_deal_34 rfl (lv_at hl 4 rfl) ?_
  refine lv_iload_n hx hb dX12_deal_35 rfl (lv_at hl 0 rfl) ?_
  refine lv_iload_n hx hb dX12_deal_36 rfl (lv_at hl 0 rfl) ?_
  refine lv_iconst (v := 1) hx hb dX12_deal_37 (by decide) ?_
  refine lv_iadd hx hb dX12_deal_38 ?_
  refine z_i (v := 6) (by decide) ?_
  refine re_S (As := [.int p1, .int 5, .int 6]) (rest := []) caS_SignalTableModel_362 hx hb hml hown hts (eM_lot p1 5 6 (by decide) (by decide)) bl_T (fun _ _ _ => trivial) (by decide) rfl hl.1 (Nat.le_of_ble_eq_true rfl) (by decide) dX12_deal_39 rfl ?_
  refine lv_istore_n (lv' := [(3, .int (nI (lotv 6 p1 5))), (2, .int 5), (4, .int (f70_34 (6 : Int32).toNatClampNeg)), (0, .ref (q 0)), (1, .int p1)]) hx hb dX12_deal_42 rfl hl (by decide) rfl (fun ls hl => ?_)
  refine lv_aload_n hx hb dX12_deal_43 rfl (lv_at hl 3 rfl) ?_
  refine va_get (D := D) (ci := 12) (v := .ref (q 11)) (C := RX12) (T := TX12) (N := 95) hx hb hts inX12 hown hK hP 0 rfl rfl 51 (by decide) (hts _ kw_1565) (fun _ h9 => h9) rfl dX12_deal_44 ?_
  refine lv_iload_n hx hb dX12_deal_47 rfl (lv_at hl 1 rfl) ?_
  refine W.eq (g2 := F0 m 48 ls [.int 5, .ref (q 11)]) rfl ?_
  refine va_iald hx hb hK hP 4 3 rfl rfl (z_in (by decide)) dX12_deal_48 ?_
  refine lv_istore (lv' := [(4, .int (f70_36 (5 : Int32).toNatClampNeg)), (3, .int (nI (lotv 6 p1 5))), (2, .int 5), (0, .ref (q 0)), (1, .int p1)]) hx hb dX12_deal_49 hl (by decide) rfl (fun ls hl => ?_)
  refine lv_aload_n hx hb dX12_deal_51 rfl (lv_at hl 3 rfl) ?_
  refine va_get (D := D) (ci := 12) (v := .ref (q 11)) (C := RX12) (T := TX12) (N := 95) hx hb hts inX12 hown hK hP 0 rfl rfl 51 (by decide) (hts _ kw_1565) (fun _ h9 => h9) rfl dX12_deal_52 ?_
  refine lv_iload_n hx hb dX12_deal_55 rfl (lv_at hl 2 rfl) ?_
  refine lv_aload_n hx hb dX12_deal_56 rfl (lv_at hl 3 rfl) ?_
  refine va_get (D := D) (ci := 12) (v := .ref (q 11)) (C := RX12) (T := TX12) (N := 95) hx hb hts inX12 hown hK hP 0 rfl rfl 51 (by decide) (hts _ kw_1565) (fun _ h9 => h9) rfl dX12_deal_57 ?_
  refine lv_iload_n hx hb dX12_deal_60 rfl (lv_at hl 1 rfl) ?_
  refine va_iald hx hb hK hP 4 3 rfl rfl (vp_in_nI (Nat.lt_of_lt_of_le (lotv_lt (by decide) _ _) (by decide)) (by decide)) dX12_deal_61 ?_
  refine va_iast hx hb hK hP hD hS 4 3 rfl rfl (z_in (by decide)) dX12_deal_62 (fun H locs hP hD hS => ?_)
  obtain ⟨f62_37, hf62_37⟩ : ∃ z, z = upd f70_36 ((5 : Int32).toNatClampNeg) (f70_36 ((nI (lotv 6 p1 5)) : Int32).toNatClampNeg) := ⟨_, rfl⟩
  rw [← hf62_37] at hP hD
  have hP : va_P D vwCl [((q 0), .inr (12, mObj q)), ((q 6), .inl ((k 6), 2, .inl (upd (fun _ => 0) 0 4))), ((q 7), .inl ((k 7), 2, .inl (upd (fun _ => 0) 0 4))), ((q 10), .inl ((k 10), 4, .inl (g 10))), ((q 11), .inl ((k 11), 16, .inl f62_37))] H := hP
  have hD : va_D A [((q 0), .inr (12, mObj q)), ((q 6), .inl ((k 6), 2, .inl (upd (fun _ => 0) 0 4))), ((q 7), .inl ((k 7), 2, .inl (upd (fun _ => 0) 0 4))), ((q 10), .inl ((k 10), 4, .inl (g 10))), ((q 11), .inl ((k 11), 16, .inl f62_37))] := hD
  refine W.eq (g2 := F0 m 63 ls []) rfl ?_
  refine lv_aload_n hx hb dX12_deal_63 rfl (lv_at hl 3 rfl) ?_
  refine va_get (D := D) (ci := 12) (v := .ref (q 11)) (C := RX12) (T := TX12) (N := 95) hx hb hts inX12 hown hK hP 0 rfl rfl 51 (by decide) (hts _ kw_1565) (fun _ h9 => h9) rfl dX12_deal_64 ?_
  refine lv_iload_n hx hb dX12_deal_67 rfl (lv_at hl 1 rfl) ?_
  refine lv_iload hx hb dX12_deal_68 (lv_at hl 0 rfl) ?_
  refine va_iast hx hb hK hP hD hS 4 3 rfl rfl (vp_in_nI (Nat.lt_of_lt_of_le (lotv_lt (by decide) _ _) (by decide)) (by decide)) dX12_deal_70 (fun H locs hP hD hS => ?_)
  obtain ⟨f70_38, hf70_38⟩ : ∃ z, z = upd f62_37 (((nI (lotv 6 p1 5)) : Int32).toNatClampNeg) (f70_36 (5 : Int32).toNatClampNeg) := ⟨_, rfl⟩
  rw [← hf70_38] at hP hD
  have hP : va_P D vwCl [((q 0), .inr (12, mObj q)), ((q 6), .inl ((k 6), 2, .inl (upd (fun _ => 0) 0 4))), ((q 7), .inl ((k 7), 2, .inl (upd (fun _ => 0) 0 4))), ((q 10), .inl ((k 10), 4, .inl (g 10))), ((q 11), .inl ((k 11), 16, .inl f70_38))] H := hP
  have hD : va_D A [((q 0), .inr (12, mObj q)), ((q 6), .inl ((k 6), 2, .inl (upd (fun _ => 0) 0 4))), ((q 7), .inl ((k 7), 2, .inl (upd (fun _ => 0) 0 4))), ((q 10), .inl ((k 10), 4, .inl (g 10))), ((q 11), .inl ((k 11), 16, .inl f70_38))] := hD
  refine lv_iinc (v := 4) (lv' := [(2, .int 4), (4, .int (f70_36 (5 : Int32).toNatClampNeg)), (3, .int (nI (lotv 6 p1 5))), (0, .ref (q 0)), (1, .int p1)]) hx hb dX12_deal_71 hl (k := 2) rfl (by decide) (by decide) rfl (fun ls hl => ?_)
  refine lv_goto (tgt := 30) hx hb dX12_deal_74 (by decide) ?_
  refine lv_iload_n hx hb dX12_deal_30 rfl (lv_at hl 0 rfl) ?_
  refine lv_if_le (tgt := 77) hx hb dX12_deal_31 (by decide) (fun h => absurd h (by decide)) (fun _ => ?_)
  refine lv_iload_n hx hb dX12_deal_34 rfl (lv_at hl 4 rfl) ?_
  refine W.eq (g2 := F0 m 35 ls [.int p1]) rfl ?_
  refine lv_iload_n hx hb dX12_deal_35 rfl (lv_at hl 0 rfl) ?_
  refine lv_iload_n hx hb dX12_deal_36 rfl (lv_at hl 0 rfl) ?_
  refine lv_iconst (v := 1) hx hb dX12_deal_37 (by decide) ?_
  refine lv_iadd hx hb dX12_deal_38 ?_
  refine z_i (v := 5) (by decide) ?_
  refine re_S (As := [.int p1, .int 4, .int 5]) (rest := []) caS_SignalTableModel_362 hx hb hml hown hts (eM_lot p1 4 5 (by decide) (by decide)) bl_T (fun _ _ _ => trivial) (by decide) rfl hl.1 (Nat.le_of_ble_eq_true rfl) (by decide) dX12_deal_39 rfl ?_
  refine lv_istore_n (lv' := [(3, .int (nI (lotv 5 p1 4))), (2, .int 4), (4, .int (f70_36 (5 : Int32).toNatClampNeg)), (0, .ref (q 0)), (1, .int p1)]) hx hb dX12_deal_42 rfl hl (by decide) rfl (fun ls hl => ?_)
  refine lv_aload_n hx hb dX12_deal_43 rfl (lv_at hl 3 rfl) ?_
  refine va_get (D := D) (ci := 12) (v := .ref (q 11)) (C := RX12) (T := TX12) (N := 95) hx hb hts inX12 hown hK hP 0 rfl rfl 51 (by decide) (hts _ kw_1565) (fun _ h9 => h9) rfl dX12_deal_44 ?_
  refine lv_iload_n hx hb dX12_deal_47 rfl (lv_at hl 1 rfl) ?_
  refine va_iald hx hb hK hP 4 3 rfl rfl (z_in (by decide)) dX12_deal_48 ?_
  refine W.eq (g2 := F0 m 49 ls [.int (f70_38 (4 : Int32).toNatClampNeg)]) rfl ?_
  refine lv_istore (lv' := [(4, .int (f70_38 (4 : Int32).toNatClampNeg)), (3, .int (nI (lotv 5 p1 4))), (2, .int 4), (0, .ref (q 0)), (1, .int p1)]) hx hb dX12_deal_49 hl (by decide) rfl (fun ls hl => ?_)
  refine lv_aload_n hx hb dX12_deal_51 rfl (lv_at hl 3 rfl) ?_
  refine va_get (D := D) (ci := 12) (v := .ref (q 11)) (C := RX12) (T := TX12) (N := 95) hx hb hts inX12 hown hK hP 0 rfl rfl 51 (by decide) (hts _ kw_1565) (fun _ h9 => h9) rfl dX12_deal_52 ?_
  refine lv_iload_n hx hb dX12_deal_55 rfl (lv_at hl 2 rfl) ?_
  refine lv_aload_n hx hb dX12_deal_56 rfl (lv_at hl 3 rfl) ?_
  refine va_get (D := D) (ci := 12) (v := .ref (q 11)) (C := RX12) (T := TX12) (N := 95) hx hb hts inX12 hown hK hP 0 rfl rfl 51 (by decide) (hts _ kw_1565) (fun _ h9 => h9) rfl dX12_deal_57 ?_
  refine lv_iload_n hx hb dX12_deal_60 rfl (lv_at hl 1 rfl) ?_
  refine va_iald hx hb hK hP 4 3 rfl rfl (vp_in_nI (Nat.lt_of_lt_of_le (lotv_lt (by decide) _ _) (by decide)) (by decide)) dX12_deal_61 ?_
  refine va_iast hx hb hK hP hD hS 4 3 rfl rfl (z_in (by decide)) dX12_deal_62 (fun H locs hP hD hS => ?_)
  obtain ⟨f62_39, hf62_39⟩ : ∃ z, z = upd f70_38 ((4 : Int32).toNatClampNeg) (f70_38 ((nI (lotv 5 p1 4)) : Int32).toNatClampNeg) := ⟨_, rfl⟩
  rw [← hf62_39] at hP hD
  have hP : va_P D vwCl [((q 0), .inr (12, mObj q)), ((q 6), .inl ((k 6), 2, .inl (upd (fun _ => 0) 0 4))), ((q 7), .inl ((k 7), 2, .inl (upd (fun _ => 0) 0 4))), ((q 10), .inl ((k 10), 4, .inl (g 10))), ((q 11), .inl ((k 11), 16, .inl f62_39))] H := hP
  have hD : va_D A [((q 0), .inr (12, mObj q)), ((q 6), .inl ((k 6), 2, .inl (upd (fun _ => 0) 0 4))), ((q 7), .inl ((k 7), 2, .inl (upd (fun _ => 0) 0 4))), ((q 10), .inl ((k 10), 4, .inl (g 10))), ((q 11), .inl ((k 11), 16, .inl f62_39))] := hD
  refine lv_aload_n hx hb dX12_deal_63 rfl (lv_at hl 3 rfl) ?_
  refine W.eq (g2 := F0 m 64 ls [.ref (q 0)]) rfl ?_
  refine va_get (D := D) (ci := 12) (v := .ref (q 11)) (C := RX12) (T := TX12) (N := 95) hx hb hts inX12 hown hK hP 0 rfl rfl 51 (by decide) (hts _ kw_1565) (fun _ h9 => h9) rfl dX12_deal_64 ?_
  refine lv_iload_n hx hb dX12_deal_67 rfl (lv_at hl 1 rfl) ?_
  refine lv_iload hx hb dX12_deal_68 (lv_at hl 0 rfl) ?_
  refine va_iast hx hb hK hP hD hS 4 3 rfl rfl (vp_in_nI (Nat.lt_of_lt_of_le (lotv_lt (by decide) _ _) (by decide)) (by decide)) dX12_deal_70 (fun H locs hP hD hS => ?_)
  obtain ⟨f70_40, hf70_40⟩ : ∃ z, z = upd f62_39 (((nI (lotv 5 p1 4)) : Int32).toNatClampNeg) (f70_38 (4 : Int32).toNatClampNeg) := ⟨_, rfl⟩
  rw [← hf70_40] at hP hD
  have hP : va_P D vwCl [((q 0), .inr (12, mObj q)), ((q 6), .inl ((k 6), 2, .inl (upd (fun _ => 0) 0 4))), ((q 7), .inl ((k 7), 2, .inl (upd (fun _ => 0) 0 4))), ((q 10), .inl ((k 10), 4, .inl (g 10))), ((q 11), .inl ((k 11), 16, .inl f70_40))] H := hP
  have hD : va_D A [((q 0), .inr (12, mObj q)), ((q 6), .inl ((k 6), 2, .inl (upd (fun _ => 0) 0 4))), ((q 7), .inl ((k 7), 2, .inl (upd (fun _ => 0) 0 4))), ((q 10), .inl ((k 10), 4, .inl (g 10))), ((q 11), .inl ((k 11), 16, .inl f70_40))] := hD
  refine lv_iinc (v := 3) (lv' := [(2, .int 3), (4, .int (f70_38 (4 : Int32).toNatClampNeg)), (3, .int (nI (lotv 5 p1 4))), (0, .ref (q 0)), (1, .int p1)]) hx hb dX12_deal_71 hl (k := 2) rfl (by decide) (by decide) rfl (fun ls hl => ?_)
  refine lv_goto (tgt := 30) hx hb dX12_deal_74 (by decide) ?_
  refine lv_iload_n hx hb dX12_deal_30 rfl (lv_at hl 0 rfl) ?_
  refine lv_if_le (tgt := 77) hx hb dX12_deal_31 (by decide) (fun h => absurd h (by decide)) (fun _ => ?_)
  refine lv_iload_n hx hb dX12_deal_34 rfl (lv_at hl 4 rfl) ?_
  refine lv_iload_n hx hb dX12_deal_35 rfl (lv_at hl 0 rfl) ?_
  refine W.eq (g2 := F0 m 36 ls [.int 3, .int p1]) rfl ?_
  refine lv_iload_n hx hb dX12_deal_36 rfl (lv_at hl 0 rfl) ?_
  refine lv_iconst (v := 1) hx hb dX12_deal_37 (by decide) ?_
  refine lv_iadd hx hb dX12_deal_38 ?_
  refine z_i (v := 4) (by decide) ?_
  refine re_S (As := [.int p1, .int 3, .int 4]) (rest := []) caS_SignalTableModel_362 hx hb hml hown hts (eM_lot p1 3 4 (by decide) (by decide)) bl_T (fun _ _ _ => trivial) (by decide) rfl hl.1 (Nat.le_of_ble_eq_true rfl) (by decide) dX12_deal_39 rfl ?_
  refine lv_istore_n (lv' := [(3, .int (nI (lotv 4 p1 3))), (2, .int 3), (4, .int (f70_38 (4 : Int32).toNatClampNeg)), (0, .ref (q 0)), (1, .int p1)]) hx hb dX12_deal_42 rfl hl (by decide) rfl (fun ls hl => ?_)
  refine lv_aload_n hx hb dX12_deal_43 rfl (lv_at hl 3 rfl) ?_
  refine va_get (D := D) (ci := 12) (v := .ref (q 11)) (C := RX12) (T := TX12) (N := 95) hx hb hts inX12 hown hK hP 0 rfl rfl 51 (by decide) (hts _ kw_1565) (fun _ h9 => h9) rfl dX12_deal_44 ?_
  refine lv_iload_n hx hb dX12_deal_47 rfl (lv_at hl 1 rfl) ?_
  refine va_iald hx hb hK hP 4 3 rfl rfl (z_in (by decide)) dX12_deal_48 ?_
  refine lv_istore (lv' := [(4, .int (f70_40 (3 : Int32).toNatClampNeg)), (3, .int (nI (lotv 4 p1 3))), (2, .int 3), (0, .ref (q 0)), (1, .int p1)]) hx hb dX12_deal_49 hl (by decide) rfl (fun ls hl => ?_)
  refine W.eq (g2 := F0 m 51 ls []) rfl ?_
  refine lv_aload_n hx hb dX12_deal_51 rfl (lv_at hl 3 rfl) ?_
  refine va_get (D := D) (ci := 12) (v := .ref (q 11)) (C := RX12) (T := TX12) (N := 95) hx hb hts inX12 hown hK hP 0 rfl rfl 51 (by decide) (hts _ kw_1565) (fun _ h9 => h9) rfl dX12_deal_52 ?_
  refine lv_iload_n hx hb dX12_deal_55 rfl (lv_at hl 2 rfl) ?_
  refine lv_aload_n hx hb dX12_deal_56 rfl (lv_at hl 3 rfl) ?_
  refine va_get (D := D) (ci := 12) (v := .ref (q 11)) (C := RX12) (T := TX12) (N := 95) hx hb hts inX12 hown hK hP 0 rfl rfl 51 (by decide) (hts _ kw_1565) (fun _ h9 => h9) rfl dX12_deal_57 ?_
  refine lv_iload_n hx hb dX12_deal_60 rfl (lv_at hl 1 rfl) ?_
  refine va_iald hx hb hK hP 4 3 rfl rfl (vp_in_nI (Nat.lt_of_lt_of_le (lotv_lt (by decide) _ _) (by decide)) (by decide)) dX12_deal_61 ?_
  refine va_iast hx hb hK hP hD hS 4 3 rfl rfl (z_in (by decide)) dX12_deal_62 (fun H locs hP hD hS => ?_)
  obtain ⟨f62_41, hf62_41⟩ : ∃ z, z = upd f70_40 ((3 : Int32).toNatClampNeg) (f70_40 ((nI (lotv 4 p1 3)) : Int32).toNatClampNeg) := ⟨_, rfl⟩
  rw [← hf62_41] at hP hD
  have hP : va_P D vwCl [((q 0), .inr (12, mObj q)), ((q 6), .inl ((k 6), 2, .inl (upd (fun _ => 0) 0 4))), ((q 7), .inl ((k 7), 2, .inl (upd (fun _ => 0) 0 4))), ((q 10), .inl ((k 10), 4, .inl (g 10))), ((q 11), .inl ((k 11), 16, .inl f62_41))] H := hP
  have hD : va_D A [((q 0), .inr (12, mObj q)), ((q 6), .inl ((k 6), 2, .inl (upd (fun _ => 0) 0 4))), ((q 7), .inl ((k 7), 2, .inl (upd (fun _ => 0) 0 4))), ((q 10), .inl ((k 10), 4, .inl (g 10))), ((q 11), .inl ((k 11), 16, .inl f62_41))] := hD
  refine lv_aload_n hx hb dX12_deal_63 rfl (lv_at hl 3 rfl) ?_
  refine va_get (D := D) (ci := 12) (v := .ref (q 11)) (C := RX12) (T := TX12) (N := 95) hx hb hts inX12 hown hK hP 0 rfl rfl 51 (by decide) (hts _ kw_1565) (fun _ h9 => h9) rfl dX12_deal_64 ?_
  refine W.eq (g2 := F0 m 67 ls [.ref (q 11)]) rfl ?_
  refine lv_iload_n hx hb dX12_deal_67 rfl (lv_at hl 1 rfl) ?_
  refine lv_iload hx hb dX12_deal_68 (lv_at hl 0 rfl) ?_
  refine va_iast hx hb hK hP hD hS 4 3 rfl rfl (vp_in_nI (Nat.lt_of_lt_of_le (lotv_lt (by decide) _ _) (by decide)) (by decide)) dX12_deal_70 (fun H locs hP hD hS => ?_)
  obtain ⟨f70_42, hf70_42⟩ : ∃ z, z = upd f62_41 (((nI (lotv 4 p1 3)) : Int32).toNatClampNeg) (f70_40 (3 : Int32).toNatClampNeg) := ⟨_, rfl⟩
  rw [← hf70_42] at hP hD
  have hP : va_P D vwCl [((q 0), .inr (12, mObj q)), ((q 6), .inl ((k 6), 2, .inl (upd (fun _ => 0) 0 4))), ((q 7), .inl ((k 7), 2, .inl (upd (fun _ => 0) 0 4))), ((q 10), .inl ((k 10), 4, .inl (g 10))), ((q 11), .inl ((k 11), 16, .inl f70_42))] H := hP
  have hD : va_D A [((q 0), .inr (12, mObj q)), ((q 6), .inl ((k 6), 2, .inl (upd (fun _ => 0) 0 4))), ((q 7), .inl ((k 7), 2, .inl (upd (fun _ => 0) 0 4))), ((q 10), .inl ((k 10), 4, .inl (g 10))), ((q 11), .inl ((k 11), 16, .inl f70_42))] := hD
  refine lv_iinc (v := 2) (lv' := [(2, .int 2), (4, .int (f70_40 (3 : Int32).toNatClampNeg)), (3, .int (nI (lotv 4 p1 3))), (0, .ref (q 0)), (1, .int p1)]) hx hb dX12_deal_71 hl (k := 2) rfl (by decide) (by decide) rfl (fun ls hl => ?_)
  refine lv_goto (tgt := 30) hx hb dX12_deal_74 (by decide) ?_
  refine lv_iload_n hx hb dX12_deal_30 rfl (lv_at hl 0 rfl) ?_
  refine lv_if_le (tgt := 77) hx hb dX12_deal_31 (by decide) (fun h => absurd h (by decide)) (fun _ => ?_)
  refine lv_iload_n hx hb dX12_deal_34 rfl (lv_at hl 4 rfl) ?_
  refine lv_iload_n hx hb dX12_deal_35 rfl (lv_at hl 0 rfl) ?_
  refine lv_iload_n hx hb dX12_deal_36 rfl (lv_at hl 0 rfl) ?_
  refine W.eq (g2 := F0 m 37 ls [.int 2, .int 2, .int p1]) rfl ?_
  refine lv_iconst (v := 1) hx hb dX12_deal_37 (by decide) ?_
  refine lv_iadd hx hb dX12_deal_38 ?_
  refine z_i (v := 3) (by decide) ?_
  refine re_S (As := [.int p1, .int 2, .int 3]) (rest := []) caS_SignalTableModel_362 hx hb hml hown hts (eM_lot p1 2 3 (by decide) (by decide)) bl_T (fun _ _ _ => trivial) (by decide) rfl hl.1 (Nat.le_of_ble_eq_true rfl) (by decide) dX12_deal_39 rfl ?_
  refine lv_istore_n (lv' := [(3, .int (nI (lotv 3 p1 2))), (2, .int 2), (4, .int (f70_40 (3 : Int32).toNatClampNeg)), (0, .ref (q 0)), (1, .int p1)]) hx hb dX12_deal_42 rfl hl (by decide) rfl (fun ls hl => ?_)
  refine lv_aload_n hx hb dX12_deal_43 rfl (lv_at hl 3 rfl) ?_
  refine va_get (D := D) (ci := 12) (v := .ref (q 11)) (C := RX12) (T := TX12) (N := 95) hx hb hts inX12 hown hK hP 0 rfl rfl 51 (by decide) (hts _ kw_1565) (fun _ h9 => h9) rfl dX12_deal_44 ?_
  refine lv_iload_n hx hb dX12_deal_47 rfl (lv_at hl 1 rfl) ?_
  refine va_iald hx hb hK hP 4 3 rfl rfl (z_in (by decide)) dX12_deal_48 ?_
  refine lv_istore (lv' := [(4, .int (f70_42 (2 : Int32).toNatClampNeg)), (3, .int (nI (lotv 3 p1 2))), (2, .int 2), (0, .ref (q 0)), (1, .int p1)]) hx hb dX12_deal_49 hl (by decide) rfl (fun ls hl => ?_)
  refine lv_aload_n hx hb dX12_deal_51 rfl (lv_at hl 3 rfl) ?_
  refine W.eq (g2 := F0 m 52 ls [.ref (q 0)]) rfl ?_
  refine va_get (D := D) (ci := 12) (v := .ref (q 11)) (C := RX12) (T := TX12) (N := 95) hx hb hts inX12 hown hK hP 0 rfl rfl 51 (by decide) (hts _ kw_1565) (fun _ h9 => h9) rfl dX12_deal_52 ?_
  refine lv_iload_n hx hb dX12_deal_55 rfl (lv_at hl 2 rfl) ?_
  refine lv_aload_n hx hb dX12_deal_56 rfl (lv_at hl 3 rfl) ?_
  refine va_get (D := D) (ci := 12) (v := .ref (q 11)) (C := RX12) (T := TX12) (N := 95) hx hb hts inX12 hown hK hP 0 rfl rfl 51 (by decide) (hts _ kw_1565) (fun _ h9 => h9) rfl dX12_deal_57 ?_
  refine lv_iload_n hx hb dX12_deal_60 rfl (lv_at hl 1 rfl) ?_
  refine va_iald hx hb hK hP 4 3 rfl rfl (vp_in_nI (Nat.lt_of_lt_of_le (lotv_lt (by decide) _ _) (by decide)) (by decide)) dX12_deal_61 ?_
  refine va_iast hx hb hK hP hD hS 4 3 rfl rfl (z_in (by decide)) dX12_deal_62 (fun H locs hP hD hS => ?_)
  obtain ⟨f62_43, hf62_43⟩ : ∃ z, z = upd f70_42 ((2 : Int32).toNatClampNeg) (f70_42 ((nI (lotv 3 p1 2)) : Int32).toNatClampNeg) := ⟨_, rfl⟩
  rw [← hf62_43] at hP hD
  have hP : va_P D vwCl [((q 0), .inr (12, mObj q)), ((q 6), .inl ((k 6), 2, .inl (upd (fun _ => 0) 0 4))), ((q 7), .inl ((k 7), 2, .inl (upd (fun _ => 0) 0 4))), ((q 10), .inl ((k 10), 4, .inl (g 10))), ((q 11), .inl ((k 11), 16, .inl f62_43))] H := hP
  have hD : va_D A [((q 0), .inr (12, mObj q)), ((q 6), .inl ((k 6), 2, .inl (upd (fun _ => 0) 0 4))), ((q 7), .inl ((k 7), 2, .inl (upd (fun _ => 0) 0 4))), ((q 10), .inl ((k 10), 4, .inl (g 10))), ((q 11), .inl ((k 11), 16, .inl f62_43))] := hD
  refine lv_aload_n hx hb dX12_deal_63 rfl (lv_at hl 3 rfl) ?_
  refine va_get (D := D) (ci := 12) (v := .ref (q 11)) (C := RX12) (T := TX12) (N := 95) hx hb hts inX12 hown hK hP 0 rfl rfl 51 (by decide) (hts _ kw_1565) (fun _ h9 => h9) rfl dX12_deal_64 ?_
  refine lv_iload_n hx hb dX12_deal_67 rfl (lv_at hl 1 rfl) ?_
  refine W.eq (g2 := F0 m 68 ls [.int (nI (lotv 3 p1 2)), .ref (q 11)]) rfl ?_
  refine lv_iload hx hb dX12_deal_68 (lv_at hl 0 rfl) ?_
  refine va_iast hx hb hK hP hD hS 4 3 rfl rfl (vp_in_nI (Nat.lt_of_lt_of_le (lotv_lt (by decide) _ _) (by decide)) (by decide)) dX12_deal_70 (fun H locs hP hD hS => ?_)
  obtain ⟨f70_44, hf70_44⟩ : ∃ z, z = upd f62_43 (((nI (lotv 3 p1 2)) : Int32).toNatClampNeg) (f70_42 (2 : Int32).toNatClampNeg) := ⟨_, rfl⟩
  rw [← hf70_44] at hP hD
  have hP : va_P D vwCl [((q 0), .inr (12, mObj q)), ((q 6), .inl ((k 6), 2, .inl (upd (fun _ => 0) 0 4))), ((q 7), .inl ((k 7), 2, .inl (upd (fun _ => 0) 0 4))), ((q 10), .inl ((k 10), 4, .inl (g 10))), ((q 11), .inl ((k 11), 16, .inl f70_44))] H := hP
  have hD : va_D A [((q 0), .inr (12, mObj q)), ((q 6), .inl ((k 6), 2, .inl (upd (fun _ => 0) 0 4))), ((q 7), .inl ((k 7), 2, .inl (upd (fun _ => 0) 0 4))), ((q 10), .inl ((k 10), 4, .inl (g 10))), ((q 11), .inl ((k 11), 16, .inl f70_44))] := hD
  refine lv_iinc (v := 1) (lv' := [(2, .int 1), (4, .int (f70_42 (2 : Int32).toNatClampNeg)), (3, .int (nI (lotv 3 p1 2))), (0, .ref (q 0)), (1, .int p1)]) hx hb dX12_deal_71 hl (k := 2) rfl (by decide) (by decide) rfl (fun ls hl => ?_)
  refine lv_goto (tgt := 30) hx hb dX12_deal_74 (by decide) ?_
  refine lv_iload_n hx hb dX12_deal_30 rfl (lv_at hl 0 rfl) ?_
  refine lv_if_le (tgt := 77) hx hb dX12_deal_31 (by decide) (fun h => absurd h (by decide)) (fun _ => ?_)
  refine lv_iload_n hx hb dX12_deal_34 rfl (lv_at hl 4 rfl) ?_
  refine lv_iload_n hx hb dX12_deal_35 rfl (lv_at hl 0 rfl) ?_
  refine lv_iload_n hx hb dX12_deal_36 rfl (lv_at hl 0 rfl) ?_
  refine lv_iconst (v := 1) hx hb dX12_deal_37 (by decide) ?_
  refine W.eq (g2 := F0 m 38 ls [.int 1, .int 1, .int 1, .int p1]) rfl ?_
  refine lv_iadd hx hb dX12_deal_38 ?_
  refine z_i (v := 2) (by decide) ?_
  refine re_S (As := [.int p1, .int 1, .int 2]) (rest := []) caS_SignalTableModel_362 hx hb hml hown hts (eM_lot p1 1 2 (by decide) (by decide)) bl_T (fun _ _ _ => trivial) (by decide) rfl hl.1 (Nat.le_of_ble_eq_true rfl) (by decide) dX12_deal_39 rfl ?_
  refine lv_istore_n (lv' := [(3, .int (nI (lotv 2 p1 1))), (2, .int 1), (4, .int (f70_42 (2 : Int32).toNatClampNeg)), (0, .ref (q 0)), (1, .int p1)]) hx hb dX12_deal_42 rfl hl (by decide) rfl (fun ls hl => ?_)
  refine lv_aload_n hx hb dX12_deal_43 rfl (lv_at hl 3 rfl) ?_
  refine va_get (D := D) (ci := 12) (v := .ref (q 11)) (C := RX12) (T := TX12) (N := 95) hx hb hts inX12 hown hK hP 0 rfl rfl 51 (by decide) (hts _ kw_1565) (fun _ h9 => h9) rfl dX12_deal_44 ?_
  refine lv_iload_n hx hb dX12_deal_47 rfl (lv_at hl 1 rfl) ?_
  refine va_iald hx hb hK hP 4 3 rfl rfl (z_in (by decide)) dX12_deal_48 ?_
  refine lv_istore (lv' := [(4, .int (f70_44 (1 : Int32).toNatClampNeg)), (3, .int (nI (lotv 2 p1 1))), (2, .int 1), (0, .ref (q 0)), (1, .int p1)]) hx hb dX12_deal_49 hl (by decide) rfl (fun ls hl => ?_)
  refine lv_aload_n hx hb dX12_deal_51 rfl (lv_at hl 3 rfl) ?_
  refine va_get (D := D) (ci := 12) (v := .ref (q 11)) (C := RX12) (T := TX12) (N := 95) hx hb hts inX12 hown hK hP 0 rfl rfl 51 (by decide) (hts _ kw_1565) (fun _ h9 => h9) rfl dX12_deal_52 ?_
  refine W.eq (g2 := F0 m 55 ls [.ref (q 11)]) rfl ?_
  refine lv_iload_n hx hb dX12_deal_55 rfl (lv_at hl 2 rfl) ?_
  refine lv_aload_n hx hb dX12_deal_56 rfl (lv_at hl 3 rfl) ?_
  refine va_get (D := D) (ci := 12) (v := .ref (q 11)) (C := RX12) (T := TX12) (N := 95) hx hb hts inX12 hown hK hP 0 rfl rfl 51 (by decide) (hts _ kw_1565) (fun _ h9 => h9) rfl dX12_deal_57 ?_
  refine lv_iload_n hx hb dX12_deal_60 rfl (lv_at hl 1 rfl) ?_
  refine va_iald hx hb hK hP 4 3 rfl rfl (vp_in_nI (Nat.lt_of_lt_of_le (lotv_lt (by decide) _ _) (by decide)) (by decide)) dX12_deal_61 ?_
  refine va_iast hx hb hK hP hD hS 4 3 rfl rfl (z_in (by decide)) dX12_deal_62 (fun H locs hP hD hS => ?_)
  obtain ⟨f62_45, hf62_45⟩ : ∃ z, z = upd f70_44 ((1 : Int32).toNatClampNeg) (f70_44 ((nI (lotv 2 p1 1)) : Int32).toNatClampNeg) := ⟨_, rfl⟩
  rw [← hf62_45] at hP hD
  have hP : va_P D vwCl [((q 0), .inr (12, mObj q)), ((q 6), .inl ((k 6), 2, .inl (upd (fun _ => 0) 0 4))), ((q 7), .inl ((k 7), 2, .inl (upd (fun _ => 0) 0 4))), ((q 10), .inl ((k 10), 4, .inl (g 10))), ((q 11), .inl ((k 11), 16, .inl f62_45))] H := hP
  have hD : va_D A [((q 0), .inr (12, mObj q)), ((q 6), .inl ((k 6), 2, .inl (upd (fun _ => 0) 0 4))), ((q 7), .inl ((k 7), 2, .inl (upd (fun _ => 0) 0 4))), ((q 10), .inl ((k 10), 4, .inl (g 10))), ((q 11), .inl ((k 11), 16, .inl f62_45))] := hD
  refine lv_aload_n hx hb dX12_deal_63 rfl (lv_at hl 3 rfl) ?_
  refine va_get (D := D) (ci := 12) (v := .ref (q 11)) (C := RX12) (T := TX12) (N := 95) hx hb hts inX12 hown hK hP 0 rfl rfl 51 (by decide) (hts _ kw_1565) (fun _ h9 => h9) rfl dX12_deal_64 ?_
  refine lv_iload_n hx hb dX12_deal_67 rfl (lv_at hl 1 rfl) ?_
  refine lv_iload hx hb dX12_deal_68 (lv_at hl 0 rfl) ?_
  refine W.eq (g2 := F0 m 70 ls [.int (f70_44 (1 : Int32).toNatClampNeg), .int (nI (lotv 2 p1 1)), .ref (q 11)]) rfl ?_
  refine va_iast hx hb hK hP hD hS 4 3 rfl rfl (vp_in_nI (Nat.lt_of_lt_of_le (lotv_lt (by decide) _ _) (by decide)) (by decide)) dX12_deal_70 (fun H locs hP hD hS => ?_)
  obtain ⟨f70_46, hf70_46⟩ : ∃ z, z = upd f62_45 (((nI (lotv 2 p1 1)) : Int32).toNatClampNeg) (f70_44 (1 : Int32).toNatClampNeg) := ⟨_, rfl⟩
  rw [← hf70_46] at hP hD
  have hP : va_P D vwCl [((q 0), .inr (12, mObj q)), ((q 6), .inl ((k 6), 2, .inl (upd (fun _ => 0) 0 4))), ((q 7), .inl ((k 7), 2, .inl (upd (fun _ => 0) 0 4))), ((q 10), .inl ((k 10), 4, .inl (g 10))), ((q 11), .inl ((k 11), 16, .inl f70_46))] H := hP
  have hD : va_D A [((q 0), .inr (12, mObj q)), ((q 6), .inl ((k 6), 2, .inl (upd (fun _ => 0) 0 4))), ((q 7), .inl ((k 7), 2, .inl (upd (fun _ => 0) 0 4))), ((q 10), .inl ((k 10), 4, .inl (g 10))), ((q 11), .inl ((k 11), 16, .inl f70_46))] := hD
  refine lv_iinc (v := 0) (lv' := [(2, .int 0), (4, .int (f70_44 (1 : Int32).toNatClampNeg)), (3, .int (nI (lotv 2 p1 1))), (0, .ref (q 0)), (1, .int p1)]) hx hb dX12_deal_71 hl (k := 2) rfl (by decide) (by decide) rfl (fun ls hl => ?_)
  refine lv_goto (tgt := 30) hx hb dX12_deal_74 (by decide) ?_
  refine lv_iload_n hx hb dX12_deal_30 rfl (lv_at hl 0 rfl) ?_
  refine lv_if_le (tgt := 77) hx hb dX12_deal_31 (by decide) (fun _ => ?_) (fun h => absurd (by decide) h)
  refine lv_iconst (v := 0) hx hb dX12_deal_77 (by decide) ?_
  refine lv_istore_n (lv' := [(2, .int 0), (4, .int (f70_44 (1 : Int32).toNatClampNeg)), (3, .int (nI (lotv 2 p1 1))), (0, .ref (q 0)), (1, .int p1)]) hx hb dX12_deal_78 rfl hl (by decide) rfl (fun ls hl => ?_)
  refine lv_iload_n hx hb dX12_deal_79 rfl (lv_at hl 0 rfl) ?_
  refine lv_iconst (v := 4) hx hb dX12_deal_80 (by decide) ?_
  refine lv_icmp_ge (tgt := 97) hx hb dX12_deal_81 (by decide) (fun h => absurd h (by decide)) (fun _ => ?_)
  refine W.eq (g2 := F0 m 84 ls []) rfl ?_
  refine lv_aload_n hx hb dX12_deal_84 rfl (lv_at hl 3 rfl) ?_
  refine va_get (D := D) (ci := 12) (v := .ref (q 10)) (C := RX12) (T := TX12) (N := 95) hx hb hts inX12 hown hK hP 0 rfl rfl 46 (by decide) (hts _ kw_1560) (fun _ h9 => h9) rfl dX12_deal_85 ?_
  refine lv_iload_n hx hb dX12_deal_88 rfl (lv_at hl 0 rfl) ?_
  refine lv_iconst (v := 0) hx hb dX12_deal_89 (by decide) ?_
  refine va_iast hx hb hK hP hD hS 3 2 rfl rfl (z_in (by decide)) dX12_deal_90 (fun H locs hP hD hS => ?_)
  obtain ⟨f90_47, hf90_47⟩ : ∃ z, z = upd (g 10) ((0 : Int32).toNatClampNeg) 0 := ⟨_, rfl⟩
  rw [← hf90_47] at hP hD
  have hP : va_P D vwCl [((q 0), .inr (12, mObj q)), ((q 6), .inl ((k 6), 2, .inl (upd (fun _ => 0) 0 4))), ((q 7), .inl ((k 7), 2, .inl (upd (fun _ => 0) 0 4))), ((q 10), .inl ((k 10), 4, .inl f90_47)), ((q 11), .inl ((k 11), 16, .inl f70_46))] H := hP
  have hD : va_D A [((q 0), .inr (12, mObj q)), ((q 6), .inl ((k 6), 2, .inl (upd (fun _ => 0) 0 4))), ((q 7), .inl ((k 7), 2, .inl (upd (fun _ => 0) 0 4))), ((q 10), .inl ((k 10), 4, .inl f90_47)), ((q 11), .inl ((k 11), 16, .inl f70_46))] := hD
  refine lv_iinc (v := 1) (lv' := [(2, .int 1), (4, .int (f70_44 (1 : Int32).toNatClampNeg)), (3, .int (nI (lotv 2 p1 1))), (0, .ref (q 0)), (1, .int p1)]) hx hb dX12_deal_91 hl (k := 0) rfl (by decide) (by decide) rfl (fun ls hl => ?_)
  refine lv_goto (tgt := 79) hx hb dX12_deal_94 (by decide) ?_
  refine lv_iload_n hx hb dX12_deal_79 rfl (lv_at hl 0 rfl) ?_
  refine lv_iconst (v := 4) hx hb dX12_deal_80 (by decide) ?_
  refine lv_icmp_ge (tgt := 97) hx hb dX12_deal_81 (by decide) (fun h => absurd h (by decide)) (fun _ => ?_)
  refine W.eq (g2 := F0 m 84 ls []) rfl ?_
  refine lv_aload_n hx hb dX12_deal_84 rfl (lv_at hl 3 rfl) ?_
  refine va_get (D := D) (ci := 12) (v := .ref (q 10)) (C := RX12) (T := TX12) (N := 95) hx hb hts inX12 hown hK hP 0 rfl rfl 46 (by decide) (hts _ kw_1560) (fun _ h9 => h9) rfl dX12_deal_85 ?_
  refine lv_iload_n hx hb dX12_deal_88 rfl (lv_at hl 0 rfl) ?_
  refine lv_iconst (v := 0) hx hb dX12_deal_89 (by decide) ?_
  refine va_iast hx hb hK hP hD hS 3 2 rfl rfl (z_in (by decide)) dX12_deal_90 (fun H locs hP hD hS => ?_)
  obtain ⟨f90_48, hf90_48⟩ : ∃ z, z = upd f90_47 ((1 : Int32).toNatClampNeg) 0 := ⟨_, rfl⟩
  rw [← hf90_48] at hP hD
  have hP : va_P D vwCl [((q 0), .inr (12, mObj q)), ((q 6), .inl ((k 6), 2, .inl (upd (fun _ => 0) 0 4))), ((q 7), .inl ((k 7), 2, .inl (upd (fun _ => 0) 0 4))), ((q 10), .inl ((k 10), 4, .inl f90_48)), ((q 11), .inl ((k 11), 16, .inl f70_46))] H := hP
  have hD : va_D A [((q 0), .inr (12, mObj q)), ((q 6), .inl ((k 6), 2, .inl (upd (fun _ => 0) 0 4))), ((q 7), .inl ((k 7), 2, .inl (upd (fun _ => 0) 0 4))), ((q 10), .inl ((k 10), 4, .inl f90_48)), ((q 11), .inl ((k 11), 16, .inl f70_46))] := hD
  refine lv_iinc (v := 2) (lv' := [(2, .int 2), (4, .int (f70_44 (1 : Int32).toNatClampNeg)), (3, .int (nI (lotv 2 p1 1))), (0, .ref (q 0)), (1, .int p1)]) hx hb dX12_deal_91 hl (k := 0) rfl (by decide) (by decide) rfl (fun ls hl => ?_)
  refine lv_goto (tgt := 79) hx hb dX12_deal_94 (by decide) ?_
  refine lv_iload_n hx hb dX12_deal_79 rfl (lv_at hl 0 rfl) ?_
  refine lv_iconst (v := 4) hx hb dX12_deal_80 (by decide) ?_
  refine lv_icmp_ge (tgt := 97) hx hb dX12_deal_81 (by decide) (fun h => absurd h (by decide)) (fun _ => ?_)
  refine W.eq (g2 := F0 m 84 ls []) rfl ?_
  refine lv_aload_n hx hb dX12_deal_84 rfl (lv_at hl 3 rfl) ?_
  refine va_get (D := D) (ci := 12) (v := .ref (q 10)) (C := RX12) (T := TX12) (N := 95) hx hb hts inX12 hown hK hP 0 rfl rfl 46 (by decide) (hts _ kw_1560) (fun _ h9 => h9) rfl dX12_deal_85 ?_
  refine lv_iload_n hx hb dX12_deal_88 rfl (lv_at hl 0 rfl) ?_
  refine lv_iconst (v := 0) hx hb dX12_deal_89 (by decide) ?_
  refine va_iast hx hb hK hP hD hS 3 2 rfl rfl (z_in (by decide)) dX12_deal_90 (fun H locs hP hD hS => ?_)
  obtain ⟨f90_49, hf90_49⟩ : ∃ z, z = upd f90_48 ((2 : Int32).toNatClampNeg) 0 := ⟨_, rfl⟩
  rw [← hf90_49] at hP hD
  have hP : va_P D vwCl [((q 0), .inr (12, mObj q)), ((q 6), .inl ((k 6), 2, .inl (upd (fun _ => 0) 0 4))), ((q 7), .inl ((k 7), 2, .inl (upd (fun _ => 0) 0 4))), ((q 10), .inl ((k 10), 4, .inl f90_49)), ((q 11), .inl ((k 11), 16, .inl f70_46))] H := hP
  have hD : va_D A [((q 0), .inr (12, mObj q)), ((q 6), .inl ((k 6), 2, .inl (upd (fun _ => 0) 0 4))), ((q 7), .inl ((k 7), 2, .inl (upd (fun _ => 0) 0 4))), ((q 10), .inl ((k 10), 4, .inl f90_49)), ((q 11), .inl ((k 11), 16, .inl f70_46))] := hD
  refine lv_iinc (v := 3) (lv' := [(2, .int 3), (4, .int (f70_44 (1 : Int32).toNatClampNeg)), (3, .int (nI (lotv 2 p1 1))), (0, .ref (q 0)), (1, .int p1)]) hx hb dX12_deal_91 hl (k := 0) rfl (by decide) (by decide) rfl (fun ls hl => ?_)
  refine lv_goto (tgt := 79) hx hb dX12_deal_94 (by decide) ?_
  refine lv_iload_n hx hb dX12_deal_79 rfl (lv_at hl 0 rfl) ?_
  refine lv_iconst (v := 4) hx hb dX12_deal_80 (by decide) ?_
  refine lv_icmp_ge (tgt := 97) hx hb dX12_deal_81 (by decide) (fun h => absurd h (by decide)) (fun _ => ?_)
  refine W.eq (g2 := F0 m 84 ls []) rfl ?_
  refine lv_aload_n hx hb dX12_deal_84 rfl (lv_at hl 3 rfl) ?_
  refine va_get (D := D) (ci := 12) (v := .ref (q 10)) (C := RX12) (T := TX12) (N := 95) hx hb hts inX12 hown hK hP 0 rfl rfl 46 (by decide) (hts _ kw_1560) (fun _ h9 => h9) rfl dX12_deal_85 ?_
  refine lv_iload_n hx hb dX12_deal_88 rfl (lv_at hl 0 rfl) ?_
  refine lv_iconst (v := 0) hx hb dX12_deal_89 (by decide) ?_
  refine va_iast hx hb hK hP hD hS 3 2 rfl rfl (z_in (by decide)) dX12_deal_90 (fun H locs hP hD hS => ?_)
  obtain ⟨f90_50, hf90_50⟩ : ∃ z, z = upd f90_49 ((3 : Int32).toNatClampNeg) 0 := ⟨_, rfl⟩
  rw [← hf90_50] at hP hD
  have hP : va_P D vwCl [((q 0), .inr (12, mObj q)), ((q 6), .inl ((k 6), 2, .inl (upd (fun _ => 0) 0 4))), ((q 7), .inl ((k 7), 2, .inl (upd (fun _ => 0) 0 4))), ((q 10), .inl ((k 10), 4, .inl f90_50)), ((q 11), .inl ((k 11), 16, .inl f70_46))] H := hP
  have hD : va_D A [((q 0), .inr (12, mObj q)), ((q 6), .inl ((k 6), 2, .inl (upd (fun _ => 0) 0 4))), ((q 7), .inl ((k 7), 2, .inl (upd (fun _ => 0) 0 4))), ((q 10), .inl ((k 10), 4, .inl f90_50)), ((q 11), .inl ((k 11), 16, .inl f70_46))] := hD
  refine lv_iinc (v := 4) (lv' := [(2, .int 4), (4, .int (f70_44 (1 : Int32).toNatClampNeg)), (3, .int (nI (lotv 2 p1 1))), (0, .ref (q 0)), (1, .int p1)]) hx hb dX12_deal_91 hl (k := 0) rfl (by decide) (by decide) rfl (fun ls hl => ?_)
  refine lv_goto (tgt := 79) hx hb dX12_deal_94 (by decide) ?_
  refine lv_iload_n hx hb dX12_deal_79 rfl (lv_at hl 0 rfl) ?_
  refine lv_iconst (v := 4) hx hb dX12_deal_80 (by decide) ?_
  refine lv_icmp_ge (tgt := 97) hx hb dX12_deal_81 (by decide) (fun _ => ?_) (fun h => absurd (by decide) h)
  refine W.eq (g2 := F0 m 97 ls []) rfl ?_
  refine lv_iconst (v := 0) hx hb dX12_deal_97 (by decide) ?_
  refine lv_istore_n (lv' := [(2, .int 0), (4, .int (f70_44 (1 : Int32).toNatClampNeg)), (3, .int (nI (lotv 2 p1 1))), (0, .ref (q 0)), (1, .int p1)]) hx hb dX12_deal_98 rfl hl (by decide) rfl (fun ls hl => ?_)
  refine lv_iload_n hx hb dX12_deal_99 rfl (lv_at hl 0 rfl) ?_
  refine lv_aload_n hx hb dX12_deal_100 rfl (lv_at hl 3 rfl) ?_
  refine rd_V (As := []) (rest := [.int 0]) (d := 0) caV_SignalTableModel_351 hx hb hml hown hts (hP.sub [0, 1, 2] rfl) (hK.sub [0, 1] rfl) (wX12_cards q k g gl) (ci := 12) (q0 := 0) rfl rfl (by decide) rfl hl.1 (Nat.le_of_ble_eq_true rfl) (by decide) dX12_deal_101 rfl ?_
  refine lv_icmp_ge (tgt := 135) hx hb dX12_deal_104 (by decide) (fun h => absurd h (by decide)) (fun _ => ?_)
  refine lv_aload_n hx hb dX12_deal_107 rfl (lv_at hl 3 rfl) ?_
  refine va_get (D := D) (ci := 12) (v := .ref (q 10)) (C := RX12) (T := TX12) (N := 95) hx hb hts inX12 hown hK hP 0 rfl rfl 46 (by decide) (hts _ kw_1560) (fun _ h9 => h9) rfl dX12_deal_108 ?_
  refine lv_iload_n hx hb dX12_deal_111 rfl (lv_at hl 0 rfl) ?_
  refine lv_aload_n hx hb dX12_deal_112 rfl (lv_at hl 3 rfl) ?_
  refine W.eq (g2 := F0 m 113 ls [.ref (q 0), .int 0, .ref (q 10)]) rfl ?_
  refine rd_V (As := []) (rest := [.int 0, .ref (q 10)]) (d := 1) caV_SignalTableModel_365 hx hb hml hown hts (hP.sub [0, 1, 2] rfl) (hK.sub [0, 1] rfl) (wX12_handSize q k g gl) (ci := 12) (q0 := 0) rfl rfl (by decide) rfl hl.1 (Nat.le_of_ble_eq_true rfl) (by decide) dX12_deal_113 rfl ?_
  refine lv_idiv hx hb dX12_deal_116 (by decide) ?_
  refine z_i (v := 0) (by decide) ?_
  refine lv_dup2_11 hx hb dX12_deal_117 rfl rfl ?_
  refine va_iald hx hb hK hP 3 2 rfl rfl (z_in (by decide)) dX12_deal_118 ?_
  refine lv_iconst (v := 1) hx hb dX12_deal_119 (by decide) ?_
  refine lv_aload_n hx hb dX12_deal_120 rfl (lv_at hl 3 rfl) ?_
  refine va_get (D := D) (ci := 12) (v := .ref (q 11)) (C := RX12) (T := TX12) (N := 95) hx hb hts inX12 hown hK hP 0 rfl rfl 51 (by decide) (hts _ kw_1565) (fun _ h9 => h9) rfl dX12_deal_121 ?_
  refine lv_iload_n hx hb dX12_deal_124 rfl (lv_at hl 0 rfl) ?_
  refine va_iald hx hb hK hP 4 3 rfl rfl (z_in (by decide)) dX12_deal_125 ?_
  refine lv_ishl hx hb dX12_deal_126 ?_
  refine W.eq (g2 := F0 m 127 ls [.int ((1 : Int32) <<< ((f70_46 (0 : Int32).toNatClampNeg) &&& 31)), .int (f90_50 (0 : Int32).toNatClampNeg), .int 0, .ref (q 10)]) rfl ?_
  refine lv_ior hx hb dX12_deal_127 ?_
  refine va_iast hx hb hK hP hD hS 3 2 rfl rfl (z_in (by decide)) dX12_deal_128 (fun H locs hP hD hS => ?_)
  obtain ⟨f128_51, hf128_51⟩ : ∃ z, z = upd f90_50 ((0 : Int32).toNatClampNeg) ((f90_50 (0 : Int32).toNatClampNeg) ||| ((1 : Int32) <<< ((f70_46 (0 : Int32).toNatClampNeg) &&& 31))) := ⟨_, rfl⟩
  rw [← hf128_51] at hP hD
  have hP : va_P D vwCl [((q 0), .inr (12, mObj q)), ((q 6), .inl ((k 6), 2, .inl (upd (fun _ => 0) 0 4))), ((q 7), .inl ((k 7), 2, .inl (upd (fun _ => 0) 0 4))), ((q 10), .inl ((k 10), 4, .inl f128_51)), ((q 11), .inl ((k 11), 16, .inl f70_46))] H := hP
  have hD : va_D A [((q 0), .inr (12, mObj q)), ((q 6), .inl ((k 6), 2, .inl (upd (fun _ => 0) 0 4))), ((q 7), .inl ((k 7), 2, .inl (upd (fun _ => 0) 0 4))), ((q 10), .inl ((k 10), 4, .inl f128_51)), ((q 11), .inl ((k 11), 16, .inl f70_46))] := hD
  refine lv_iinc (v := 1) (lv' := [(2, .int 1), (4, .int (f70_44 (1 : Int32).toNatClampNeg)), (3, .int (nI (lotv 2 p1 1))), (0, .ref (q 0)), (1, .int p1)]) hx hb dX12_deal_129 hl (k := 0) rfl (by decide) (by decide) rfl (fun ls hl => ?_)
  refine lv_goto (tgt := 99) hx hb dX12_deal_132 (by decide) ?_
  refine lv_iload_n hx hb dX12_deal_99 rfl (lv_at hl 0 rfl) ?_
  refine lv_aload_n hx hb dX12_deal_100 rfl (lv_at hl 3 rfl) ?_
  refine rd_V (As := []) (rest := [.int 1]) (d := 0) caV_SignalTableModel_351 hx hb hml hown hts (hP.sub [0, 1, 2] rfl) (hK.sub [0, 1] rfl) (wX12_cards q k g gl) (ci := 12) (q0 := 0) rfl rfl (by decide) rfl hl.1 (Nat.le_of_ble_eq_true rfl) (by decide) dX12_deal_101 rfl ?_
  refine lv_icmp_ge (tgt := 135) hx hb dX12_deal_104 (by decide) (fun h => absurd h (by decide)) (fun _ => ?_)
  refine lv_aload_n hx hb dX12_deal_107 rfl (lv_at hl 3 rfl) ?_
  refine va_get (D := D) (ci := 12) (v := .ref (q 10)) (C := RX12) (T := TX12) (N := 95) hx hb hts inX12 hown hK hP 0 rfl rfl 46 (by decide) (hts _ kw_1560) (fun _ h9 => h9) rfl dX12_deal_108 ?_
  refine W.eq (g2 := F0 m 111 ls [.ref (q 10)]) rfl ?_
  refine lv_iload_n hx hb dX12_deal_111 rfl (lv_at hl 0 rfl) ?_
  refine lv_aload_n hx hb dX12_deal_112 rfl (lv_at hl 3 rfl) ?_
  refine rd_V (As := []) (rest := [.int 1, .ref (q 10)]) (d := 1) caV_SignalTableModel_365 hx hb hml hown hts (hP.sub [0, 1, 2] rfl) (hK.sub [0, 1] rfl) (wX12_handSize q k g gl) (ci := 12) (q0 := 0) rfl rfl (by decide) rfl hl.1 (Nat.le_of_ble_eq_true rfl) (by decide) dX12_deal_113 rfl ?_
  refine lv_idiv hx hb dX12_deal_116 (by decide) ?_
  refine z_i (v := 0) (by decide) ?_
  refine lv_dup2_11 hx hb dX12_deal_117 rfl rfl ?_
  refine va_iald hx hb hK hP 3 2 rfl rfl (z_in (by decide)) dX12_deal_118 ?_
  refine lv_iconst (v := 1) hx hb dX12_deal_119 (by decide) ?_
  refine lv_aload_n hx hb dX12_deal_120 rfl (lv_at hl 3 rfl) ?_
  refine va_get (D := D) (ci := 12) (v := .ref (q 11)) (C := RX12) (T := TX12) (N := 95) hx hb hts inX12 hown hK hP 0 rfl rfl 51 (by decide) (hts _ kw_1565) (fun _ h9 => h9) rfl dX12_deal_121 ?_
  refine lv_iload_n hx hb dX12_deal_124 rfl (lv_at hl 0 rfl) ?_
  refine W.eq (g2 := F0 m 125 ls [.int 1, .ref (q 11), .int 1, .int (f128_51 (0 : Int32).toNatClampNeg), .int 0, .ref (q 10)]) rfl ?_
  refine va_iald hx hb hK hP 4 3 rfl rfl (z_in (by decide)) dX12_deal_125 ?_
  refine lv_ishl hx hb dX12_deal_126 ?_
  refine lv_ior hx hb dX12_deal_127 ?_
  refine va_iast hx hb hK hP hD hS 3 2 rfl rfl (z_in (by decide)) dX12_deal_128 (fun H locs hP hD hS => ?_)
  obtain ⟨f128_52, hf128_52⟩ : ∃ z, z = upd f128_51 ((0 : Int32).toNatClampNeg) ((f128_51 (0 : Int32).toNatClampNeg) ||| ((1 : Int32) <<< ((f70_46 (1 : Int32).toNatClampNeg) &&& 31))) := ⟨_, rfl⟩
  rw [← hf128_52] at hP hD
  have hP : va_P D vwCl [((q 0), .inr (12, mObj q)), ((q 6), .inl ((k 6), 2, .inl (upd (fun _ => 0) 0 4))), ((q 7), .inl ((k 7), 2, .inl (upd (fun _ => 0) 0 4))), ((q 10), .inl ((k 10), 4, .inl f128_52)), ((q 11), .inl ((k 11), 16, .inl f70_46))] H := hP
  have hD : va_D A [((q 0), .inr (12, mObj q)), ((q 6), .inl ((k 6), 2, .inl (upd (fun _ => 0) 0 4))), ((q 7), .inl ((k 7), 2, .inl (upd (fun _ => 0) 0 4))), ((q 10), .inl ((k 10), 4, .inl f128_52)), ((q 11), .inl ((k 11), 16, .inl f70_46))] := hD
  refine lv_iinc (v := 2) (lv' := [(2, .int 2), (4, .int (f70_44 (1 : Int32).toNatClampNeg)), (3, .int (nI (lotv 2 p1 1))), (0, .ref (q 0)), (1, .int p1)]) hx hb dX12_deal_129 hl (k := 0) rfl (by decide) (by decide) rfl (fun ls hl => ?_)
  refine lv_goto (tgt := 99) hx hb dX12_deal_132 (by decide) ?_
  refine lv_iload_n hx hb dX12_deal_99 rfl (lv_at hl 0 rfl) ?_
  refine lv_aload_n hx hb dX12_deal_100 rfl (lv_at hl 3 rfl) ?_
  refine rd_V (As := []) (rest := [.int 2]) (d := 0) caV_SignalTableModel_351 hx hb hml hown hts (hP.sub [0, 1, 2] rfl) (hK.sub [0, 1] rfl) (wX12_cards q k g gl) (ci := 12) (q0 := 0) rfl rfl (by decide) rfl hl.1 (Nat.le_of_ble_eq_true rfl) (by decide) dX12_deal_101 rfl ?_
  refine lv_icmp_ge (tgt := 135) hx hb dX12_deal_104 (by decide) (fun h => absurd h (by decide)) (fun _ => ?_)
  refine W.eq (g2 := F0 m 107 ls []) rfl ?_
  refine lv_aload_n hx hb dX12_deal_107 rfl (lv_at hl 3 rfl) ?_
  refine va_get (D := D) (ci := 12) (v := .ref (q 10)) (C := RX12) (T := TX12) (N := 95) hx hb hts inX12 hown hK hP 0 rfl rfl 46 (by decide) (hts _ kw_1560) (fun _ h9 => h9) rfl dX12_deal_108 ?_
  refine lv_iload_n hx hb dX12_deal_111 rfl (lv_at hl 0 rfl) ?_
  refine lv_aload_n hx hb dX12_deal_112 rfl (lv_at hl 3 rfl) ?_
  refine rd_V (As := []) (rest := [.int 2, .ref (q 10)]) (d := 1) caV_SignalTableModel_365 hx hb hml hown hts (hP.sub [0, 1, 2] rfl) (hK.sub [0, 1] rfl) (wX12_handSize q k g gl) (ci := 12) (q0 := 0) rfl rfl (by decide) rfl hl.1 (Nat.le_of_ble_eq_true rfl) (by decide) dX12_deal_113 rfl ?_
  refine lv_idiv hx hb dX12_deal_116 (by decide) ?_
  refine z_i (v := 0) (by decide) ?_
  refine lv_dup2_11 hx hb dX12_deal_117 rfl rfl ?_
  refine va_iald hx hb hK hP 3 2 rfl rfl (z_in (by decide)) dX12_deal_118 ?_
  refine lv_iconst (v := 1) hx hb dX12_deal_119 (by decide) ?_
  refine lv_aload_n hx hb dX12_deal_120 rfl (lv_at hl 3 rfl) ?_
  refine W.eq (g2 := F0 m 121 ls [.ref (q 0), .int 1, .int (f128_52 (0 : Int32).toNatClampNeg), .int 0, .ref (q 10)]) rfl ?_
  refine va_get (D := D) (ci := 12) (v := .ref (q 11)) (C := RX12) (T := TX12) (N := 95) hx hb hts inX12 hown hK hP 0 rfl rfl 51 (by decide) (hts _ kw_1565) (fun _ h9 => h9) rfl dX12_deal_121 ?_
  refine lv_iload_n hx hb dX12_deal_124 rfl (lv_at hl 0 rfl) ?_
  refine va_iald hx hb hK hP 4 3 rfl rfl (z_in (by decide)) dX12_deal_125 ?_
  refine lv_ishl hx hb dX12_deal_126 ?_
  refine lv_ior hx hb dX12_deal_127 ?_
  refine va_iast hx hb hK hP hD hS 3 2 rfl rfl (z_in (by decide)) dX12_deal_128 (fun H locs hP hD hS => ?_)
  obtain ⟨f128_53, hf128_53⟩ : ∃ z, z = upd f128_52 ((0 : Int32).toNatClampNeg) ((f128_52 (0 : Int32).toNatClampNeg) ||| ((1 : Int32) <<< ((f70_46 (2 : Int32).toNatClampNeg) &&& 31))) := ⟨_, rfl⟩
  rw [← hf128_53] at hP hD
  have hP : va_P D vwCl [((q 0), .inr (12, mObj q)), ((q 6), .inl ((k 6), 2, .inl (upd (fun _ => 0) 0 4))), ((q 7), .inl ((k 7), 2, .inl (upd (fun _ => 0) 0 4))), ((q 10), .inl ((k 10), 4, .inl f128_53)), ((q 11), .inl ((k 11), 16, .inl f70_46))] H := hP
  have hD : va_D A [((q 0), .inr (12, mObj q)), ((q 6), .inl ((k 6), 2, .inl (upd (fun _ => 0) 0 4))), ((q 7), .inl ((k 7), 2, .inl (upd (fun _ => 0) 0 4))), ((q 10), .inl ((k 10), 4, .inl f128_53)), ((q 11), .inl ((k 11), 16, .inl f70_46))] := hD
  refine lv_iinc (v := 3) (lv' := [(2, .int 3), (4, .int (f70_44 (1 : Int32).toNatClampNeg)), (3, .int (nI (lotv 2 p1 1))), (0, .ref (q 0)), (1, .int p1)]) hx hb dX12_deal_129 hl (k := 0) rfl (by decide) (by decide) rfl (fun ls hl => ?_)
  refine lv_goto (tgt := 99) hx hb dX12_deal_132 (by decide) ?_
  refine lv_iload_n hx hb dX12_deal_99 rfl (lv_at hl 0 rfl) ?_
  refine lv_aload_n hx hb dX12_deal_100 rfl (lv_at hl 3 rfl) ?_
  refine W.eq (g2 := F0 m 101 ls [.ref (q 0), .int 3]) rfl ?_
  refine rd_V (As := []) (rest := [.int 3]) (d := 0) caV_SignalTableModel_351 hx hb hml hown hts (hP.sub [0, 1, 2] rfl) (hK.sub [0, 1] rfl) (wX12_cards q k g gl) (ci := 12) (q0 := 0) rfl rfl (by decide) rfl hl.1 (Nat.le_of_ble_eq_true rfl) (by decide) dX12_deal_101 rfl ?_
  refine lv_icmp_ge (tgt := 135) hx hb dX12_deal_104 (by decide) (fun h => absurd h (by decide)) (fun _ => ?_)
  refine lv_aload_n hx hb dX12_deal_107 rfl (lv_at hl 3 rfl) ?_
  refine va_get (D := D) (ci := 12) (v := .ref (q 10)) (C := RX12) (T := TX12) (N := 95) hx hb hts inX12 hown hK hP 0 rfl rfl 46 (by decide) (hts _ kw_1560) (fun _ h9 => h9) rfl dX12_deal_108 ?_
  refine lv_iload_n hx hb dX12_deal_111 rfl (lv_at hl 0 rfl) ?_
  refine lv_aload_n hx hb dX12_deal_112 rfl (lv_at hl 3 rfl) ?_
  refine rd_V (As := []) (rest := [.int 3, .ref (q 10)]) (d := 1) caV_SignalTableModel_365 hx hb hml hown hts (hP.sub [0, 1, 2] rfl) (hK.sub [0, 1] rfl) (wX12_handSize q k g gl) (ci := 12) (q0 := 0) rfl rfl (by decide) rfl hl.1 (Nat.le_of_ble_eq_true rfl) (by decide) dX12_deal_113 rfl ?_
  refine lv_idiv hx hb dX12_deal_116 (by decide) ?_
  refine z_i (v := 0) (by decide) ?_
  refine lv_dup2_11 hx hb dX12_deal_117 rfl rfl ?_
  refine va_iald hx hb hK hP 3 2 rfl rfl (z_in (by decide)) dX12_deal_118 ?_
  refine W.eq (g2 := F0 m 119 ls [.int (f128_53 (0 : Int32).toNatClampNeg), .int 0, .ref (q 10)]) rfl ?_
  refine lv_iconst (v := 1) hx hb dX12_deal_119 (by decide) ?_
  refine lv_aload_n hx hb dX12_deal_120 rfl (lv_at hl 3 rfl) ?_
  refine va_get (D := D) (ci := 12) (v := .ref (q 11)) (C := RX12) (T := TX12) (N := 95) hx hb hts inX12 hown hK hP 0 rfl rfl 51 (by decide) (hts _ kw_1565) (fun _ h9 => h9) rfl dX12_deal_121 ?_
  refine lv_iload_n hx hb dX12_deal_124 rfl (lv_at hl 0 rfl) ?_
  refine va_iald hx hb hK hP 4 3 rfl rfl (z_in (by decide)) dX12_deal_125 ?_
  refine lv_ishl hx hb dX12_deal_126 ?_
  refine lv_ior hx hb dX12_deal_127 ?_
  refine va_iast hx hb hK hP hD hS 3 2 rfl rfl (z_in (by decide)) dX12_deal_128 (fun H locs hP hD hS => ?_)
  obtain ⟨f128_54, hf128_54⟩ : ∃ z, z = upd f128_53 ((0 : Int32).toNatClampNeg) ((f128_53 (0 : Int32).toNatClampNeg) ||| ((1 : Int32) <<< ((f70_46 (3 : Int32).toNatClampNeg) &&& 31))) := ⟨_, rfl⟩
  rw [← hf128_54] at hP hD
  have hP : va_P D vwCl [((q 0), .inr (12, mObj q)), ((q 6), .inl ((k 6), 2, .inl (upd (fun _ => 0) 0 4))), ((q 7), .inl ((k 7), 2, .inl (upd (fun _ => 0) 0 4))), ((q 10), .inl ((k 10), 4, .inl f128_54)), ((q 11), .inl ((k 11), 16, .inl f70_46))] H := hP
  have hD : va_D A [((q 0), .inr (12, mObj q)), ((q 6), .inl ((k 6), 2, .inl (upd (fun _ => 0) 0 4))), ((q 7), .inl ((k 7), 2, .inl (upd (fun _ => 0) 0 4))), ((q 10), .inl ((k 10), 4, .inl f128_54)), ((q 11), .inl ((k 11), 16, .inl f70_46))] := hD
  refine lv_iinc (v := 4) (lv' := [(2, .int 4), (4, .int (f70_44 (1 : Int32).toNatClampNeg)), (3, .int (nI (lotv 2 p1 1))), (0, .ref (q 0)), (1, .int p1)]) hx hb dX12_deal_129 hl (k := 0) rfl (by decide) (by decide) rfl (fun ls hl => ?_)
  refine lv_goto (tgt := 99) hx hb dX12_deal_132 (by decide) ?_
  refine W.eq (g2 := F0 m 99 ls []) rfl ?_
  refine lv_iload_n hx hb dX12_deal_99 rfl (lv_at hl 0 rfl) ?_
  refine lv_aload_n hx hb dX12_deal_100 rfl (lv_at hl 3 rfl) ?_
  refine rd_V (As := []) (rest := [.int 4]) (d := 0) caV_SignalTableModel_351 hx hb hml hown hts (hP.sub [0, 1, 2] rfl) (hK.sub [0, 1] rfl) (wX12_cards q k g gl) (ci := 12) (q0 := 0) rfl rfl (by decide) rfl hl.1 (Nat.le_of_ble_eq_true rfl) (by decide) dX12_deal_101 rfl ?_
  refine lv_icmp_ge (tgt := 135) hx hb dX12_deal_104 (by decide) (fun h => absurd h (by decide)) (fun _ => ?_)
  refine lv_aload_n hx hb dX12_deal_107 rfl (lv_at hl 3 rfl) ?_
  refine va_get (D := D) (ci := 12) (v := .ref (q 10)) (C := RX12) (T := TX12) (N := 95) hx hb hts inX12 hown hK hP 0 rfl rfl 46 (by decide) (hts _ kw_1560) (fun _ h9 => h9) rfl dX12_deal_108 ?_
  refine lv_iload_n hx hb dX12_deal_111 rfl (lv_at hl 0 rfl) ?_
  refine lv_aload_n hx hb dX12_deal_112 rfl (lv_at hl 3 rfl) ?_
  refine rd_V (As := []) (rest := [.int 4, .ref (q 10)]) (d := 1) caV_SignalTableModel_365 hx hb hml hown hts (hP.sub [0, 1, 2] rfl) (hK.sub [0, 1] rfl) (wX12_handSize q k g gl) (ci := 12) (q0 := 0) rfl rfl (by decide) rfl hl.1 (Nat.le_of_ble_eq_true rfl) (by decide) dX12_deal_113 rfl ?_
  refine lv_idiv hx hb dX12_deal_116 (by decide) ?_
  refine z_i (v := 1) (by decide) ?_
  refine W.eq (g2 := F0 m 117 ls [.int 1, .ref (q 10)]) rfl ?_
  refine lv_dup2_11 hx hb dX12_deal_117 rfl rfl ?_
  refine va_iald hx hb hK hP 3 2 rfl rfl (z_in (by decide)) dX12_deal_118 ?_
  refine lv_iconst (v := 1) hx hb dX12_deal_119 (by decide) ?_
  refine lv_aload_n hx hb dX12_deal_120 rfl (lv_at hl 3 rfl) ?_
  refine va_get (D := D) (ci := 12) (v := .ref (q 11)) (C := RX12) (T := TX12) (N := 95) hx hb hts inX12 hown hK hP 0 rfl rfl 51 (by decide) (hts _ kw_1565) (fun _ h9 => h9) rfl dX12_deal_121 ?_
  refine lv_iload_n hx hb dX12_deal_124 rfl (lv_at hl 0 rfl) ?_
  refine va_iald hx hb hK hP 4 3 rfl rfl (z_in (by decide)) dX12_deal_125 ?_
  refine lv_ishl hx hb dX12_deal_126 ?_
  refine lv_ior hx hb dX12_deal_127 ?_
  refine va_iast hx hb hK hP hD hS 3 2 rfl rfl (z_in (by decide)) dX12_deal_128 (fun H locs hP hD hS => ?_)
  obtain ⟨f128_55, hf128_55⟩ : ∃ z, z = upd f128_54 ((1 : Int32).toNatClampNeg) ((f128_54 (1 : Int32).toNatClampNeg) ||| ((1 : Int32) <<< ((f70_46 (4 : Int32).toNatClampNeg) &&& 31))) := ⟨_, rfl⟩
  rw [← hf128_55] at hP hD
  have hP : va_P D vwCl [((q 0), .inr (12, mObj q)), ((q 6), .inl ((k 6), 2, .inl (upd (fun _ => 0) 0 4))), ((q 7), .inl ((k 7), 2, .inl (upd (fun _ => 0) 0 4))), ((q 10), .inl ((k 10), 4, .inl f128_55)), ((q 11), .inl ((k 11), 16, .inl f70_46))] H := hP
  have hD : va_D A [((q 0), .inr (12, mObj q)), ((q 6), .inl ((k 6), 2, .inl (upd (fun _ => 0) 0 4))), ((q 7), .inl ((k 7), 2, .inl (upd (fun _ => 0) 0 4))), ((q 10), .inl ((k 10), 4, .inl f128_55)), ((q 11), .inl ((k 11), 16, .inl f70_46))] := hD
  refine W.eq (g2 := F0 m 129 ls []) rfl ?_
  refine lv_iinc (v := 5) (lv' := [(2, .int 5), (4, .int (f70_44 (1 : Int32).toNatClampNeg)), (3, .int (nI (lotv 2 p1 1))), (0, .ref (q 0)), (1, .int p1)]) hx hb dX12_deal_129 hl (k := 0) rfl (by decide) (by decide) rfl (fun ls hl => ?_)
  refine lv_goto (tgt := 99) hx hb dX12_deal_132 (by decide) ?_
  refine lv_iload_n hx hb dX12_deal_99 rfl (lv_at hl 0 rfl) ?_
  refine lv_aload_n hx hb dX12_deal_100 rfl (lv_at hl 3 rfl) ?_
  refine rd_V (As := []) (rest := [.int 5]) (d := 0) caV_SignalTableModel_351 hx hb hml hown hts (hP.sub [0, 1, 2] rfl) (hK.sub [0, 1] rfl) (wX12_cards q k g gl) (ci := 12) (q0 := 0) rfl rfl (by decide) rfl hl.1 (Nat.le_of_ble_eq_true rfl) (by decide) dX12_deal_101 rfl ?_
  refine lv_icmp_ge (tgt := 135) hx hb dX12_deal_104 (by decide) (fun h => absurd h (by decide)) (fun _ => ?_)
  refine lv_aload_n hx hb dX12_deal_107 rfl (lv_at hl 3 rfl) ?_
  refine va_get (D := D) (ci := 12) (v := .ref (q 10)) (C := RX12) (T := TX12) (N := 95) hx hb hts inX12 hown hK hP 0 rfl rfl 46 (by decide) (hts _ kw_1560) (fun _ h9 => h9) rfl dX12_deal_108 ?_
  refine lv_iload_n hx hb dX12_deal_111 rfl (lv_at hl 0 rfl) ?_
  refine lv_aload_n hx hb dX12_deal_112 rfl (lv_at hl 3 rfl) ?_
  refine W.eq (g2 := F0 m 113 ls [.ref (q 0), .int 5, .ref (q 10)]) rfl ?_
  refine rd_V (As := []) (rest := [.int 5, .ref (q 10)]) (d := 1) caV_SignalTableModel_365 hx hb hml hown hts (hP.sub [0, 1, 2] rfl) (hK.sub [0, 1] rfl) (wX12_handSize q k g gl) (ci := 12) (q0 := 0) rfl rfl (by decide) rfl hl.1 (Nat.le_of_ble_eq_true rfl) (by decide) dX12_deal_113 rfl ?_
  refine lv_idiv hx hb dX12_deal_116 (by decide) ?_
  refine z_i (v := 1) (by decide) ?_
  refine lv_dup2_11 hx hb dX12_deal_117 rfl rfl ?_
  refine va_iald hx hb hK hP 3 2 rfl rfl (z_in (by decide)) dX12_deal_118 ?_
  refine lv_iconst (v := 1) hx hb dX12_deal_119 (by decide) ?_
  refine lv_aload_n hx hb dX12_deal_120 rfl (lv_at hl 3 rfl) ?_
  refine va_get (D := D) (ci := 12) (v := .ref (q 11)) (C := RX12) (T := TX12) (N := 95) hx hb hts inX12 hown hK hP 0 rfl rfl 51 (by decide) (hts _ kw_1565) (fun _ h9 => h9) rfl dX12_deal_121 ?_
  refine lv_iload_n hx hb dX12_deal_124 rfl (lv_at hl 0 rfl) ?_
  refine va_iald hx hb hK hP 4 3 rfl rfl (z_in (by decide)) dX12_deal_125 ?_
  refine lv_ishl hx hb dX12_deal_126 ?_
  refine W.eq (g2 := F0 m 127 ls [.int ((1 : Int32) <<< ((f70_46 (5 : Int32).toNatClampNeg) &&& 31)), .int (f128_55 (1 : Int32).toNatClampNeg), .int 1, .ref (q 10)]) rfl ?_
  refine lv_ior hx hb dX12_deal_127 ?_
  refine va_iast hx hb hK hP hD hS 3 2 rfl rfl (z_in (by decide)) dX12_deal_128 (fun H locs hP hD hS => ?_)
  obtain ⟨f128_56, hf128_56⟩ : ∃ z, z = upd f128_55 ((1 : Int32).toNatClampNeg) ((f128_55 (1 : Int32).toNatClampNeg) ||| ((1 : Int32) <<< ((f70_46 (5 : Int32).toNatClampNeg) &&& 31))) := ⟨_, rfl⟩
  rw [← hf128_56] at hP hD
  have hP : va_P D vwCl [((q 0), .inr (12, mObj q)), ((q 6), .inl ((k 6), 2, .inl (upd (fun _ => 0) 0 4))), ((q 7), .inl ((k 7), 2, .inl (upd (fun _ => 0) 0 4))), ((q 10), .inl ((k 10), 4, .inl f128_56)), ((q 11), .inl ((k 11), 16, .inl f70_46))] H := hP
  have hD : va_D A [((q 0), .inr (12, mObj q)), ((q 6), .inl ((k 6), 2, .inl (upd (fun _ => 0) 0 4))), ((q 7), .inl ((k 7), 2, .inl (upd (fun _ => 0) 0 4))), ((q 10), .inl ((k 10), 4, .inl f128_56)), ((q 11), .inl ((k 11), 16, .inl f70_46))] := hD
  refine lv_iinc (v := 6) (lv' := [(2, .int 6), (4, .int (f70_44 (1 : Int32).toNatClampNeg)), (3, .int (nI (lotv 2 p1 1))), (0, .ref (q 0)), (1, .int p1)]) hx hb dX12_deal_129 hl (k := 0) rfl (by decide) (by decide) rfl (fun ls hl => ?_)
  refine lv_goto (tgt := 99) hx hb dX12_deal_132 (by decide) ?_
  refine lv_iload_n hx hb dX12_deal_99 rfl (lv_at hl 0 rfl) ?_
  refine lv_aload_n hx hb dX12_deal_100 rfl (lv_at hl 3 rfl) ?_
  refine rd_V (As := []) (rest := [.int 6]) (d := 0) caV_SignalTableModel_351 hx hb hml hown hts (hP.sub [0, 1, 2] rfl) (hK.sub [0, 1] rfl) (wX12_cards q k g gl) (ci := 12) (q0 := 0) rfl rfl (by decide) rfl hl.1 (Nat.le_of_ble_eq_true rfl) (by decide) dX12_deal_101 rfl ?_
  refine lv_icmp_ge (tgt := 135) hx hb dX12_deal_104 (by decide) (fun h => absurd h (by decide)) (fun _ => ?_)
  refine lv_aload_n hx hb dX12_deal_107 rfl (lv_at hl 3 rfl) ?_
  refine va_get (D := D) (ci := 12) (v := .ref (q 10)) (C := RX12) (T := TX12) (N := 95) hx hb hts inX12 hown hK hP 0 rfl rfl 46 (by decide) (hts _ kw_1560) (fun _ h9 => h9) rfl dX12_deal_108 ?_
  refine W.eq (g2 := F0 m 111 ls [.ref (q 10)]) rfl ?_
  refine lv_iload_n hx hb dX12_deal_111 rfl (lv_at hl 0 rfl) ?_
  refine lv_aload_n hx hb dX12_deal_112 rfl (lv_at hl 3 rfl) ?_
  refine rd_V (As := []) (rest := [.int 6, .ref (q 10)]) (d := 1) caV_SignalTableModel_365 hx hb hml hown hts (hP.sub [0, 1, 2] rfl) (hK.sub [0, 1] rfl) (wX12_handSize q k g gl) (ci := 12) (q0 := 0) rfl rfl (by decide) rfl hl.1 (Nat.le_of_ble_eq_true rfl) (by decide) dX12_deal_113 rfl ?_
  refine lv_idiv hx hb dX12_deal_116 (by decide) ?_
  refine z_i (v := 1) (by decide) ?_
  refine lv_dup2_11 hx hb dX12_deal_117 rfl rfl ?_
  refine va_iald hx hb hK hP 3 2 rfl rfl (z_in (by decide)) dX12_deal_118 ?_
  refine lv_iconst (v := 1) hx hb dX12_deal_119 (by decide) ?_
  refine lv_aload_n hx hb dX12_deal_120 rfl (lv_at hl 3 rfl) ?_
  refine va_get (D := D) (ci := 12) (v := .ref (q 11)) (C := RX12) (T := TX12) (N := 95) hx hb hts inX12 hown hK hP 0 rfl rfl 51 (by decide) (hts _ kw_1565) (fun _ h9 => h9) rfl dX12_deal_121 ?_
  refine lv_iload_n hx hb dX12_deal_124 rfl (lv_at hl 0 rfl) ?_
  refine W.eq (g2 := F0 m 125 ls [.int 6, .ref (q 11), .int 1, .int (f128_56 (1 : Int32).toNatClampNeg), .int 1, .ref (q 10)]) rfl ?_
  refine va_iald hx hb hK hP 4 3 rfl rfl (z_in (by decide)) dX12_deal_125 ?_
  refine lv_ishl hx hb dX12_deal_126 ?_
  refine lv_ior hx hb dX12_deal_127 ?_
  refine va_iast hx hb hK hP hD hS 3 2 rfl rfl (z_in (by decide)) dX12_deal_128 (fun H locs hP hD hS => ?_)
  obtain ⟨f128_57, hf128_57⟩ : ∃ z, z = upd f128_56 ((1 : Int32).toNatClampNeg) ((f128_56 (1 : Int32).toNatClampNeg) ||| ((1 : Int32) <<< ((f70_46 (6 : Int32).toNatClampNeg) &&& 31))) := ⟨_, rfl⟩
  rw [← hf128_57] at hP hD
  have hP : va_P D vwCl [((q 0), .inr (12, mObj q)), ((q 6), .inl ((k 6), 2, .inl (upd (fun _ => 0) 0 4))), ((q 7), .inl ((k 7), 2, .inl (upd (fun _ => 0) 0 4))), ((q 10), .inl ((k 10), 4, .inl f128_57)), ((q 11), .inl ((k 11), 16, .inl f70_46))] H := hP
  have hD : va_D A [((q 0), .inr (12, mObj q)), ((q 6), .inl ((k 6), 2, .inl (upd (fun _ => 0) 0 4))), ((q 7), .inl ((k 7), 2, .inl (upd (fun _ => 0) 0 4))), ((q 10), .inl ((k 10), 4, .inl f128_57)), ((q 11), .inl ((k 11), 16, .inl f70_46))] := hD
  refine lv_iinc (v := 7) (lv' := [(2, .int 7), (4, .int (f70_44 (1 : Int32).toNatClampNeg)), (3, .int (nI (lotv 2 p1 1))), (0, .ref (q 0)), (1, .int p1)]) hx hb dX12_deal_129 hl (k := 0) rfl (by decide) (by decide) rfl (fun ls hl => ?_)
  refine lv_goto (tgt := 99) hx hb dX12_deal_132 (by decide) ?_
  refine lv_iload_n hx hb dX12_deal_99 rfl (lv_at hl 0 rfl) ?_
  refine lv_aload_n hx hb dX12_deal_100 rfl (lv_at hl 3 rfl) ?_
  refine rd_V (As := []) (rest := [.int 7]) (d := 0) caV_SignalTableModel_351 hx hb hml hown hts (hP.sub [0, 1, 2] rfl) (hK.sub [0, 1] rfl) (wX12_cards q k g gl) (ci := 12) (q0 := 0) rfl rfl (by decide) rfl hl.1 (Nat.le_of_ble_eq_true rfl) (by decide) dX12_deal_101 rfl ?_
  refine lv_icmp_ge (tgt := 135) hx hb dX12_deal_104 (by decide) (fun h => absurd h (by decide)) (fun _ => ?_)
  refine W.eq (g2 := F0 m 107 ls []) rfl ?_
  refine lv_aload_n hx hb dX12_deal_107 rfl (lv_at hl 3 rfl) ?_
  refine va_get (D := D) (ci := 12) (v := .ref (q 10)) (C := RX12) (T := TX12) (N := 95) hx hb hts inX12 hown hK hP 0 rfl rfl 46 (by decide) (hts _ kw_1560) (fun _ h9 => h9) rfl dX12_deal_108 ?_
  refine lv_iload_n hx hb dX12_deal_111 rfl (lv_at hl 0 rfl) ?_
  refine lv_aload_n hx hb dX12_deal_112 rfl (lv_at hl 3 rfl) ?_
  refine rd_V (As := []) (rest := [.int 7, .ref (q 10)]) (d := 1) caV_SignalTableModel_365 hx hb hml hown hts (hP.sub [0, 1, 2] rfl) (hK.sub [0, 1] rfl) (wX12_handSize q k g gl) (ci := 12) (q0 := 0) rfl rfl (by decide) rfl hl.1 (Nat.le_of_ble_eq_true rfl) (by decide) dX12_deal_113 rfl ?_
  refine lv_idiv hx hb dX12_deal_116 (by decide) ?_
  refine z_i (v := 1) (by decide) ?_
  refine lv_dup2_11 hx hb dX12_deal_117 rfl rfl ?_
  refine va_iald hx hb hK hP 3 2 rfl rfl (z_in (by decide)) dX12_deal_118 ?_
  refine lv_iconst (v := 1) hx hb dX12_deal_119 (by decide) ?_
  refine lv_aload_n hx hb dX12_deal_120 rfl (lv_at hl 3 rfl) ?_
  refine W.eq (g2 := F0 m 121 ls [.ref (q 0), .int 1, .int (f128_57 (1 : Int32).toNatClampNeg), .int 1, .ref (q 10)]) rfl ?_
  refine va_get (D := D) (ci := 12) (v := .ref (q 11)) (C := RX12) (T := TX12) (N := 95) hx hb hts inX12 hown hK hP 0 rfl rfl 51 (by decide) (hts _ kw_1565) (fun _ h9 => h9) rfl dX12_deal_121 ?_
  refine lv_iload_n hx hb dX12_deal_124 rfl (lv_at hl 0 rfl) ?_
  refine va_iald hx hb hK hP 4 3 rfl rfl (z_in (by decide)) dX12_deal_125 ?_
  refine lv_ishl hx hb dX12_deal_126 ?_
  refine lv_ior hx hb dX12_deal_127 ?_
  refine va_iast hx hb hK hP hD hS 3 2 rfl rfl (z_in (by decide)) dX12_deal_128 (fun H locs hP hD hS => ?_)
  obtain ⟨f128_58, hf128_58⟩ : ∃ z, z = upd f128_57 ((1 : Int32).toNatClampNeg) ((f128_57 (1 : Int32).toNatClampNeg) ||| ((1 : Int32) <<< ((f70_46 (7 : Int32).toNatClampNeg) &&& 31))) := ⟨_, rfl⟩
  rw [← hf128_58] at hP hD
  have hP : va_P D vwCl [((q 0), .inr (12, mObj q)), ((q 6), .inl ((k 6), 2, .inl (upd (fun _ => 0) 0 4))), ((q 7), .inl ((k 7), 2, .inl (upd (fun _ => 0) 0 4))), ((q 10), .inl ((k 10), 4, .inl f128_58)), ((q 11), .inl ((k 11), 16, .inl f70_46))] H := hP
  have hD : va_D A [((q 0), .inr (12, mObj q)), ((q 6), .inl ((k 6), 2, .inl (upd (fun _ => 0) 0 4))), ((q 7), .inl ((k 7), 2, .inl (upd (fun _ => 0) 0 4))), ((q 10), .inl ((k 10), 4, .inl f128_58)), ((q 11), .inl ((k 11), 16, .inl f70_46))] := hD
  refine lv_iinc (v := 8) (lv' := [(2, .int 8), (4, .int (f70_44 (1 : Int32).toNatClampNeg)), (3, .int (nI (lotv 2 p1 1))), (0, .ref (q 0)), (1, .int p1)]) hx hb dX12_deal_129 hl (k := 0) rfl (by decide) (by decide) rfl (fun ls hl => ?_)
  refine lv_goto (tgt := 99) hx hb dX12_deal_132 (by decide) ?_
  refine lv_iload_n hx hb dX12_deal_99 rfl (lv_at hl 0 rfl) ?_
  refine lv_aload_n hx hb dX12_deal_100 rfl (lv_at hl 3 rfl) ?_
  refine W.eq (g2 := F0 m 101 ls [.ref (q 0), .int 8]) rfl ?_
  refine rd_V (As := []) (rest := [.int 8]) (d := 0) caV_SignalTableModel_351 hx hb hml hown hts (hP.sub [0, 1, 2] rfl) (hK.sub [0, 1] rfl) (wX12_cards q k g gl) (ci := 12) (q0 := 0) rfl rfl (by decide) rfl hl.1 (Nat.le_of_ble_eq_true rfl) (by decide) dX12_deal_101 rfl ?_
  refine lv_icmp_ge (tgt := 135) hx hb dX12_deal_104 (by decide) (fun h => absurd h (by decide)) (fun _ => ?_)
  refine lv_aload_n hx hb dX12_deal_107 rfl (lv_at hl 3 rfl) ?_
  refine va_get (D := D) (ci := 12) (v := .ref (q 10)) (C := RX12) (T := TX12) (N := 95) hx hb hts inX12 hown hK hP 0 rfl rfl 46 (by decide) (hts _ kw_1560) (fun _ h9 => h9) rfl dX12_deal_108 ?_
  refine lv_iload_n hx hb dX12_deal_111 rfl (lv_at hl 0 rfl) ?_
  refine lv_aload_n hx hb dX12_deal_112 rfl (lv_at hl 3 rfl) ?_
  refine rd_V (As := []) (rest := [.int 8, .ref (q 10)]) (d := 1) caV_SignalTableModel_365 hx hb hml hown hts (hP.sub [0, 1, 2] rfl) (hK.sub [0, 1] rfl) (wX12_handSize q k g gl) (ci := 12) (q0 := 0) rfl rfl (by decide) rfl hl.1 (Nat.le_of_ble_eq_true rfl) (by decide) dX12_deal_113 rfl ?_
  refine lv_idiv hx hb dX12_deal_116 (by decide) ?_
  refine z_i (v := 2) (by decide) ?_
  refine lv_dup2_11 hx hb dX12_deal_117 rfl rfl ?_
  refine va_iald hx hb hK hP 3 2 rfl rfl (z_in (by decide)) dX12_deal_118 ?_
  refine W.eq (g2 := F0 m 119 ls [.int (f128_58 (2 : Int32).toNatClampNeg), .int 2, .ref (q 10)]) rfl ?_
  refine lv_iconst (v := 1) hx hb dX12_deal_119 (by decide) ?_
  refine lv_aload_n hx hb dX12_deal_120 rfl (lv_at hl 3 rfl) ?_
  refine va_get (D := D) (ci := 12) (v := .ref (q 11)) (C := RX12) (T := TX12) (N := 95) hx hb hts inX12 hown hK hP 0 rfl rfl 51 (by decide) (hts _ kw_1565) (fun _ h9 => h9) rfl dX12_deal_121 ?_
  refine lv_iload_n hx hb dX12_deal_124 rfl (lv_at hl 0 rfl) ?_
  refine va_iald hx hb hK hP 4 3 rfl rfl (z_in (by decide)) dX12_deal_125 ?_
  refine lv_ishl hx hb dX12_deal_126 ?_
  refine lv_ior hx hb dX12_deal_127 ?_
  refine va_iast hx hb hK hP hD hS 3 2 rfl rfl (z_in (by decide)) dX12_deal_128 (fun H locs hP hD hS => ?_)
  obtain ⟨f128_59, hf128_59⟩ : ∃ z, z = upd f128_58 ((2 : Int32).toNatClampNeg) ((f128_58 (2 : Int32).toNatClampNeg) ||| ((1 : Int32) <<< ((f70_46 (8 : Int32).toNatClampNeg) &&& 31))) := ⟨_, rfl⟩
  rw [← hf128_59] at hP hD
  have hP : va_P D vwCl [((q 0), .inr (12, mObj q)), ((q 6), .inl ((k 6), 2, .inl (upd (fun _ => 0) 0 4))), ((q 7), .inl ((k 7), 2, .inl (upd (fun _ => 0) 0 4))), ((q 10), .inl ((k 10), 4, .inl f128_59)), ((q 11), .inl ((k 11), 16, .inl f70_46))] H := hP
  have hD : va_D A [((q 0), .inr (12, mObj q)), ((q 6), .inl ((k 6), 2, .inl (upd (fun _ => 0) 0 4))), ((q 7), .inl ((k 7), 2, .inl (upd (fun _ => 0) 0 4))), ((q 10), .inl ((k 10), 4, .inl f128_59)), ((q 11), .inl ((k 11), 16, .inl f70_46))] := hD
  refine lv_iinc (v := 9) (lv' := [(2, .int 9), (4, .int (f70_44 (1 : Int32).toNatClampNeg)), (3, .int (nI (lotv 2 p1 1))), (0, .ref (q 0)), (1, .int p1)]) hx hb dX12_deal_129 hl (k := 0) rfl (by decide) (by decide) rfl (fun ls hl => ?_)
  refine lv_goto (tgt := 99) hx hb dX12_deal_132 (by decide) ?_
  refine W.eq (g2 := F0 m 99 ls []) rfl ?_
  refine lv_iload_n hx hb dX12_deal_99 rfl (lv_at hl 0 rfl) ?_
  refine lv_aload_n hx hb dX12_deal_100 rfl (lv_at hl 3 rfl) ?_
  refine rd_V (As := []) (rest := [.int 9]) (d := 0) caV_SignalTableModel_351 hx hb hml hown hts (hP.sub [0, 1, 2] rfl) (hK.sub [0, 1] rfl) (wX12_cards q k g gl) (ci := 12) (q0 := 0) rfl rfl (by decide) rfl hl.1 (Nat.le_of_ble_eq_true rfl) (by decide) dX12_deal_101 rfl ?_
  refine lv_icmp_ge (tgt := 135) hx hb dX12_deal_104 (by decide) (fun h => absurd h (by decide)) (fun _ => ?_)
  refine lv_aload_n hx hb dX12_deal_107 rfl (lv_at hl 3 rfl) ?_
  refine va_get (D := D) (ci := 12) (v := .ref (q 10)) (C := RX12) (T := TX12) (N := 95) hx hb hts inX12 hown hK hP 0 rfl rfl 46 (by decide) (hts _ kw_1560) (fun _ h9 => h9) rfl dX12_deal_108 ?_
  refine lv_iload_n hx hb dX12_deal_111 rfl (lv_at hl 0 rfl) ?_
  refine lv_aload_n hx hb dX12_deal_112 rfl (lv_at hl 3 rfl) ?_
  refine rd_V (As := []) (rest := [.int 9, .ref (q 10)]) (d := 1) caV_SignalTableModel_365 hx hb hml hown hts (hP.sub [0, 1, 2] rfl) (hK.sub [0, 1] rfl) (wX12_handSize q k g gl) (ci := 12) (q0 := 0) rfl rfl (by decide) rfl hl.1 (Nat.le_of_ble_eq_true rfl) (by decide) dX12_deal_113 rfl ?_
  refine lv_idiv hx hb dX12_deal_116 (by decide) ?_
  refine z_i (v := 2) (by decide) ?_
  refine W.eq (g2 := F0 m 117 ls [.int 2, .ref (q 10)]) rfl ?_
  refine lv_dup2_11 hx hb dX12_deal_117 rfl rfl ?_
  refine va_iald hx hb hK hP 3 2 rfl rfl (z_in (by decide)) dX12_deal_118 ?_
  refine lv_iconst (v := 1) hx hb dX12_deal_119 (by decide) ?_
  refine lv_aload_n hx hb dX12_deal_120 rfl (lv_at hl 3 rfl) ?_
  refine va_get (D := D) (ci := 12) (v := .ref (q 11)) (C := RX12) (T := TX12) (N := 95) hx hb hts inX12 hown hK hP 0 rfl rfl 51 (by decide) (hts _ kw_1565) (fun _ h9 => h9) rfl dX12_deal_121 ?_
  refine lv_iload_n hx hb dX12_deal_124 rfl (lv_at hl 0 rfl) ?_
  refine va_iald hx hb hK hP 4 3 rfl rfl (z_in (by decide)) dX12_deal_125 ?_
  refine lv_ishl hx hb dX12_deal_126 ?_
  refine lv_ior hx hb dX12_deal_127 ?_
  refine va_iast hx hb hK hP hD hS 3 2 rfl rfl (z_in (by decide)) dX12_deal_128 (fun H locs hP hD hS => ?_)
  obtain ⟨f128_60, hf128_60⟩ : ∃ z, z = upd f128_59 ((2 : Int32).toNatClampNeg) ((f128_59 (2 : Int32).toNatClampNeg) ||| ((1 : Int32) <<< ((f70_46 (9 : Int32).toNatClampNeg) &&& 31))) := ⟨_, rfl⟩
  rw [← hf128_60] at hP hD
  have hP : va_P D vwCl [((q 0), .inr (12, mObj q)), ((q 6), .inl ((k 6), 2, .inl (upd (fun _ => 0) 0 4))), ((q 7), .inl ((k 7), 2, .inl (upd (fun _ => 0) 0 4))), ((q 10), .inl ((k 10), 4, .inl f128_60)), ((q 11), .inl ((k 11), 16, .inl f70_46))] H := hP
  have hD : va_D A [((q 0), .inr (12, mObj q)), ((q 6), .inl ((k 6), 2, .inl (upd (fun _ => 0) 0 4))), ((q 7), .inl ((k 7), 2, .inl (upd (fun _ => 0) 0 4))), ((q 10), .inl ((k 10), 4, .inl f128_60)), ((q 11), .inl ((k 11), 16, .inl f70_46))] := hD
  refine W.eq (g2 := F0 m 129 ls []) rfl ?_
  refine lv_iinc (v := 10) (lv' := [(2, .int 10), (4, .int (f70_44 (1 : Int32).toNatClampNeg)), (3, .int (nI (lotv 2 p1 1))), (0, .ref (q 0)), (1, .int p1)]) hx hb dX12_deal_129 hl (k := 0) rfl (by decide) (by decide) rfl (fun ls hl => ?_)
  refine lv_goto (tgt := 99) hx hb dX12_deal_132 (by decide) ?_
  refine lv_iload_n hx hb dX12_deal_99 rfl (lv_at hl 0 rfl) ?_
  refine lv_aload_n hx hb dX12_deal_100 rfl (lv_at hl 3 rfl) ?_
  refine rd_V (As := []) (rest := [.int 10]) (d := 0) caV_SignalTableModel_351 hx hb hml hown hts (hP.sub [0, 1, 2] rfl) (hK.sub [0, 1] rfl) (wX12_cards q k g gl) (ci := 12) (q0 := 0) rfl rfl (by decide) rfl hl.1 (Nat.le_of_ble_eq_true rfl) (by decide) dX12_deal_101 rfl ?_
  refine lv_icmp_ge (tgt := 135) hx hb dX12_deal_104 (by decide) (fun h => absurd h (by decide)) (fun _ => ?_)
  refine lv_aload_n hx hb dX12_deal_107 rfl (lv_at hl 3 rfl) ?_
  refine va_get (D := D) (ci := 12) (v := .ref (q 10)) (C := RX12) (T := TX12) (N := 95) hx hb hts inX12 hown hK hP 0 rfl rfl 46 (by decide) (hts _ kw_1560) (fun _ h9 => h9) rfl dX12_deal_108 ?_
  refine lv_iload_n hx hb dX12_deal_111 rfl (lv_at hl 0 rfl) ?_
  refine lv_aload_n hx hb dX12_deal_112 rfl (lv_at hl 3 rfl) ?_
  refine W.eq (g2 := F0 m 113 ls [.ref (q 0), .int 10, .ref (q 10)]) rfl ?_
  refine rd_V (As := []) (rest := [.int 10, .ref (q 10)]) (d := 1) caV_SignalTableModel_365 hx hb hml hown hts (hP.sub [0, 1, 2] rfl) (hK.sub [0, 1] rfl) (wX12_handSize q k g gl) (ci := 12) (q0 := 0) rfl rfl (by decide) rfl hl.1 (Nat.le_of_ble_eq_true rfl) (by decide) dX12_deal_113 rfl ?_
  refine lv_idiv hx hb dX12_deal_116 (by decide) ?_
  refine z_i (v := 2) (by decide) ?_
  refine lv_dup2_11 hx hb dX12_deal_117 rfl rfl ?_
  refine va_iald hx hb hK hP 3 2 rfl rfl (z_in (by decide)) dX12_deal_118 ?_
  refine lv_iconst (v := 1) hx hb dX12_deal_119 (by decide) ?_
  refine lv_aload_n hx hb dX12_deal_120 rfl (lv_at hl 3 rfl) ?_
  refine va_get (D := D) (ci := 12) (v := .ref (q 11)) (C := RX12) (T := TX12) (N := 95) hx hb hts inX12 hown hK hP 0 rfl rfl 51 (by decide) (hts _ kw_1565) (fun _ h9 => h9) rfl dX12_deal_121 ?_
  refine lv_iload_n hx hb dX12_deal_124 rfl (lv_at hl 0 rfl) ?_
  refine va_iald hx hb hK hP 4 3 rfl rfl (z_in (by decide)) dX12_deal_125 ?_
  refine lv_ishl hx hb dX12_deal_126 ?_
  refine W.eq (g2 := F0 m 127 ls [.int ((1 : Int32) <<< ((f70_46 (10 : Int32).toNatClampNeg) &&& 31)), .int (f128_60 (2 : Int32).toNatClampNeg), .int 2, .ref (q 10)]) rfl ?_
  refine lv_ior hx hb dX12_deal_127 ?_
  refine va_iast hx hb hK hP hD hS 3 2 rfl rfl (z_in (by decide)) dX12_deal_128 (fun H locs hP hD hS => ?_)
  obtain ⟨f128_61, hf128_61⟩ : ∃ z, z = upd f128_60 ((2 : Int32).toNatClampNeg) ((f128_60 (2 : Int32).toNatClampNeg) ||| ((1 : Int32) <<< ((f70_46 (10 : Int32).toNatClampNeg) &&& 31))) := ⟨_, rfl⟩
  rw [← hf128_61] at hP hD
  have hP : va_P D vwCl [((q 0), .inr (12, mObj q)), ((q 6), .inl ((k 6), 2, .inl (upd (fun _ => 0) 0 4))), ((q 7), .inl ((k 7), 2, .inl (upd (fun _ => 0) 0 4))), ((q 10), .inl ((k 10), 4, .inl f128_61)), ((q 11), .inl ((k 11), 16, .inl f70_46))] H := hP
  have hD : va_D A [((q 0), .inr (12, mObj q)), ((q 6), .inl ((k 6), 2, .inl (upd (fun _ => 0) 0 4))), ((q 7), .inl ((k 7), 2, .inl (upd (fun _ => 0) 0 4))), ((q 10), .inl ((k 10), 4, .inl f128_61)), ((q 11), .inl ((k 11), 16, .inl f70_46))] := hD
  refine lv_iinc (v := 11) (lv' := [(2, .int 11), (4, .int (f70_44 (1 : Int32).toNatClampNeg)), (3, .int (nI (lotv 2 p1 1))), (0, .ref (q 0)), (1, .int p1)]) hx hb dX12_deal_129 hl (k := 0) rfl (by decide) (by decide) rfl (fun ls hl => ?_)
  refine lv_goto (tgt := 99) hx hb dX12_deal_132 (by decide) ?_
  refine lv_iload_n hx hb dX12_deal_99 rfl (lv_at hl 0 rfl) ?_
  refine lv_aload_n hx hb dX12_deal_100 rfl (lv_at hl 3 rfl) ?_
  refine rd_V (As := []) (rest := [.int 11]) (d := 0) caV_SignalTableModel_351 hx hb hml hown hts (hP.sub [0, 1, 2] rfl) (hK.sub [0, 1] rfl) (wX12_cards q k g gl) (ci := 12) (q0 := 0) rfl rfl (by decide) rfl hl.1 (Nat.le_of_ble_eq_true rfl) (by decide) dX12_deal_101 rfl ?_
  refine lv_icmp_ge (tgt := 135) hx hb dX12_deal_104 (by decide) (fun h => absurd h (by decide)) (fun _ => ?_)
  refine lv_aload_n hx hb dX12_deal_107 rfl (lv_at hl 3 rfl) ?_
  refine va_get (D := D) (ci := 12) (v := .ref (q 10)) (C := RX12) (T := TX12) (N := 95) hx hb hts inX12 hown hK hP 0 rfl rfl 46 (by decide) (hts _ kw_1560) (fun _ h9 => h9) rfl dX12_deal_108 ?_
  refine W.eq (g2 := F0 m 111 ls [.ref (q 10)]) rfl ?_
  refine lv_iload_n hx hb dX12_deal_111 rfl (lv_at hl 0 rfl) ?_
  refine lv_aload_n hx hb dX12_deal_112 rfl (lv_at hl 3 rfl) ?_
  refine rd_V (As := []) (rest := [.int 11, .ref (q 10)]) (d := 1) caV_SignalTableModel_365 hx hb hml hown hts (hP.sub [0, 1, 2] rfl) (hK.sub [0, 1] rfl) (wX12_handSize q k g gl) (ci := 12) (q0 := 0) rfl rfl (by decide) rfl hl.1 (Nat.le_of_ble_eq_true rfl) (by decide) dX12_deal_113 rfl ?_
  refine lv_idiv hx hb dX12_deal_116 (by decide) ?_
  refine z_i (v := 2) (by decide) ?_
  refine lv_dup2_11 hx hb dX12_deal_117 rfl rfl ?_
  refine va_iald hx hb hK hP 3 2 rfl rfl (z_in (by decide)) dX12_deal_118 ?_
  refine lv_iconst (v := 1) hx hb dX12_deal_119 (by decide) ?_
  refine lv_aload_n hx hb dX12_deal_120 rfl (lv_at hl 3 rfl) ?_
  refine va_get (D := D) (ci := 12) (v := .ref (q 11)) (C := RX12) (T := TX12) (N := 95) hx hb hts inX12 hown hK hP 0 rfl rfl 51 (by decide) (hts _ kw_1565) (fun _ h9 => h9) rfl dX12_deal_121 ?_
  refine lv_iload_n hx hb dX12_deal_124 rfl (lv_at hl 0 rfl) ?_
  refine W.eq (g2 := F0 m 125 ls [.int 11, .ref (q 11), .int 1, .int (f128_61 (2 : Int32).toNatClampNeg), .int 2, .ref (q 10)]) rfl ?_
  refine va_iald hx hb hK hP 4 3 rfl rfl (z_in (by decide)) dX12_deal_125 ?_
  refine lv_ishl hx hb dX12_deal_126 ?_
  refine lv_ior hx hb dX12_deal_127 ?_
  refine va_iast hx hb hK hP hD hS 3 2 rfl rfl (z_in (by decide)) dX12_deal_128 (fun H locs hP hD hS => ?_)
  obtain ⟨f128_62, hf128_62⟩ : ∃ z, z = upd f128_61 ((2 : Int32).toNatClampNeg) ((f128_61 (2 : Int32).toNatClampNeg) ||| ((1 : Int32) <<< ((f70_46 (11 : Int32).toNatClampNeg) &&& 31))) := ⟨_, rfl⟩
  rw [← hf128_62] at hP hD
  have hP : va_P D vwCl [((q 0), .inr (12, mObj q)), ((q 6), .inl ((k 6), 2, .inl (upd (fun _ => 0) 0 4))), ((q 7), .inl ((k 7), 2, .inl (upd (fun _ => 0) 0 4))), ((q 10), .inl ((k 10), 4, .inl f128_62)), ((q 11), .inl ((k 11), 16, .inl f70_46))] H := hP
  have hD : va_D A [((q 0), .inr (12, mObj q)), ((q 6), .inl ((k 6), 2, .inl (upd (fun _ => 0) 0 4))), ((q 7), .inl ((k 7), 2, .inl (upd (fun _ => 0) 0 4))), ((q 10), .inl ((k 10), 4, .inl f128_62)), ((q 11), .inl ((k 11), 16, .inl f70_46))] := hD
  refine lv_iinc (v := 12) (lv' := [(2, .int 12), (4, .int (f70_44 (1 : Int32).toNatClampNeg)), (3, .int (nI (lotv 2 p1 1))), (0, .ref (q 0)), (1, .int p1)]) hx hb dX12_deal_129 hl (k := 0) rfl (by decide) (by decide) rfl (fun ls hl => ?_)
  refine lv_goto (tgt := 99) hx hb dX12_deal_132 (by decide) ?_
  refine lv_iload_n hx hb dX12_deal_99 rfl (lv_at hl 0 rfl) ?_
  refine lv_aload_n hx hb dX12_deal_100 rfl (lv_at hl 3 rfl) ?_
  refine rd_V (As := []) (rest := [.int 12]) (d := 0) caV_SignalTableModel_351 hx hb hml hown hts (hP.sub [0, 1, 2] rfl) (hK.sub [0, 1] rfl) (wX12_cards q k g gl) (ci := 12) (q0 := 0) rfl rfl (by decide) rfl hl.1 (Nat.le_of_ble_eq_true rfl) (by decide) dX12_deal_101 rfl ?_
  refine lv_icmp_ge (tgt := 135) hx hb dX12_deal_104 (by decide) (fun h => absurd h (by decide)) (fun _ => ?_)
  refine W.eq (g2 := F0 m 107 ls []) rfl ?_
  refine lv_aload_n hx hb dX12_deal_107 rfl (lv_at hl 3 rfl) ?_
  refine va_get (D := D) (ci := 12) (v := .ref (q 10)) (C := RX12) (T := TX12) (N := 95) hx hb hts inX12 hown hK hP 0 rfl rfl 46 (by decide) (hts _ kw_1560) (fun _ h9 => h9) rfl dX12_deal_108 ?_
  refine lv_iload_n hx hb dX12_deal_111 rfl (lv_at hl 0 rfl) ?_
  refine lv_aload_n hx hb dX12_deal_112 rfl (lv_at hl 3 rfl) ?_
  refine rd_V (As := []) (rest := [.int 12, .ref (q 10)]) (d := 1) caV_SignalTableModel_365 hx hb hml hown hts (hP.sub [0, 1, 2] rfl) (hK.sub [0, 1] rfl) (wX12_handSize q k g gl) (ci := 12) (q0 := 0) rfl rfl (by decide) rfl hl.1 (Nat.le_of_ble_eq_true rfl) (by decide) dX12_deal_113 rfl ?_
  refine lv_idiv hx hb dX12_deal_116 (by decide) ?_
  refine z_i (v := 3) (by decide) ?_
  refine lv_dup2_11 hx hb dX12_deal_117 rfl rfl ?_
  refine va_iald hx hb hK hP 3 2 rfl rfl (z_in (by decide)) dX12_deal_118 ?_
  refine lv_iconst (v := 1) hx hb dX12_deal_119 (by decide) ?_
  refine lv_aload_n hx hb dX12_deal_120 rfl (lv_at hl 3 rfl) ?_
  refine W.eq (g2 := F0 m 121 ls [.ref (q 0), .int 1, .int (f128_62 (3 : Int32).toNatClampNeg), .int 3, .ref (q 10)]) rfl ?_
  refine va_get (D := D) (ci := 12) (v := .ref (q 11)) (C := RX12) (T := TX12) (N := 95) hx hb hts inX12 hown hK hP 0 rfl rfl 51 (by decide) (hts _ kw_1565) (fun _ h9 => h9) rfl dX12_deal_121 ?_
  refine lv_iload_n hx hb dX12_deal_124 rfl (lv_at hl 0 rfl) ?_
  refine va_iald hx hb hK hP 4 3 rfl rfl (z_in (by decide)) dX12_deal_125 ?_
  refine lv_ishl hx hb dX12_deal_126 ?_
  refine lv_ior hx hb dX12_deal_127 ?_
  refine va_iast hx hb hK hP hD hS 3 2 rfl rfl (z_in (by decide)) dX12_deal_128 (fun H locs hP hD hS => ?_)
  obtain ⟨f128_63, hf128_63⟩ : ∃ z, z = upd f128_62 ((3 : Int32).toNatClampNeg) ((f128_62 (3 : Int32).toNatClampNeg) ||| ((1 : Int32) <<< ((f70_46 (12 : Int32).toNatClampNeg) &&& 31))) := ⟨_, rfl⟩
  rw [← hf128_63] at hP hD
  have hP : va_P D vwCl [((q 0), .inr (12, mObj q)), ((q 6), .inl ((k 6), 2, .inl (upd (fun _ => 0) 0 4))), ((q 7), .inl ((k 7), 2, .inl (upd (fun _ => 0) 0 4))), ((q 10), .inl ((k 10), 4, .inl f128_63)), ((q 11), .inl ((k 11), 16, .inl f70_46))] H := hP
  have hD : va_D A [((q 0), .inr (12, mObj q)), ((q 6), .inl ((k 6), 2, .inl (upd (fun _ => 0) 0 4))), ((q 7), .inl ((k 7), 2, .inl (upd (fun _ => 0) 0 4))), ((q 10), .inl ((k 10), 4, .inl f128_63)), ((q 11), .inl ((k 11), 16, .inl f70_46))] := hD
  refine lv_iinc (v := 13) (lv' := [(2, .int 13), (4, .int (f70_44 (1 : Int32).toNatClampNeg)), (3, .int (nI (lotv 2 p1 1))), (0, .ref (q 0)), (1, .int p1)]) hx hb dX12_deal_129 hl (k := 0) rfl (by decide) (by decide) rfl (fun ls hl => ?_)
  refine lv_goto (tgt := 99) hx hb dX12_deal_132 (by decide) ?_
  refine lv_iload_n hx hb dX12_deal_99 rfl (lv_at hl 0 rfl) ?_
  refine lv_aload_n hx hb dX12_deal_100 rfl (lv_at hl 3 rfl) ?_
  refine W.eq (g2 := F0 m 101 ls [.ref (q 0), .int 13]) rfl ?_
  refine rd_V (As := []) (rest := [.int 13]) (d := 0) caV_SignalTableModel_351 hx hb hml hown hts (hP.sub [0, 1, 2] rfl) (hK.sub [0, 1] rfl) (wX12_cards q k g gl) (ci := 12) (q0 := 0) rfl rfl (by decide) rfl hl.1 (Nat.le_of_ble_eq_true rfl) (by decide) dX12_deal_101 rfl ?_
  refine lv_icmp_ge (tgt := 135) hx hb dX12_deal_104 (by decide) (fun h => absurd h (by decide)) (fun _ => ?_)
  refine lv_aload_n hx hb dX12_deal_107 rfl (lv_at hl 3 rfl) ?_
  refine va_get (D := D) (ci := 12) (v := .ref (q 10)) (C := RX12) (T := TX12) (N := 95) hx hb hts inX12 hown hK hP 0 rfl rfl 46 (by decide) (hts _ kw_1560) (fun _ h9 => h9) rfl dX12_deal_108 ?_
  refine lv_iload_n hx hb dX12_deal_111 rfl (lv_at hl 0 rfl) ?_
  refine lv_aload_n hx hb dX12_deal_112 rfl (lv_at hl 3 rfl) ?_
  refine rd_V (As := []) (rest := [.int 13, .ref (q 10)]) (d := 1) caV_SignalTableModel_365 hx hb hml hown hts (hP.sub [0, 1, 2] rfl) (hK.sub [0, 1] rfl) (wX12_handSize q k g gl) (ci := 12) (q0 := 0) rfl rfl (by decide) rfl hl.1 (Nat.le_of_ble_eq_true rfl) (by decide) dX12_deal_113 rfl ?_
  refine lv_idiv hx hb dX12_deal_116 (by decide) ?_
  refine z_i (v := 3) (by decide) ?_
  refine lv_dup2_11 hx hb dX12_deal_117 rfl rfl ?_
  refine va_iald hx hb hK hP 3 2 rfl rfl (z_in (by decide)) dX12_deal_118 ?_
  refine W.eq (g2 := F0 m 119 ls [.int (f128_63 (3 : Int32).toNatClampNeg), .int 3, .ref (q 10)]) rfl ?_
  refine lv_iconst (v := 1) hx hb dX12_deal_119 (by decide) ?_
  refine lv_aload_n hx hb dX12_deal_120 rfl (lv_at hl 3 rfl) ?_
  refine va_get (D := D) (ci := 12) (v := .ref (q 11)) (C := RX12) (T := TX12) (N := 95) hx hb hts inX12 hown hK hP 0 rfl rfl 51 (by decide) (hts _ kw_1565) (fun _ h9 => h9) rfl dX12_deal_121 ?_
  refine lv_iload_n hx hb dX12_deal_124 rfl (lv_at hl 0 rfl) ?_
  refine va_iald hx hb hK hP 4 3 rfl rfl (z_in (by decide)) dX12_deal_125 ?_
  refine lv_ishl hx hb dX12_deal_126 ?_
  refine lv_ior hx hb dX12_deal_127 ?_
  refine va_iast hx hb hK hP hD hS 3 2 rfl rfl (z_in (by decide)) dX12_deal_128 (fun H locs hP hD hS => ?_)
  obtain ⟨f128_64, hf128_64⟩ : ∃ z, z = upd f128_63 ((3 : Int32).toNatClampNeg) ((f128_63 (3 : Int32).toNatClampNeg) ||| ((1 : Int32) <<< ((f70_46 (13 : Int32).toNatClampNeg) &&& 31))) := ⟨_, rfl⟩
  rw [← hf128_64] at hP hD
  have hP : va_P D vwCl [((q 0), .inr (12, mObj q)), ((q 6), .inl ((k 6), 2, .inl (upd (fun _ => 0) 0 4))), ((q 7), .inl ((k 7), 2, .inl (upd (fun _ => 0) 0 4))), ((q 10), .inl ((k 10), 4, .inl f128_64)), ((q 11), .inl ((k 11), 16, .inl f70_46))] H := hP
  have hD : va_D A [((q 0), .inr (12, mObj q)), ((q 6), .inl ((k 6), 2, .inl (upd (fun _ => 0) 0 4))), ((q 7), .inl ((k 7), 2, .inl (upd (fun _ => 0) 0 4))), ((q 10), .inl ((k 10), 4, .inl f128_64)), ((q 11), .inl ((k 11), 16, .inl f70_46))] := hD
  refine lv_iinc (v := 14) (lv' := [(2, .int 14), (4, .int (f70_44 (1 : Int32).toNatClampNeg)), (3, .int (nI (lotv 2 p1 1))), (0, .ref (q 0)), (1, .int p1)]) hx hb dX12_deal_129 hl (k := 0) rfl (by decide) (by decide) rfl (fun ls hl => ?_)
  refine lv_goto (tgt := 99) hx hb dX12_deal_132 (by decide) ?_
  refine W.eq (g2 := F0 m 99 ls []) rfl ?_
  refine lv_iload_n hx hb dX12_deal_99 rfl (lv_at hl 0 rfl) ?_
  refine lv_aload_n hx hb dX12_deal_100 rfl (lv_at hl 3 rfl) ?_
  refine rd_V (As := []) (rest := [.int 14]) (d := 0) caV_SignalTableModel_351 hx hb hml hown hts (hP.sub [0, 1, 2] rfl) (hK.sub [0, 1] rfl) (wX12_cards q k g gl) (ci := 12) (q0 := 0) rfl rfl (by decide) rfl hl.1 (Nat.le_of_ble_eq_true rfl) (by decide) dX12_deal_101 rfl ?_
  refine lv_icmp_ge (tgt := 135) hx hb dX12_deal_104 (by decide) (fun h => absurd h (by decide)) (fun _ => ?_)
  refine lv_aload_n hx hb dX12_deal_107 rfl (lv_at hl 3 rfl) ?_
  refine va_get (D := D) (ci := 12) (v := .ref (q 10)) (C := RX12) (T := TX12) (N := 95) hx hb hts inX12 hown hK hP 0 rfl rfl 46 (by decide) (hts _ kw_1560) (fun _ h9 => h9) rfl dX12_deal_108 ?_
  refine lv_iload_n hx hb dX12_deal_111 rfl (lv_at hl 0 rfl) ?_
  refine lv_aload_n hx hb dX12_deal_112 rfl (lv_at hl 3 rfl) ?_
  refine rd_V (As := []) (rest := [.int 14, .ref (q 10)]) (d := 1) caV_SignalTableModel_365 hx hb hml hown hts (hP.sub [0, 1, 2] rfl) (hK.sub [0, 1] rfl) (wX12_handSize q k g gl) (ci := 12) (q0 := 0) rfl rfl (by decide) rfl hl.1 (Nat.le_of_ble_eq_true rfl) (by decide) dX12_deal_113 rfl ?_
  refine lv_idiv hx hb dX12_deal_116 (by decide) ?_
  refine z_i (v := 3) (by decide) ?_
  refine W.eq (g2 := F0 m 117 ls [.int 3, .ref (q 10)]) rfl ?_
  refine lv_dup2_11 hx hb dX12_deal_117 rfl rfl ?_
  refine va_iald hx hb hK hP 3 2 rfl rfl (z_in (by decide)) dX12_deal_118 ?_
  refine lv_iconst (v := 1) hx hb dX12_deal_119 (by decide) ?_
  refine lv_aload_n hx hb dX12_deal_120 rfl (lv_at hl 3 rfl) ?_
  refine va_get (D := D) (ci := 12) (v := .ref (q 11)) (C := RX12) (T := TX12) (N := 95) hx hb hts inX12 hown hK hP 0 rfl rfl 51 (by decide) (hts _ kw_1565) (fun _ h9 => h9) rfl dX12_deal_121 ?_
  refine lv_iload_n hx hb dX12_deal_124 rfl (lv_at hl 0 rfl) ?_
  refine va_iald hx hb hK hP 4 3 rfl rfl (z_in (by decide)) dX12_deal_125 ?_
  refine lv_ishl hx hb dX12_deal_126 ?_
  refine lv_ior hx hb dX12_deal_127 ?_
  refine va_iast hx hb hK hP hD hS 3 2 rfl rfl (z_in (by decide)) dX12_deal_128 (fun H locs hP hD hS => ?_)
  obtain ⟨f128_65, hf128_65⟩ : ∃ z, z = upd f128_64 ((3 : Int32).toNatClampNeg) ((f128_64 (3 : Int32).toNatClampNeg) ||| ((1 : Int32) <<< ((f70_46 (14 : Int32).toNatClampNeg) &&& 31))) := ⟨_, rfl⟩
  rw [← hf128_65] at hP hD
  have hP : va_P D vwCl [((q 0), .inr (12, mObj q)), ((q 6), .inl ((k 6), 2, .inl (upd (fun _ => 0) 0 4))), ((q 7), .inl ((k 7), 2, .inl (upd (fun _ => 0) 0 4))), ((q 10), .inl ((k 10), 4, .inl f128_65)), ((q 11), .inl ((k 11), 16, .inl f70_46))] H := hP
  have hD : va_D A [((q 0), .inr (12, mObj q)), ((q 6), .inl ((k 6), 2, .inl (upd (fun _ => 0) 0 4))), ((q 7), .inl ((k 7), 2, .inl (upd (fun _ => 0) 0 4))), ((q 10), .inl ((k 10), 4, .inl f128_65)), ((q 11), .inl ((k 11), 16, .inl f70_46))] := hD
  refine W.eq (g2 := F0 m 129 ls []) rfl ?_
  refine lv_iinc (v := 15) (lv' := [(2, .int 15), (4, .int (f70_44 (1 : Int32).toNatClampNeg)), (3, .int (nI (lotv 2 p1 1))), (0, .ref (q 0)), (1, .int p1)]) hx hb dX12_deal_129 hl (k := 0) rfl (by decide) (by decide) rfl (fun ls hl => ?_)
  refine lv_goto (tgt := 99) hx hb dX12_deal_132 (by decide) ?_
  refine lv_iload_n hx hb dX12_deal_99 rfl (lv_at hl 0 rfl) ?_
  refine lv_aload_n hx hb dX12_deal_100 rfl (lv_at hl 3 rfl) ?_
  refine rd_V (As := []) (rest := [.int 15]) (d := 0) caV_SignalTableModel_351 hx hb hml hown hts (hP.sub [0, 1, 2] rfl) (hK.sub [0, 1] rfl) (wX12_cards q k g gl) (ci := 12) (q0 := 0) rfl rfl (by decide) rfl hl.1 (Nat.le_of_ble_eq_true rfl) (by decide) dX12_deal_101 rfl ?_
  refine lv_icmp_ge (tgt := 135) hx hb dX12_deal_104 (by decide) (fun h => absurd h (by decide)) (fun _ => ?_)
  refine lv_aload_n hx hb dX12_deal_107 rfl (lv_at hl 3 rfl) ?_
  refine va_get (D := D) (ci := 12) (v := .ref (q 10)) (C := RX12) (T := TX12) (N := 95) hx hb hts inX12 hown hK hP 0 rfl rfl 46 (by decide) (hts _ kw_1560) (fun _ h9 => h9) rfl dX12_deal_108 ?_
  refine lv_iload_n hx hb dX12_deal_111 rfl (lv_at hl 0 rfl) ?_
  refine lv_aload_n hx hb dX12_deal_112 rfl (lv_at hl 3 rfl) ?_
  refine W.eq (g2 := F0 m 113 ls [.ref (q 0), .int 15, .ref (q 10)]) rfl ?_
  refine rd_V (As := []) (rest := [.int 15, .ref (q 10)]) (d := 1) caV_SignalTableModel_365 hx hb hml hown hts (hP.sub [0, 1, 2] rfl) (hK.sub [0, 1] rfl) (wX12_handSize q k g gl) (ci := 12) (q0 := 0) rfl rfl (by decide) rfl hl.1 (Nat.le_of_ble_eq_true rfl) (by decide) dX12_deal_113 rfl ?_
  refine lv_idiv hx hb dX12_deal_116 (by decide) ?_
  refine z_i (v := 3) (by decide) ?_
  refine lv_dup2_11 hx hb dX12_deal_117 rfl rfl ?_
  refine va_iald hx hb hK hP 3 2 rfl rfl (z_in (by decide)) dX12_deal_118 ?_
  refine lv_iconst (v := 1) hx hb dX12_deal_119 (by decide) ?_
  refine lv_aload_n hx hb dX12_deal_120 rfl (lv_at hl 3 rfl) ?_
  refine va_get (D := D) (ci := 12) (v := .ref (q 11)) (C := RX12) (T := TX12) (N := 95) hx hb hts inX12 hown hK hP 0 rfl rfl 51 (by decide) (hts _ kw_1565) (fun _ h9 => h9) rfl dX12_deal_121 ?_
  refine lv_iload_n hx hb dX12_deal_124 rfl (lv_at hl 0 rfl) ?_
  refine va_iald hx hb hK hP 4 3 rfl rfl (z_in (by decide)) dX12_deal_125 ?_
  refine lv_ishl hx hb dX12_deal_126 ?_
  refine W.eq (g2 := F0 m 127 ls [.int ((1 : Int32) <<< ((f70_46 (15 : Int32).toNatClampNeg) &&& 31)), .int (f128_65 (3 : Int32).toNatClampNeg), .int 3, .ref (q 10)]) rfl ?_
  refine lv_ior hx hb dX12_deal_127 ?_
  refine va_iast hx hb hK hP hD hS 3 2 rfl rfl (z_in (by decide)) dX12_deal_128 (fun H locs hP hD hS => ?_)
  obtain ⟨f128_66, hf128_66⟩ : ∃ z, z = upd f128_65 ((3 : Int32).toNatClampNeg) ((f128_65 (3 : Int32).toNatClampNeg) ||| ((1 : Int32) <<< ((f70_46 (15 : Int32).toNatClampNeg) &&& 31))) := ⟨_, rfl⟩
  rw [← hf128_66] at hP hD
  have hP : va_P D vwCl [((q 0), .inr (12, mObj q)), ((q 6), .inl ((k 6), 2, .inl (upd (fun _ => 0) 0 4))), ((q 7), .inl ((k 7), 2, .inl (upd (fun _ => 0) 0 4))), ((q 10), .inl ((k 10), 4, .inl f128_66)), ((q 11), .inl ((k 11), 16, .inl f70_46))] H := hP
  have hD : va_D A [((q 0), .inr (12, mObj q)), ((q 6), .inl ((k 6), 2, .inl (upd (fun _ => 0) 0 4))), ((q 7), .inl ((k 7), 2, .inl (upd (fun _ => 0) 0 4))), ((q 10), .inl ((k 10), 4, .inl f128_66)), ((q 11), .inl ((k 11), 16, .inl f70_46))] := hD
  refine lv_iinc (v := 16) (lv' := [(2, .int 16), (4, .int (f70_44 (1 : Int32).toNatClampNeg)), (3, .int (nI (lotv 2 p1 1))), (0, .ref (q 0)), (1, .int p1)]) hx hb dX12_deal_129 hl (k := 0) rfl (by decide) (by decide) rfl (fun ls hl => ?_)
  refine lv_goto (tgt := 99) hx hb dX12_deal_132 (by decide) ?_
  refine lv_iload_n hx hb dX12_deal_99 rfl (lv_at hl 0 rfl) ?_
  refine lv_aload_n hx hb dX12_deal_100 rfl (lv_at hl 3 rfl) ?_
  refine rd_V (As := []) (rest := [.int 16]) (d := 0) caV_SignalTableModel_351 hx hb hml hown hts (hP.sub [0, 1, 2] rfl) (hK.sub [0, 1] rfl) (wX12_cards q k g gl) (ci := 12) (q0 := 0) rfl rfl (by decide) rfl hl.1 (Nat.le_of_ble_eq_true rfl) (by decide) dX12_deal_101 rfl ?_
  refine lv_icmp_ge (tgt := 135) hx hb dX12_deal_104 (by decide) (fun _ => ?_) (fun h => absurd (by decide) h)
  refine lv_aload_n hx hb dX12_deal_135 rfl (lv_at hl 3 rfl) ?_
  refine wr_V (As := []) (rest := []) caV_SignalTableModel_368 hx hb hml hown hts hP hD hK hS hA (isC := [0]) (isR := [1, 2, 3, 4]) (isT := []) (wr := [((q 6), .inl ((k 6), 2, .inl (upd (fun _ => 0) 0 4))), ((q 7), .inl ((k 7), 2, .inl (upd (fun _ => 0) 0 4))), ((q 10), .inl ((k 10), 4, .inl f128_66)), ((q 11), .inl ((k 11), 16, .inl f70_46))]) ⟨rfl, rfl, rfl, rfl, by decide⟩ rfl (wX12_starts q k g gl) bl_T (fun _ _ _ => trivial) (ci := 12) (q0 := 0) rfl rfl (by decide) rfl hl.1 (Nat.le_of_ble_eq_true rfl) (by decide) dX12_deal_136 rfl (fun q67 k67 g67 l67 H locs hP hD hK hS => ?_)
  have hP : va_P D vwCl [((q 6), .inl ((k 6), 2, .inl (upd (fun _ => 0) 0 4))), ((q 7), .inl ((k 7), 2, .inl (upd (fun _ => 0) 0 4))), ((q 10), .inl ((k 10), 4, .inl f128_66)), ((q 11), .inl ((k 11), 16, .inl f70_46))] H := hP
  have hD : va_D A [((q 6), .inl ((k 6), 2, .inl (upd (fun _ => 0) 0 4))), ((q 7), .inl ((k 7), 2, .inl (upd (fun _ => 0) 0 4))), ((q 10), .inl ((k 10), 4, .inl f128_66)), ((q 11), .inl ((k 11), 16, .inl f70_46))] := hD
  have hK : va_K D vwCl [((k 6), .int), ((k 7), .int), ((k 10), .int), ((k 11), .int)] s := hK
  refine W.cs (cells' := 0) (slots' := 0) rfl rfl ?_
  refine W.eq (g2 := F0 m 139 ls []) rfl ?_
  refine lv_iconst (v := 1) hx hb dX12_deal_139 (by decide) ?_
  exact wr_z (q := (fun _ => 0)) (k := (fun _ => 0)) (g := (fun _ => fun _ => 0)) (gl := (fun _ => fun _ => 0)) hx hb hr hlocks rfl (rfl) hS (hP.sub [] rfl) (hK.sub [] rfl) (hD.sub [] (by decide) rfl) dX12_deal_140
