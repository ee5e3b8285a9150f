set_option maxHeartbeats 4000000 in
set_option maxRecDepth 100000 in
theorem rM_X12_in {l : Launch} {D : va_G} {q : Nat → Nat} {k : Nat → ClassId} {g : Nat → Nat → Int32} {gl : Nat → Nat → Int64} (p1 p2 p3 : Int32) : Rd l yX12_in cX12_in 3 (some .boolean) 0 D (wM q k g gl) (tyM k) [.int p1, .int p2, .int p3] (.int (if p2 ≤ p1 ∧ p1 ≤ p3 then 1 else 0)) := by
  refine Rd.of (by decide) (Nat.le_of_ble_eq_true rfl) ?_
  intro p e s m below meth c ls hx hb hr hml hown hts hlocks hP hK hl
  have hown : s.vm.findClass "SignalTableModel" = some m.cls := hown
  have hl : lv_has ls 3 [(0, .int p1), (1, .int p2), (2, .int p3)] := hl
  refine lv_iload_n hx hb dX12_in_0 rfl (lv_at hl 0 rfl) ?_
  refine lv_iload_n hx hb dX12_in_1 rfl (lv_at hl 1 rfl) ?_
  refine lv_icmp_lt (tgt := 14) hx hb dX12_in_2 (by decide) (fun c_1 => ?_) (fun c_1 => ?_)
  · skip
    refine lv_iconst (v := 0) hx hb dX12_in_14 (by decide) ?_
    exact rd_z hx hb hr hlocks rfl (congrArg Value.int (by by_cases s_1 : p2 ≤ p1 ∧ p1 ≤ p3 <;> simp only [s_1, if_true, if_false, and_self, not_false_eq_true, not_true_eq_false] <;> first | rfl | (exfalso; simp only [Int32.lt_iff_toInt_lt, Int32.le_iff_toInt_le, ← Int32.toInt_inj, ti_m2, ti_m1, ti_0, ti_1, ti_2, ti_3, ti_4, ti_5, ti_6, ti_7, ti_8, ti_10, ti_20] at s_1 c_1 <;> omega))) dX12_in_15
  · skip
    refine lv_iload_n hx hb dX12_in_5 rfl (lv_at hl 0 rfl) ?_
    refine lv_iload_n hx hb dX12_in_6 rfl (lv_at hl 2 rfl) ?_
    refine lv_icmp_gt (tgt := 14) hx hb dX12_in_7 (by decide) (fun c_2 => ?_) (fun c_2 => ?_)
    · skip
      refine lv_iconst (v := 0) hx hb dX12_in_14 (by decide) ?_
      exact rd_z hx hb hr hlocks rfl (congrArg Value.int (by by_cases s_1 : p2 ≤ p1 ∧ p1 ≤ p3 <;> simp only [s_1, if_true, if_false, and_self, not_false_eq_true, not_true_eq_false] <;> first | rfl | (exfalso; simp only [Int32.lt_iff_toInt_lt, Int32.le_iff_toInt_le, ← Int32.toInt_inj, ti_m2, ti_m1, ti_0, ti_1, ti_2, ti_3, ti_4, ti_5, ti_6, ti_7, ti_8, ti_10, ti_20] at s_1 c_1 c_2 <;> omega))) dX12_in_15
    · skip
      refine lv_iconst (v := 1) hx hb dX12_in_10 (by decide) ?_
      refine lv_goto (tgt := 15) hx hb dX12_in_11 (by decide) ?_
      exact rd_z hx hb hr hlocks rfl (congrArg Value.int (by by_cases s_1 : p2 ≤ p1 ∧ p1 ≤ p3 <;> simp only [s_1, if_true, if_false, and_self, not_false_eq_true, not_true_eq_false] <;> first | rfl | (exfalso; simp only [Int32.lt_iff_toInt_lt, Int32.le_iff_toInt_le, ← Int32.toInt_inj, ti_m2, ti_m1, ti_0, ti_1, ti_2, ti_3, ti_4, ti_5, ti_6, ti_7, ti_8, ti_10, ti_20] at s_1 c_1 c_2 <;> omega))) dX12_in_15
set_option maxHeartbeats 4000000 in
set_option maxRecDepth 100000 in
theorem rM_X12_cards {l : Launch} {D : va_G} {q : Nat → Nat} {k : Nat → ClassId} {g : Nat → Nat → Int32} {gl : Nat → Nat → Int64} : Rd l yX12_cards cX12_cards 1 (some .int) 0 D (wM q k g gl) (tyM k) [.ref (q 0)] (.int 16) := by
  refine Rd.of (by decide) (Nat.le_of_ble_eq_true rfl) ?_
  intro p e s m below meth c ls hx hb hr hml hown hts hlocks hP hK hl
  have hown : s.vm.findClass "SignalTableModel" = some m.cls := hown
  have hl : lv_has ls 1 [(0, .ref (q 0))] := hl
  refine lv_aload_n hx hb dX12_cards_0 rfl (lv_at hl 0 rfl) ?_
  refine va_get (D := D) (ci := 12) (v := .ref (q 6)) (C := RX12) (T := TX12) (N := 95) hx hb hts inX12 hown hK hP 0 rfl rfl 22 (by decide) (hts _ kw_1536) (fun _ h9 => h9) rfl dX12_cards_1 ?_
  refine lv_aload_n hx hb dX12_cards_4 rfl (lv_at hl 0 rfl) ?_
  refine va_get (D := D) (ci := 12) (v := .int 0) (C := RX12) (T := TX12) (N := 95) hx hb hts inX12 hown hK hP 0 rfl rfl 18 (by decide) (hts _ kw_1532) (fun _ h9 => h9) rfl dX12_cards_5 ?_
  refine va_iald hx hb hK hP 6 5 rfl rfl (z_in (by decide)) dX12_cards_8 ?_
  refine z_i (v := 4) (by rfl) ?_
  refine lv_aload_n hx hb dX12_cards_9 rfl (lv_at hl 0 rfl) ?_
  refine va_get (D := D) (ci := 12) (v := .ref (q 7)) (C := RX12) (T := TX12) (N := 95) hx hb hts inX12 hown hK hP 0 rfl rfl 23 (by decide) (hts _ kw_1537) (fun _ h9 => h9) rfl dX12_cards_10 ?_
  refine lv_aload_n hx hb dX12_cards_13 rfl (lv_at hl 0 rfl) ?_
  refine va_get (D := D) (ci := 12) (v := .int 0) (C := RX12) (T := TX12) (N := 95) hx hb hts inX12 hown hK hP 0 rfl rfl 18 (by decide) (hts _ kw_1532) (fun _ h9 => h9) rfl dX12_cards_14 ?_
  refine va_iald hx hb hK hP 7 6 rfl rfl (z_in (by decide)) dX12_cards_17 ?_
  refine z_i (v := 4) (by rfl) ?_
  refine lv_imul hx hb dX12_cards_18 ?_
  refine z_i (v := 16) (by decide) ?_
  exact rd_i hx hb hr hlocks (rfl) dX12_cards_19
set_option maxHeartbeats 4000000 in
set_option maxRecDepth 100000 in
theorem rM_X12_handSize {l : Launch} {D : va_G} {q : Nat → Nat} {k : Nat → ClassId} {g : Nat → Nat → Int32} {gl : Nat → Nat → Int64} : Rd l yX12_handSize cX12_handSize 1 (some .int) 1 D (wM q k g gl) (tyM k) [.ref (q 0)] (.int 4) := by
  refine Rd.of (by decide) (Nat.le_of_ble_eq_true rfl) ?_
  intro p e s m below meth c ls hx hb hr hml hown hts hlocks hP hK hl
  have hown : s.vm.findClass "SignalTableModel" = some m.cls := hown
  have hl : lv_has ls 1 [(0, .ref (q 0))] := hl
  refine lv_aload_n hx hb dX12_handSize_0 rfl (lv_at hl 0 rfl) ?_
  refine rd_V (As := []) (rest := []) (d := 0) caV_SignalTableModel_351 hx hb hml hown hts hP hK (rM_X12_cards) (ci := 12) (q0 := 0) rfl rfl (by decide) rfl hl.1 (Nat.le_of_ble_eq_true rfl) (by decide) dX12_handSize_1 rfl ?_
  refine lv_iconst (v := 4) hx hb dX12_handSize_4 (by decide) ?_
  refine lv_idiv hx hb dX12_handSize_5 (by decide) ?_
  refine z_i (v := 4) (by decide) ?_
  exact rd_i hx hb hr hlocks (rfl) dX12_handSize_6
set_option maxHeartbeats 4000000 in
set_option maxRecDepth 100000 in
theorem rM_X12_trumpSuit {l : Launch} {D : va_G} {q : Nat → Nat} {k : Nat → ClassId} {g : Nat → Nat → Int32} {gl : Nat → Nat → Int64} : Rd l yX12_trumpSuit cX12_trumpSuit 1 (some .int) 0 D (wM q k g gl) (tyM k) [.ref (q 0)] (.int (-1)) := by
  refine Rd.of (by decide) (Nat.le_of_ble_eq_true rfl) ?_
  intro p e s m below meth c ls hx hb hr hml hown hts hlocks hP hK hl
  have hown : s.vm.findClass "SignalTableModel" = some m.cls := hown
  have hl : lv_has ls 1 [(0, .ref (q 0))] := hl
  refine lv_aload_n hx hb dX12_trumpSuit_0 rfl (lv_at hl 0 rfl) ?_
  refine va_get (D := D) (ci := 12) (v := .ref (q 8)) (C := RX12) (T := TX12) (N := 95) hx hb hts inX12 hown hK hP 0 rfl rfl 24 (by decide) (hts _ kw_1538) (fun _ h9 => h9) rfl dX12_trumpSuit_1 ?_
  refine lv_aload_n hx hb dX12_trumpSuit_4 rfl (lv_at hl 0 rfl) ?_
  refine va_get (D := D) (ci := 12) (v := .int 0) (C := RX12) (T := TX12) (N := 95) hx hb hts inX12 hown hK hP 0 rfl rfl 18 (by decide) (hts _ kw_1532) (fun _ h9 => h9) rfl dX12_trumpSuit_5 ?_
  refine va_iald hx hb hK hP 8 7 rfl rfl (z_in (by decide)) dX12_trumpSuit_8 ?_
  refine z_i (v := (-1)) (by rfl) ?_
  refine lv_aload_n hx hb dX12_trumpSuit_9 rfl (lv_at hl 0 rfl) ?_
  refine va_get (D := D) (ci := 12) (v := .ref (q 6)) (C := RX12) (T := TX12) (N := 95) hx hb hts inX12 hown hK hP 0 rfl rfl 22 (by decide) (hts _ kw_1536) (fun _ h9 => h9) rfl dX12_trumpSuit_10 ?_
  refine lv_aload_n hx hb dX12_trumpSuit_13 rfl (lv_at hl 0 rfl) ?_
  refine va_get (D := D) (ci := 12) (v := .int 0) (C := RX12) (T := TX12) (N := 95) hx hb hts inX12 hown hK hP 0 rfl rfl 18 (by decide) (hts _ kw_1532) (fun _ h9 => h9) rfl dX12_trumpSuit_14 ?_
  refine va_iald hx hb hK hP 6 5 rfl rfl (z_in (by decide)) dX12_trumpSuit_17 ?_
  refine z_i (v := 4) (by rfl) ?_
  refine lv_icmp_ge (tgt := 33) hx hb dX12_trumpSuit_18 (by decide) (fun h => absurd h (by decide)) (fun _ => ?_)
  refine lv_aload_n hx hb dX12_trumpSuit_21 rfl (lv_at hl 0 rfl) ?_
  refine va_get (D := D) (ci := 12) (v := .ref (q 8)) (C := RX12) (T := TX12) (N := 95) hx hb hts inX12 hown hK hP 0 rfl rfl 24 (by decide) (hts _ kw_1538) (fun _ h9 => h9) rfl dX12_trumpSuit_22 ?_
  refine lv_aload_n hx hb dX12_trumpSuit_25 rfl (lv_at hl 0 rfl) ?_
  refine va_get (D := D) (ci := 12) (v := .int 0) (C := RX12) (T := TX12) (N := 95) hx hb hts inX12 hown hK hP 0 rfl rfl 18 (by decide) (hts _ kw_1532) (fun _ h9 => h9) rfl dX12_trumpSuit_26 ?_
  refine va_iald hx hb hK hP 8 7 rfl rfl (z_in (by decide)) dX12_trumpSuit_29 ?_
  refine z_i (v := (-1)) (by rfl) ?_
  refine lv_goto (tgt := 34) hx hb dX12_trumpSuit_30 (by decide) ?_
  exact rd_i hx hb hr hlocks (rfl) dX12_trumpSuit_34
set_option maxHeartbeats 4000000 in
set_option maxRecDepth 100000 in
theorem rM_X12_areCustoms {l : Launch} {D : va_G} {q : Nat → Nat} {k : Nat → ClassId} {g : Nat → Nat → Int32} {gl : Nat → Nat → Int64} (p1 : Int32) : Rd l yX12_areCustoms cX12_areCustoms 2 (some .boolean) 1 D (wM q k g gl) (tyM k) [.ref (q 0), .int p1] (.int (if 0 ≤ p1 ∧ p1 ≤ 0 then 1 else 0)) := by
  refine Rd.of (by decide) (Nat.le_of_ble_eq_true rfl) ?_
  intro p e s m below meth c ls hx hb hr hml hown hts hlocks hP hK hl
  have hown : s.vm.findClass "SignalTableModel" = some m.cls := hown
  have hl : lv_has ls 2 [(0, .ref (q 0)), (1, .int p1)] := hl
  refine lv_iload_n hx hb dX12_areCustoms_0 rfl (lv_at hl 1 rfl) ?_
  refine lv_iconst (v := 0) hx hb dX12_areCustoms_1 (by decide) ?_
  refine lv_iconst (v := 1) hx hb dX12_areCustoms_2 (by decide) ?_
  refine lv_aload_n hx hb dX12_areCustoms_3 rfl (lv_at hl 0 rfl) ?_
  refine va_get (D := D) (ci := 12) (v := .ref (q 9)) (C := RX12) (T := TX12) (N := 95) hx hb hts inX12 hown hK hP 0 rfl rfl 25 (by decide) (hts _ kw_1539) (fun _ h9 => h9) rfl dX12_areCustoms_4 ?_
  refine lv_aload_n hx hb dX12_areCustoms_7 rfl (lv_at hl 0 rfl) ?_
  refine va_get (D := D) (ci := 12) (v := .int 0) (C := RX12) (T := TX12) (N := 95) hx hb hts inX12 hown hK hP 0 rfl rfl 18 (by decide) (hts _ kw_1532) (fun _ h9 => h9) rfl dX12_areCustoms_8 ?_
  refine va_iald hx hb hK hP 9 8 rfl rfl (z_in (by decide)) dX12_areCustoms_11 ?_
  refine z_i (v := 0) (by rfl) ?_
  refine lv_ishl hx hb dX12_areCustoms_12 ?_
  refine z_i (v := 1) (by decide) ?_
  refine lv_iconst (v := 1) hx hb dX12_areCustoms_13 (by decide) ?_
  refine lv_isub hx hb dX12_areCustoms_14 ?_
  refine z_i (v := 0) (by decide) ?_
  refine rd_S (As := [.int p1, .int 0, .int 0]) (rest := []) (d := 0) caS_SignalTableModel_310 hx hb hml hown hts hP hK (rM_X12_in p1 0 0) (by decide) rfl hl.1 (Nat.le_of_ble_eq_true rfl) (by decide) dX12_areCustoms_15 rfl ?_
  exact rd_z hx hb hr hlocks (by split <;> rfl) (rfl) dX12_areCustoms_18
set_option maxHeartbeats 4000000 in
set_option maxRecDepth 100000 in
theorem rM_X12_turnNow {l : Launch} {D : va_G} {q : Nat → Nat} {k : Nat → ClassId} {g : Nat → Nat → Int32} {gl : Nat → Nat → Int64} : Rd l yX12_turnNow cX12_turnNow 1 (some .int) 0 D (wM q k g gl) (tyM k) [.ref (q 0)] (.int (-2)) := by
  refine Rd.of (by decide) (Nat.le_of_ble_eq_true rfl) ?_
  intro p e s m below meth c ls hx hb hr hml hown hts hlocks hP hK hl
  have hown : s.vm.findClass "SignalTableModel" = some m.cls := hown
  have hl : lv_has ls 1 [(0, .ref (q 0))] := hl
  refine lv_aload_n hx hb dX12_turnNow_0 rfl (lv_at hl 0 rfl) ?_
  refine va_get (D := D) (ci := 12) (v := .int 0) (C := RX12) (T := TX12) (N := 95) hx hb hts inX12 hown hK hP 0 rfl rfl 45 (by decide) (hts _ kw_1559) (fun _ h9 => h9) rfl dX12_turnNow_1 ?_
  refine lv_if_eq (tgt := 18) hx hb dX12_turnNow_4 (by decide) (fun _ => ?_) (fun h => absurd (by decide) h)
  refine lv_bipush (v := (-2)) hx hb dX12_turnNow_18 (by decide) ?_
  exact rd_i hx hb hr hlocks (rfl) dX12_turnNow_20
set_option maxHeartbeats 4000000 in
set_option maxRecDepth 100000 in
theorem rM_X12_mayNow {l : Launch} {D : va_G} {q : Nat → Nat} {k : Nat → ClassId} {g : Nat → Nat → Int32} {gl : Nat → Nat → Int64} : Rd l yX12_mayNow cX12_mayNow 4 (some .int) 1 D (wM q k g gl) (tyM k) [.ref (q 0)] (.int 0) := by
  refine Rd.of (by decide) (Nat.le_of_ble_eq_true rfl) ?_
  intro p e s m below meth c ls hx hb hr hml hown hts hlocks hP hK hl
  have hown : s.vm.findClass "SignalTableModel" = some m.cls := hown
  have hl : lv_has ls 4 [(0, .ref (q 0))] := hl
  refine lv_aload_n hx hb dX12_mayNow_0 rfl (lv_at hl 0 rfl) ?_
  refine rd_V (As := []) (rest := []) (d := 0) caV_SignalTableModel_396 hx hb hml hown hts hP hK (rM_X12_turnNow) (ci := 12) (q0 := 0) rfl rfl (by decide) rfl hl.1 (Nat.le_of_ble_eq_true rfl) (by decide) dX12_mayNow_1 rfl ?_
  refine lv_istore_n (lv' := [(1, .int (-2)), (0, .ref (q 0))]) hx hb dX12_mayNow_4 rfl hl (by decide) rfl (fun ls hl => ?_)
  refine lv_iload_n hx hb dX12_mayNow_5 rfl (lv_at hl 0 rfl) ?_
  refine lv_if_ge (tgt := 11) hx hb dX12_mayNow_6 (by decide) (fun h => absurd h (by decide)) (fun _ => ?_)
  refine lv_iconst (v := 0) hx hb dX12_mayNow_9 (by decide) ?_
  exact rd_i hx hb hr hlocks (rfl) dX12_mayNow_10
set_option maxHeartbeats 4000000 in
set_option maxRecDepth 100000 in
theorem rM_X12_canPlay {l : Launch} {D : va_G} {q : Nat → Nat} {k : Nat → ClassId} {g : Nat → Nat → Int32} {gl : Nat → Nat → Int64} (p1 : Int32) : Rd l yX12_canPlay cX12_canPlay 3 (some .boolean) 1 D (wM q k g gl) (tyM k) [.ref (q 0), .int p1] (.int 0) := by
  refine Rd.of (by decide) (Nat.le_of_ble_eq_true rfl) ?_
  intro p e s m below meth c ls hx hb hr hml hown hts hlocks hP hK hl
  have hown : s.vm.findClass "SignalTableModel" = some m.cls := hown
  have hl : lv_has ls 3 [(0, .ref (q 0)), (1, .int p1)] := hl
  refine lv_aload_n hx hb dX12_canPlay_0 rfl (lv_at hl 0 rfl) ?_
  refine rd_V (As := []) (rest := []) (d := 0) caV_SignalTableModel_396 hx hb hml hown hts hP hK (rM_X12_turnNow) (ci := 12) (q0 := 0) rfl rfl (by decide) rfl hl.1 (Nat.le_of_ble_eq_true rfl) (by decide) dX12_canPlay_1 rfl ?_
  refine lv_istore_n (lv' := [(2, .int (-2)), (0, .ref (q 0)), (1, .int p1)]) hx hb dX12_canPlay_4 rfl hl (by decide) rfl (fun ls hl => ?_)
  refine lv_iload_n hx hb dX12_canPlay_5 rfl (lv_at hl 0 rfl) ?_
  refine lv_if_lt (tgt := 34) hx hb dX12_canPlay_6 (by decide) (fun _ => ?_) (fun h => absurd (by decide) h)
  refine lv_iconst (v := 0) hx hb dX12_canPlay_34 (by decide) ?_
  exact rd_z hx hb hr hlocks rfl (rfl) dX12_canPlay_35
set_option maxHeartbeats 4000000 in
set_option maxRecDepth 100000 in
theorem rM_X12_canAsk {l : Launch} {D : va_G} {q : Nat → Nat} {k : Nat → ClassId} {g : Nat → Nat → Int32} {gl : Nat → Nat → Int64} (p1 p2 : Int32) : Rd l yX12_canAsk cX12_canAsk 3 (some .boolean) 0 D (wM q k g gl) (tyM k) [.ref (q 0), .int p1, .int p2] (.int 0) := by
  refine Rd.of (by decide) (Nat.le_of_ble_eq_true rfl) ?_
  intro p e s m below meth c ls hx hb hr hml hown hts hlocks hP hK hl
  have hown : s.vm.findClass "SignalTableModel" = some m.cls := hown
  have hl : lv_has ls 3 [(0, .ref (q 0)), (1, .int p1), (2, .int p2)] := hl
  refine lv_aload_n hx hb dX12_canAsk_0 rfl (lv_at hl 0 rfl) ?_
  refine va_get (D := D) (ci := 12) (v := .int 0) (C := RX12) (T := TX12) (N := 95) hx hb hts inX12 hown hK hP 0 rfl rfl 45 (by decide) (hts _ kw_1559) (fun _ h9 => h9) rfl dX12_canAsk_1 ?_
  refine lv_if_eq (tgt := 26) hx hb dX12_canAsk_4 (by decide) (fun _ => ?_) (fun h => absurd (by decide) h)
  refine lv_iconst (v := 0) hx hb dX12_canAsk_26 (by decide) ?_
  exact rd_z hx hb hr hlocks rfl (rfl) dX12_canAsk_27
set_option maxHeartbeats 4000000 in
set_option maxRecDepth 100000 in
theorem rM_X12_canMean {l : Launch} {D : va_G} {q : Nat → Nat} {k : Nat → ClassId} {g : Nat → Nat → Int32} {gl : Nat → Nat → Int64} (p1 : Int32) : Rd l yX12_canMean cX12_canMean 2 (some .boolean) 1 D (wM q k g gl) (tyM k) [.ref (q 0), .int p1] (.int 0) := by
  refine Rd.of (by decide) (Nat.le_of_ble_eq_true rfl) ?_
  intro p e s m below meth c ls hx hb hr hml hown hts hlocks hP hK hl
  have hown : s.vm.findClass "SignalTableModel" = some m.cls := hown
  have hl : lv_has ls 2 [(0, .ref (q 0)), (1, .int p1)] := hl
  refine lv_aload_n hx hb dX12_canMean_0 rfl (lv_at hl 0 rfl) ?_
  refine rd_V (As := []) (rest := []) (d := 0) caV_SignalTableModel_396 hx hb hml hown hts hP hK (rM_X12_turnNow) (ci := 12) (q0 := 0) rfl rfl (by decide) rfl hl.1 (Nat.le_of_ble_eq_true rfl) (by decide) dX12_canMean_1 rfl ?_
  refine lv_if_lt (tgt := 19) hx hb dX12_canMean_4 (by decide) (fun _ => ?_) (fun h => absurd (by decide) h)
  refine lv_iconst (v := 0) hx hb dX12_canMean_19 (by decide) ?_
  exact rd_z hx hb hr hlocks rfl (rfl) dX12_canMean_20
set_option maxHeartbeats 4000000 in
set_option maxRecDepth 100000 in
theorem rM_X12_canGain {l : Launch} {D : va_G} {q : Nat → Nat} {k : Nat → ClassId} {g : Nat → Nat → Int32} {gl : Nat → Nat → Int64} (p1 : Int32) : Rd l yX12_canGain cX12_canGain 2 (some .boolean) 1 D (wM q k g gl) (tyM k) [.ref (q 0), .int p1] (.int 0) := by
  refine Rd.of (by decide) (Nat.le_of_ble_eq_true rfl) ?_
  intro p e s m below meth c ls hx hb hr hml hown hts hlocks hP hK hl
  have hown : s.vm.findClass "SignalTableModel" = some m.cls := hown
  have hl : lv_has ls 2 [(0, .ref (q 0)), (1, .int p1)] := hl
  refine lv_iload_n hx hb dX12_canGain_0 rfl (lv_at hl 1 rfl) ?_
  refine lv_iconst (v := 1) hx hb dX12_canGain_1 (by decide) ?_
  refine lv_bipush (v := 20) hx hb dX12_canGain_2 (by decide) ?_
  refine rd_S (As := [.int p1, .int 1, .int 20]) (rest := []) (d := 0) caS_SignalTableModel_310 hx hb hml hown hts hP hK (rM_X12_in p1 1 20) (by decide) rfl hl.1 (Nat.le_of_ble_eq_true rfl) (by decide) dX12_canGain_4 rfl ?_
  refine lv_if_eq (tgt := 23) hx hb dX12_canGain_7 (by decide) (fun c_1 => ?_) (fun c_1 => ?_)
  · skip
    have c_1 := z_if0 c_1
    refine lv_iconst (v := 0) hx hb dX12_canGain_23 (by decide) ?_
    exact rd_z hx hb hr hlocks rfl (rfl) dX12_canGain_24
  · skip
    have c_1 := z_ifn c_1
    refine lv_aload_n hx hb dX12_canGain_10 rfl (lv_at hl 0 rfl) ?_
    refine rd_V (As := []) (rest := []) (d := 0) caV_SignalTableModel_351 hx hb hml hown hts hP hK (rM_X12_cards) (ci := 12) (q0 := 0) rfl rfl (by decide) rfl hl.1 (Nat.le_of_ble_eq_true rfl) (by decide) dX12_canGain_11 rfl ?_
    refine lv_bipush (v := 8) hx hb dX12_canGain_14 (by decide) ?_
    refine lv_icmp_ne (tgt := 23) hx hb dX12_canGain_16 (by decide) (fun _ => ?_) (fun h => absurd h (by decide))
    refine lv_iconst (v := 0) hx hb dX12_canGain_23 (by decide) ?_
    exact rd_z hx hb hr hlocks rfl (rfl) dX12_canGain_24
set_option maxHeartbeats 4000000 in
set_option maxRecDepth 100000 in
theorem rM_X12_isCustom {l : Launch} {D : va_G} {q : Nat → Nat} {k : Nat → ClassId} {g : Nat → Nat → Int32} {gl : Nat → Nat → Int64} (p1 : Int32) : Rd l yX12_isCustom cX12_isCustom 2 (some .boolean) 1 D (wM q k g gl) (tyM k) [.ref (q 0), .int p1] (.int 0) := by
  refine Rd.of (by decide) (Nat.le_of_ble_eq_true rfl) ?_
  intro p e s m below meth c ls hx hb hr hml hown hts hlocks hP hK hl
  have hown : s.vm.findClass "SignalTableModel" = some m.cls := hown
  have hl : lv_has ls 2 [(0, .ref (q 0)), (1, .int p1)] := hl
  refine lv_iload_n hx hb dX12_isCustom_0 rfl (lv_at hl 1 rfl) ?_
  refine lv_iconst (v := 0) hx hb dX12_isCustom_1 (by decide) ?_
  refine lv_aload_n hx hb dX12_isCustom_2 rfl (lv_at hl 0 rfl) ?_
  refine va_get (D := D) (ci := 12) (v := .ref (q 9)) (C := RX12) (T := TX12) (N := 95) hx hb hts inX12 hown hK hP 0 rfl rfl 25 (by decide) (hts _ kw_1539) (fun _ h9 => h9) rfl dX12_isCustom_3 ?_
  refine lv_aload_n hx hb dX12_isCustom_6 rfl (lv_at hl 0 rfl) ?_
  refine va_get (D := D) (ci := 12) (v := .int 0) (C := RX12) (T := TX12) (N := 95) hx hb hts inX12 hown hK hP 0 rfl rfl 18 (by decide) (hts _ kw_1532) (fun _ h9 => h9) rfl dX12_isCustom_7 ?_
  refine va_iald hx hb hK hP 9 8 rfl rfl (z_in (by decide)) dX12_isCustom_10 ?_
  refine z_i (v := 0) (by rfl) ?_
  refine lv_iconst (v := 1) hx hb dX12_isCustom_11 (by decide) ?_
  refine lv_isub hx hb dX12_isCustom_12 ?_
  refine z_i (v := (-1)) (by decide) ?_
  refine rd_S (As := [.int p1, .int 0, .int (-1)]) (rest := []) (d := 0) caS_SignalTableModel_310 hx hb hml hown hts hP hK (rM_X12_in p1 0 (-1)) (by decide) rfl hl.1 (Nat.le_of_ble_eq_true rfl) (by decide) dX12_isCustom_13 rfl ?_
  exact rd_z hx hb hr hlocks (by split <;> rfl) (congrArg Value.int (by by_cases s_1 : 0 ≤ p1 ∧ p1 ≤ (-1) <;> simp only [s_1, if_true, if_false, and_self, not_false_eq_true, not_true_eq_false] <;> first | rfl | (exfalso; simp only [Int32.lt_iff_toInt_lt, Int32.le_iff_toInt_le, ← Int32.toInt_inj, ti_m2, ti_m1, ti_0, ti_1, ti_2, ti_3, ti_4, ti_5, ti_6, ti_7, ti_8, ti_10, ti_20] at s_1 <;> omega))) dX12_isCustom_16
set_option maxHeartbeats 4000000 in
set_option maxRecDepth 100000 in
theorem rM_X12_place {l : Launch} {D : va_G} {q : Nat → Nat} {k : Nat → ClassId} {g : Nat → Nat → Int32} {gl : Nat → Nat → Int64} : Rd l yX12_place cX12_place 1 (some .int) 0 D (wM q k g gl) (tyM k) [.ref (q 0)] (.int (-1)) := by
  refine Rd.of (by decide) (Nat.le_of_ble_eq_true rfl) ?_
  intro p e s m below meth c ls hx hb hr hml hown hts hlocks hP hK hl
  have hown : s.vm.findClass "SignalTableModel" = some m.cls := hown
  have hl : lv_has ls 1 [(0, .ref (q 0))] := hl
  refine lv_aload_n hx hb dX12_place_0 rfl (lv_at hl 0 rfl) ?_
  refine va_get (D := D) (ci := 12) (v := .int (-1)) (C := RX12) (T := TX12) (N := 95) hx hb hts inX12 hown hK hP 0 rfl rfl 17 (by decide) (hts _ kw_1531) (fun _ h9 => h9) rfl dX12_place_1 ?_
  exact rd_i hx hb hr hlocks (rfl) dX12_place_4
set_option maxHeartbeats 4000000 in
set_option maxRecDepth 100000 in
theorem rM_X12_lead {l : Launch} {D : va_G} {q : Nat → Nat} {k : Nat → ClassId} {g : Nat → Nat → Int32} {gl : Nat → Nat → Int64} (p1 : Int32) : Rd l yX12_lead cX12_lead 2 (some .boolean) 0 D (wM q k g gl) (tyM k) [.ref (q 0), .int p1] (.int 0) := by
  refine Rd.of (by decide) (Nat.le_of_ble_eq_true rfl) ?_
  intro p e s m below meth c ls hx hb hr hml hown hts hlocks hP hK hl
  have hown : s.vm.findClass "SignalTableModel" = some m.cls := hown
  have hl : lv_has ls 2 [(0, .ref (q 0)), (1, .int p1)] := hl
  refine lv_aload_n hx hb dX12_lead_0 rfl (lv_at hl 0 rfl) ?_
  refine va_get (D := D) (ci := 12) (v := .int 0) (C := RX12) (T := TX12) (N := 95) hx hb hts inX12 hown hK hP 0 rfl rfl 45 (by decide) (hts _ kw_1559) (fun _ h9 => h9) rfl dX12_lead_1 ?_
  refine lv_if_eq (tgt := 21) hx hb dX12_lead_4 (by decide) (fun _ => ?_) (fun h => absurd (by decide) h)
  refine lv_iconst (v := 0) hx hb dX12_lead_21 (by decide) ?_
  exact rd_z hx hb hr hlocks rfl (rfl) dX12_lead_22
set_option maxHeartbeats 4000000 in
set_option maxRecDepth 100000 in
theorem rM_X12_hand {l : Launch} {D : va_G} {q : Nat → Nat} {k : Nat → ClassId} {g : Nat → Nat → Int32} {gl : Nat → Nat → Int64} (p1 p2 : Int32) : Rd l yX12_hand cX12_hand 3 (some .int) 0 D (wM q k g gl) (tyM k) [.ref (q 0), .int p1, .int p2] (.int (-1)) := by
  refine Rd.of (by decide) (Nat.le_of_ble_eq_true rfl) ?_
  intro p e s m below meth c ls hx hb hr hml hown hts hlocks hP hK hl
  have hown : s.vm.findClass "SignalTableModel" = some m.cls := hown
  have hl : lv_has ls 3 [(0, .ref (q 0)), (1, .int p1), (2, .int p2)] := hl
  refine lv_aload_n hx hb dX12_hand_0 rfl (lv_at hl 0 rfl) ?_
  refine va_get (D := D) (ci := 12) (v := .int 0) (C := RX12) (T := TX12) (N := 95) hx hb hts inX12 hown hK hP 0 rfl rfl 45 (by decide) (hts _ kw_1559) (fun _ h9 => h9) rfl dX12_hand_1 ?_
  refine lv_if_eq (tgt := 14) hx hb dX12_hand_4 (by decide) (fun _ => ?_) (fun h => absurd (by decide) h)
  refine lv_iconst (v := (-1)) hx hb dX12_hand_14 (by decide) ?_
  refine lv_goto (tgt := 36) hx hb dX12_hand_15 (by decide) ?_
  exact rd_i hx hb hr hlocks (rfl) dX12_hand_36
set_option maxHeartbeats 4000000 in
set_option maxRecDepth 100000 in
theorem rM_X12_turn {l : Launch} {D : va_G} {q : Nat → Nat} {k : Nat → ClassId} {g : Nat → Nat → Int32} {gl : Nat → Nat → Int64} : Rd l yX12_turn cX12_turn 1 (some .int) 1 D (wM q k g gl) (tyM k) [.ref (q 0)] (.int (-2)) := by
  refine Rd.of (by decide) (Nat.le_of_ble_eq_true rfl) ?_
  intro p e s m below meth c ls hx hb hr hml hown hts hlocks hP hK hl
  have hown : s.vm.findClass "SignalTableModel" = some m.cls := hown
  have hl : lv_has ls 1 [(0, .ref (q 0))] := hl
  refine lv_aload_n hx hb dX12_turn_0 rfl (lv_at hl 0 rfl) ?_
  refine rd_V (As := []) (rest := []) (d := 0) caV_SignalTableModel_396 hx hb hml hown hts hP hK (rM_X12_turnNow) (ci := 12) (q0 := 0) rfl rfl (by decide) rfl hl.1 (Nat.le_of_ble_eq_true rfl) (by decide) dX12_turn_1 rfl ?_
  exact rd_i hx hb hr hlocks (rfl) dX12_turn_4
set_option maxHeartbeats 4000000 in
set_option maxRecDepth 100000 in
theorem rM_X12_may {l : Launch} {D : va_G} {q : Nat → Nat} {k : Nat → ClassId} {g : Nat → Nat → Int32} {gl : Nat → Nat → Int64} : Rd l yX12_may cX12_may 1 (some .int) 2 D (wM q k g gl) (tyM k) [.ref (q 0)] (.int 0) := by
  refine Rd.of (by decide) (Nat.le_of_ble_eq_true rfl) ?_
  intro p e s m below meth c ls hx hb hr hml hown hts hlocks hP hK hl
  have hown : s.vm.findClass "SignalTableModel" = some m.cls := hown
  have hl : lv_has ls 1 [(0, .ref (q 0))] := hl
  refine lv_aload_n hx hb dX12_may_0 rfl (lv_at hl 0 rfl) ?_
  refine rd_V (As := []) (rest := []) (d := 1) caV_SignalTableModel_405 hx hb hml hown hts hP hK (rM_X12_mayNow) (ci := 12) (q0 := 0) rfl rfl (by decide) rfl hl.1 (Nat.le_of_ble_eq_true rfl) (by decide) dX12_may_1 rfl ?_
  exact rd_i hx hb hr hlocks (rfl) dX12_may_4
set_option maxHeartbeats 4000000 in
set_option maxRecDepth 100000 in
theorem rM_X12_play {l : Launch} {D : va_G} {q : Nat → Nat} {k : Nat → ClassId} {g : Nat → Nat → Int32} {gl : Nat → Nat → Int64} (p1 : Int32) : Rd l yX12_play cX12_play 2 (some .int) 2 D (wM q k g gl) (tyM k) [.ref (q 0), .int p1] (.int (-1)) := by
  refine Rd.of (by decide) (Nat.le_of_ble_eq_true rfl) ?_
  intro p e s m below meth c ls hx hb hr hml hown hts hlocks hP hK hl
  have hown : s.vm.findClass "SignalTableModel" = some m.cls := hown
  have hl : lv_has ls 2 [(0, .ref (q 0)), (1, .int p1)] := hl
  refine lv_aload_n hx hb dX12_play_0 rfl (lv_at hl 0 rfl) ?_
  refine lv_iload_n hx hb dX12_play_1 rfl (lv_at hl 1 rfl) ?_
  refine rd_V (As := [.int p1]) (rest := []) (d := 1) caV_SignalTableModel_411 hx hb hml hown hts hP hK (rM_X12_canPlay p1) (ci := 12) (q0 := 0) rfl rfl (by decide) rfl hl.1 (Nat.le_of_ble_eq_true rfl) (by decide) dX12_play_2 rfl ?_
  refine lv_if_ne (tgt := 10) hx hb dX12_play_5 (by decide) (fun h => absurd (by decide) h) (fun _ => ?_)
  refine lv_iconst (v := (-1)) hx hb dX12_play_8 (by decide) ?_
  exact rd_i hx hb hr hlocks (rfl) dX12_play_9
set_option maxHeartbeats 4000000 in
set_option maxRecDepth 100000 in
theorem rM_X12_revoke {l : Launch} {D : va_G} {q : Nat → Nat} {k : Nat → ClassId} {g : Nat → Nat → Int32} {gl : Nat → Nat → Int64} (p1 : Int32) : Rd l yX12_revoke cX12_revoke 2 (some .int) 2 D (wM q k g gl) (tyM k) [.ref (q 0), .int p1] (.int (-1)) := by
  refine Rd.of (by decide) (Nat.le_of_ble_eq_true rfl) ?_
  intro p e s m below meth c ls hx hb hr hml hown hts hlocks hP hK hl
  have hown : s.vm.findClass "SignalTableModel" = some m.cls := hown
  have hl : lv_has ls 2 [(0, .ref (q 0)), (1, .int p1)] := hl
  refine lv_aload_n hx hb dX12_revoke_0 rfl (lv_at hl 0 rfl) ?_
  refine lv_iload_n hx hb dX12_revoke_1 rfl (lv_at hl 1 rfl) ?_
  refine rd_V (As := [.int p1]) (rest := []) (d := 1) caV_SignalTableModel_411 hx hb hml hown hts hP hK (rM_X12_canPlay p1) (ci := 12) (q0 := 0) rfl rfl (by decide) rfl hl.1 (Nat.le_of_ble_eq_true rfl) (by decide) dX12_revoke_2 rfl ?_
  refine lv_if_eq (tgt := 20) hx hb dX12_revoke_5 (by decide) (fun _ => ?_) (fun h => absurd (by decide) h)
  refine lv_iconst (v := (-1)) hx hb dX12_revoke_20 (by decide) ?_
  exact rd_i hx hb hr hlocks (rfl) dX12_revoke_21
set_option maxHeartbeats 4000000 in
set_option maxRecDepth 100000 in
theorem rM_X12_undo {l : Launch} {D : va_G} {q : Nat → Nat} {k : Nat → ClassId} {g : Nat → Nat → Int32} {gl : Nat → Nat → Int64} : Rd l yX12_undo cX12_undo 1 (some .int) 0 D (wM q k g gl) (tyM k) [.ref (q 0)] (.int (-1)) := by
  refine Rd.of (by decide) (Nat.le_of_ble_eq_true rfl) ?_
  intro p e s m below meth c ls hx hb hr hml hown hts hlocks hP hK hl
  have hown : s.vm.findClass "SignalTableModel" = some m.cls := hown
  have hl : lv_has ls 1 [(0, .ref (q 0))] := hl
  refine lv_aload_n hx hb dX12_undo_0 rfl (lv_at hl 0 rfl) ?_
  refine va_get (D := D) (ci := 12) (v := .int 0) (C := RX12) (T := TX12) (N := 95) hx hb hts inX12 hown hK hP 0 rfl rfl 48 (by decide) (hts _ kw_1562) (fun _ h9 => h9) rfl dX12_undo_1 ?_
  refine lv_if_ne (tgt := 9) hx hb dX12_undo_4 (by decide) (fun h => absurd (by decide) h) (fun _ => ?_)
  refine lv_iconst (v := (-1)) hx hb dX12_undo_7 (by decide) ?_
  exact rd_i hx hb hr hlocks (rfl) dX12_undo_8
set_option maxHeartbeats 4000000 in
set_option maxRecDepth 100000 in
theorem rM_X12_card {l : Launch} {D : va_G} {q : Nat → Nat} {k : Nat → ClassId} {g : Nat → Nat → Int32} {gl : Nat → Nat → Int64} (p1 p2 : Int32) : Rd l yX12_card cX12_card 3 (some .int) 0 D (wM q k g gl) (tyM k) [.ref (q 0), .int p1, .int p2] (.int (-1)) := by
  refine Rd.of (by decide) (Nat.le_of_ble_eq_true rfl) ?_
  intro p e s m below meth c ls hx hb hr hml hown hts hlocks hP hK hl
  have hown : s.vm.findClass "SignalTableModel" = some m.cls := hown
  have hl : lv_has ls 3 [(0, .ref (q 0)), (1, .int p1), (2, .int p2)] := hl
  refine lv_aload_n hx hb dX12_card_0 rfl (lv_at hl 0 rfl) ?_
  refine va_get (D := D) (ci := 12) (v := .int 0) (C := RX12) (T := TX12) (N := 95) hx hb hts inX12 hown hK hP 0 rfl rfl 45 (by decide) (hts _ kw_1559) (fun _ h9 => h9) rfl dX12_card_1 ?_
  refine lv_if_eq (tgt := 21) hx hb dX12_card_4 (by decide) (fun _ => ?_) (fun h => absurd (by decide) h)
  refine lv_iconst (v := (-1)) hx hb dX12_card_21 (by decide) ?_
  exact rd_i hx hb hr hlocks (rfl) dX12_card_22
set_option maxHeartbeats 4000000 in
set_option maxRecDepth 100000 in
theorem rM_X12_tricks {l : Launch} {D : va_G} {q : Nat → Nat} {k : Nat → ClassId} {g : Nat → Nat → Int32} {gl : Nat → Nat → Int64} (p1 : Int32) : Rd l yX12_tricks cX12_tricks 4 (some .int) 1 D (wM q k g gl) (tyM k) [.ref (q 0), .int p1] (.int (if 0 ≤ p1 ∧ p1 ≤ 1 then 0 else (-1))) := by
  refine Rd.of (by decide) (Nat.le_of_ble_eq_true rfl) ?_
  intro p e s m below meth c ls hx hb hr hml hown hts hlocks hP hK hl
  have hown : s.vm.findClass "SignalTableModel" = some m.cls := hown
  have hl : lv_has ls 4 [(0, .ref (q 0)), (1, .int p1)] := hl
  refine lv_iload_n hx hb dX12_tricks_0 rfl (lv_at hl 1 rfl) ?_
  refine lv_iconst (v := 0) hx hb dX12_tricks_1 (by decide) ?_
  refine lv_iconst (v := 1) hx hb dX12_tricks_2 (by decide) ?_
  refine rd_S (As := [.int p1, .int 0, .int 1]) (rest := []) (d := 0) caS_SignalTableModel_310 hx hb hml hown hts hP hK (rM_X12_in p1 0 1) (by decide) rfl hl.1 (Nat.le_of_ble_eq_true rfl) (by decide) dX12_tricks_3 rfl ?_
  refine lv_if_ne (tgt := 11) hx hb dX12_tricks_6 (by decide) (fun c_1 => ?_) (fun c_1 => ?_)
  · skip
    have c_1 := z_ifn c_1
    refine lv_iconst (v := 0) hx hb dX12_tricks_11 (by decide) ?_
    refine lv_istore_n (lv' := [(2, .int 0), (0, .ref (q 0)), (1, .int p1)]) hx hb dX12_tricks_12 rfl hl (by decide) rfl (fun ls hl => ?_)
    refine lv_iconst (v := 0) hx hb dX12_tricks_13 (by decide) ?_
    refine lv_istore_n (lv' := [(3, .int 0), (2, .int 0), (0, .ref (q 0)), (1, .int p1)]) hx hb dX12_tricks_14 rfl hl (by decide) rfl (fun ls hl => ?_)
    refine lv_iload_n hx hb dX12_tricks_15 rfl (lv_at hl 0 rfl) ?_
    refine lv_aload_n hx hb dX12_tricks_16 rfl (lv_at hl 2 rfl) ?_
    refine va_get (D := D) (ci := 12) (v := .int 0) (C := RX12) (T := TX12) (N := 95) hx hb hts inX12 hown hK hP 0 rfl rfl 48 (by decide) (hts _ kw_1562) (fun _ h9 => h9) rfl dX12_tricks_17 ?_
    refine lv_iconst (v := 4) hx hb dX12_tricks_20 (by decide) ?_
    refine lv_idiv hx hb dX12_tricks_21 (by decide) ?_
    refine z_i (v := 0) (by decide) ?_
    refine lv_icmp_ge (tgt := 45) hx hb dX12_tricks_22 (by decide) (fun _ => ?_) (fun h => absurd (by decide) h)
    refine lv_iload_n hx hb dX12_tricks_45 rfl (lv_at hl 1 rfl) ?_
    exact rd_i hx hb hr hlocks (congrArg Value.int (by by_cases s_1 : 0 ≤ p1 ∧ p1 ≤ 1 <;> simp only [s_1, if_true, if_false, and_self, not_false_eq_true, not_true_eq_false] <;> first | rfl | (exfalso; simp only [Int32.lt_iff_toInt_lt, Int32.le_iff_toInt_le, ← Int32.toInt_inj, ti_m2, ti_m1, ti_0, ti_1, ti_2, ti_3, ti_4, ti_5, ti_6, ti_7, ti_8, ti_10, ti_20] at s_1 c_1 <;> omega))) dX12_tricks_46
  · skip
    have c_1 := z_if0 c_1
    refine lv_iconst (v := (-1)) hx hb dX12_tricks_9 (by decide) ?_
    exact rd_i hx hb hr hlocks (congrArg Value.int (by by_cases s_1 : 0 ≤ p1 ∧ p1 ≤ 1 <;> simp only [s_1, if_true, if_false, and_self, not_false_eq_true, not_true_eq_false] <;> first | rfl | (exfalso; simp only [Int32.lt_iff_toInt_lt, Int32.le_iff_toInt_le, ← Int32.toInt_inj, ti_m2, ti_m1, ti_0, ti_1, ti_2, ti_3, ti_4, ti_5, ti_6, ti_7, ti_8, ti_10, ti_20] at s_1 c_1 <;> omega))) dX12_tricks_10
set_option maxHeartbeats 4000000 in
set_option maxRecDepth 100000 in
theorem rM_X12_winner {l : Launch} {D : va_G} {q : Nat → Nat} {k : Nat → ClassId} {g : Nat → Nat → Int32} {gl : Nat → Nat → Int64} (p1 : Int32) : Rd l yX12_winner cX12_winner 2 (some .int) 1 D (wM q k g gl) (tyM k) [.ref (q 0), .int p1] (.int (-1)) := by
  refine Rd.of (by decide) (Nat.le_of_ble_eq_true rfl) ?_
  intro p e s m below meth c ls hx hb hr hml hown hts hlocks hP hK hl
  have hown : s.vm.findClass "SignalTableModel" = some m.cls := hown
  have hl : lv_has ls 2 [(0, .ref (q 0)), (1, .int p1)] := hl
  refine lv_iload_n hx hb dX12_winner_0 rfl (lv_at hl 1 rfl) ?_
  refine lv_iconst (v := 0) hx hb dX12_winner_1 (by decide) ?_
  refine lv_aload_n hx hb dX12_winner_2 rfl (lv_at hl 0 rfl) ?_
  refine va_get (D := D) (ci := 12) (v := .int 0) (C := RX12) (T := TX12) (N := 95) hx hb hts inX12 hown hK hP 0 rfl rfl 48 (by decide) (hts _ kw_1562) (fun _ h9 => h9) rfl dX12_winner_3 ?_
  refine lv_iconst (v := 4) hx hb dX12_winner_6 (by decide) ?_
  refine lv_idiv hx hb dX12_winner_7 (by decide) ?_
  refine z_i (v := 0) (by decide) ?_
  refine lv_iconst (v := 1) hx hb dX12_winner_8 (by decide) ?_
  refine lv_isub hx hb dX12_winner_9 ?_
  refine z_i (v := (-1)) (by decide) ?_
  refine rd_S (As := [.int p1, .int 0, .int (-1)]) (rest := []) (d := 0) caS_SignalTableModel_310 hx hb hml hown hts hP hK (rM_X12_in p1 0 (-1)) (by decide) rfl hl.1 (Nat.le_of_ble_eq_true rfl) (by decide) dX12_winner_10 rfl ?_
  refine lv_if_eq (tgt := 24) hx hb dX12_winner_13 (by decide) (fun c_1 => ?_) (fun c_1 => ?_)
  · skip
    have c_1 := z_if0 c_1
    refine lv_iconst (v := (-1)) hx hb dX12_winner_24 (by decide) ?_
    exact rd_i hx hb hr hlocks (rfl) dX12_winner_25
  · skip
    have c_1 := z_ifn c_1
    exfalso
    simp only [Int32.lt_iff_toInt_lt, Int32.le_iff_toInt_le, ← Int32.toInt_inj, ti_m2, ti_m1, ti_0, ti_1, ti_2, ti_3, ti_4, ti_5, ti_6, ti_7, ti_8, ti_10, ti_20] at c_1 <;> omega
set_option maxHeartbeats 4000000 in
set_option maxRecDepth 100000 in
theorem rM_X12_revokes {l : Launch} {D : va_G} {q : Nat → Nat} {k : Nat → ClassId} {g : Nat → Nat → Int32} {gl : Nat → Nat → Int64} (p1 : Int32) : Rd l yX12_revokes cX12_revokes 7 (some .int) 1 D (wM q k g gl) (tyM k) [.ref (q 0), .int p1] (.int (if 0 ≤ p1 ∧ p1 ≤ 1 then 0 else if p1 = 2 then -2 else -1)) := by
  refine Rd.of (by decide) (Nat.le_of_ble_eq_true rfl) ?_
  intro p e s m below meth c ls hx hb hr hml hown hts hlocks hP hK hl
  have hown : s.vm.findClass "SignalTableModel" = some m.cls := hown
  have hl : lv_has ls 7 [(0, .ref (q 0)), (1, .int p1)] := hl
  refine lv_iload_n hx hb dX12_revokes_0 rfl (lv_at hl 1 rfl) ?_
  refine lv_iconst (v := 0) hx hb dX12_revokes_1 (by decide) ?_
  refine lv_iconst (v := 2) hx hb dX12_revokes_2 (by decide) ?_
  refine rd_S (As := [.int p1, .int 0, .int 2]) (rest := []) (d := 0) caS_SignalTableModel_310 hx hb hml hown hts hP hK (rM_X12_in p1 0 2) (by decide) rfl hl.1 (Nat.le_of_ble_eq_true rfl) (by decide) dX12_revokes_3 rfl ?_
  refine lv_if_ne (tgt := 11) hx hb dX12_revokes_6 (by decide) (fun c_1 => ?_) (fun c_1 => ?_)
  · skip
    have c_1 := z_ifn c_1
    refine lv_iconst (v := 0) hx hb dX12_revokes_11 (by decide) ?_
    refine lv_istore_n (lv' := [(2, .int 0), (0, .ref (q 0)), (1, .int p1)]) hx hb dX12_revokes_12 rfl hl (by decide) rfl (fun ls hl => ?_)
    refine lv_iconst (v := 0) hx hb dX12_revokes_13 (by decide) ?_
    refine lv_istore_n (lv' := [(3, .int 0), (2, .int 0), (0, .ref (q 0)), (1, .int p1)]) hx hb dX12_revokes_14 rfl hl (by decide) rfl (fun ls hl => ?_)
    refine lv_bipush (v := (-2)) hx hb dX12_revokes_15 (by decide) ?_
    refine lv_istore (lv' := [(4, .int (-2)), (3, .int 0), (2, .int 0), (0, .ref (q 0)), (1, .int p1)]) hx hb dX12_revokes_17 hl (by decide) rfl (fun ls hl => ?_)
    refine lv_iconst (v := 0) hx hb dX12_revokes_19 (by decide) ?_
    refine lv_istore (lv' := [(5, .int 0), (4, .int (-2)), (3, .int 0), (2, .int 0), (0, .ref (q 0)), (1, .int p1)]) hx hb dX12_revokes_20 hl (by decide) rfl (fun ls hl => ?_)
    refine lv_iload hx hb dX12_revokes_22 (lv_at hl 0 rfl) ?_
    refine lv_aload_n hx hb dX12_revokes_24 rfl (lv_at hl 4 rfl) ?_
    refine va_get (D := D) (ci := 12) (v := .int 0) (C := RX12) (T := TX12) (N := 95) hx hb hts inX12 hown hK hP 0 rfl rfl 48 (by decide) (hts _ kw_1562) (fun _ h9 => h9) rfl dX12_revokes_25 ?_
    refine lv_icmp_ge (tgt := 91) hx hb dX12_revokes_28 (by decide) (fun _ => ?_) (fun h => absurd (by decide) h)
    refine lv_iload_n hx hb dX12_revokes_91 rfl (lv_at hl 5 rfl) ?_
    refine lv_if_ne (tgt := 99) hx hb dX12_revokes_92 (by decide) (fun c_2 => ?_) (fun c_2 => ?_)
    · skip
      refine lv_iload_n hx hb dX12_revokes_99 rfl (lv_at hl 5 rfl) ?_
      refine lv_iconst (v := 1) hx hb dX12_revokes_100 (by decide) ?_
      refine lv_icmp_ne (tgt := 108) hx hb dX12_revokes_101 (by decide) (fun c_3 => ?_) (fun c_3 => ?_)
      · skip
        refine lv_iload hx hb dX12_revokes_108 (lv_at hl 1 rfl) ?_
        exact rd_i hx hb hr hlocks (congrArg Value.int (by by_cases s_1 : 0 ≤ p1 ∧ p1 ≤ 1 <;> by_cases s_2 : p1 = 2 <;> simp only [s_1, s_2, if_true, if_false, and_self, not_false_eq_true, not_true_eq_false] <;> first | rfl | (exfalso; simp only [Int32.lt_iff_toInt_lt, Int32.le_iff_toInt_le, ← Int32.toInt_inj, ti_m2, ti_m1, ti_0, ti_1, ti_2, ti_3, ti_4, ti_5, ti_6, ti_7, ti_8, ti_10, ti_20] at s_1 s_2 c_1 c_2 c_3 <;> omega))) dX12_revokes_110
      · skip
        refine lv_iload_n hx hb dX12_revokes_104 rfl (lv_at hl 2 rfl) ?_
        refine lv_goto (tgt := 110) hx hb dX12_revokes_105 (by decide) ?_
        exact rd_i hx hb hr hlocks (congrArg Value.int (by by_cases s_1 : 0 ≤ p1 ∧ p1 ≤ 1 <;> by_cases s_2 : p1 = 2 <;> simp only [s_1, s_2, if_true, if_false, and_self, not_false_eq_true, not_true_eq_false] <;> first | rfl | (exfalso; simp only [Int32.lt_iff_toInt_lt, Int32.le_iff_toInt_le, ← Int32.toInt_inj, ti_m2, ti_m1, ti_0, ti_1, ti_2, ti_3, ti_4, ti_5, ti_6, ti_7, ti_8, ti_10, ti_20] at s_1 s_2 c_1 c_2 c_3 <;> omega))) dX12_revokes_110
    · skip
      refine lv_iload_n hx hb dX12_revokes_95 rfl (lv_at hl 3 rfl) ?_
      refine lv_goto (tgt := 110) hx hb dX12_revokes_96 (by decide) ?_
      exact rd_i hx hb hr hlocks (congrArg Value.int (by by_cases s_1 : 0 ≤ p1 ∧ p1 ≤ 1 <;> by_cases s_2 : p1 = 2 <;> simp only [s_1, s_2, if_true, if_false, and_self, not_false_eq_true, not_true_eq_false] <;> first | rfl | (exfalso; simp only [Int32.lt_iff_toInt_lt, Int32.le_iff_toInt_le, ← Int32.toInt_inj, ti_m2, ti_m1, ti_0, ti_1, ti_2, ti_3, ti_4, ti_5, ti_6, ti_7, ti_8, ti_10, ti_20] at s_1 s_2 c_1 c_2 <;> omega))) dX12_revokes_110
  · skip
    have c_1 := z_if0 c_1
    refine lv_iconst (v := (-1)) hx hb dX12_revokes_9 (by decide) ?_
    exact rd_i hx hb hr hlocks (congrArg Value.int (by by_cases s_1 : 0 ≤ p1 ∧ p1 ≤ 1 <;> by_cases s_2 : p1 = 2 <;> simp only [s_1, s_2, if_true, if_false, and_self, not_false_eq_true, not_true_eq_false] <;> first | rfl | (exfalso; simp only [Int32.lt_iff_toInt_lt, Int32.le_iff_toInt_le, ← Int32.toInt_inj, ti_m2, ti_m1, ti_0, ti_1, ti_2, ti_3, ti_4, ti_5, ti_6, ti_7, ti_8, ti_10, ti_20] at s_1 s_2 c_1 <;> omega))) dX12_revokes_10
set_option maxHeartbeats 4000000 in
set_option maxRecDepth 100000 in
theorem rM_X12_says {l : Launch} {D : va_G} {q : Nat → Nat} {k : Nat → ClassId} {g : Nat → Nat → Int32} {gl : Nat → Nat → Int64} (p1 p2 p3 : Int32) : Rd l yX12_says cX12_says 6 (some .int) 0 D (wM q k g gl) (tyM k) [.ref (q 0), .int p1, .int p2, .int p3] (.int (-1)) := by
  refine Rd.of (by decide) (Nat.le_of_ble_eq_true rfl) ?_
  intro p e s m below meth c ls hx hb hr hml hown hts hlocks hP hK hl
  have hown : s.vm.findClass "SignalTableModel" = some m.cls := hown
  have hl : lv_has ls 6 [(0, .ref (q 0)), (1, .int p1), (2, .int p2), (3, .int p3)] := hl
  refine lv_aload_n hx hb dX12_says_0 rfl (lv_at hl 0 rfl) ?_
  refine va_get (D := D) (ci := 12) (v := .int 0) (C := RX12) (T := TX12) (N := 95) hx hb hts inX12 hown hK hP 0 rfl rfl 45 (by decide) (hts _ kw_1559) (fun _ h9 => h9) rfl dX12_says_1 ?_
  refine lv_if_eq (tgt := 38) hx hb dX12_says_4 (by decide) (fun _ => ?_) (fun h => absurd (by decide) h)
  refine lv_iconst (v := (-1)) hx hb dX12_says_38 (by decide) ?_
  exact rd_i hx hb hr hlocks (rfl) dX12_says_39
set_option maxHeartbeats 4000000 in
set_option maxRecDepth 100000 in
theorem rM_X12_canBe {l : Launch} {D : va_G} {q : Nat → Nat} {k : Nat → ClassId} {g : Nat → Nat → Int32} {gl : Nat → Nat → Int64} (p1 p2 : Int32) : Rd l yX12_canBe cX12_canBe 3 (some .int) 1 D (wM q k g gl) (tyM k) [.ref (q 0), .int p1, .int p2] (.int (-1)) := by
  refine Rd.of (by decide) (Nat.le_of_ble_eq_true rfl) ?_
  intro p e s m below meth c ls hx hb hr hml hown hts hlocks hP hK hl
  have hown : s.vm.findClass "SignalTableModel" = some m.cls := hown
  have hl : lv_has ls 3 [(0, .ref (q 0)), (1, .int p1), (2, .int p2)] := hl
  refine lv_aload_n hx hb dX12_canBe_0 rfl (lv_at hl 0 rfl) ?_
  refine lv_iload_n hx hb dX12_canBe_1 rfl (lv_at hl 1 rfl) ?_
  refine lv_iload_n hx hb dX12_canBe_2 rfl (lv_at hl 2 rfl) ?_
  refine rd_V (As := [.int p1, .int p2]) (rest := []) (d := 0) caV_SignalTableModel_502 hx hb hml hown hts hP hK (rM_X12_canAsk p1 p2) (ci := 12) (q0 := 0) rfl rfl (by decide) rfl hl.1 (Nat.le_of_ble_eq_true rfl) (by decide) dX12_canBe_3 rfl ?_
  refine lv_if_eq (tgt := 22) hx hb dX12_canBe_6 (by decide) (fun _ => ?_) (fun h => absurd (by decide) h)
  refine lv_iconst (v := (-1)) hx hb dX12_canBe_22 (by decide) ?_
  exact rd_i hx hb hr hlocks (rfl) dX12_canBe_23
set_option maxHeartbeats 4000000 in
set_option maxRecDepth 100000 in
theorem rM_X12_after {l : Launch} {D : va_G} {q : Nat → Nat} {k : Nat → ClassId} {g : Nat → Nat → Int32} {gl : Nat → Nat → Int64} (p1 p2 p3 : Int32) : Rd l yX12_after cX12_after 4 (some .int) 1 D (wM q k g gl) (tyM k) [.ref (q 0), .int p1, .int p2, .int p3] (.int (-1)) := by
  refine Rd.of (by decide) (Nat.le_of_ble_eq_true rfl) ?_
  intro p e s m below meth c ls hx hb hr hml hown hts hlocks hP hK hl
  have hown : s.vm.findClass "SignalTableModel" = some m.cls := hown
  have hl : lv_has ls 4 [(0, .ref (q 0)), (1, .int p1), (2, .int p2), (3, .int p3)] := hl
  refine lv_aload_n hx hb dX12_after_0 rfl (lv_at hl 0 rfl) ?_
  refine lv_iload_n hx hb dX12_after_1 rfl (lv_at hl 1 rfl) ?_
  refine lv_iload_n hx hb dX12_after_2 rfl (lv_at hl 3 rfl) ?_
  refine rd_V (As := [.int p1, .int p3]) (rest := []) (d := 0) caV_SignalTableModel_502 hx hb hml hown hts hP hK (rM_X12_canAsk p1 p3) (ci := 12) (q0 := 0) rfl rfl (by decide) rfl hl.1 (Nat.le_of_ble_eq_true rfl) (by decide) dX12_after_3 rfl ?_
  refine lv_if_eq (tgt := 31) hx hb dX12_after_6 (by decide) (fun _ => ?_) (fun h => absurd (by decide) h)
  refine lv_iconst (v := (-1)) hx hb dX12_after_31 (by decide) ?_
  exact rd_i hx hb hr hlocks (rfl) dX12_after_32
set_option maxHeartbeats 4000000 in
set_option maxRecDepth 100000 in
theorem rM_X12_had {l : Launch} {D : va_G} {q : Nat → Nat} {k : Nat → ClassId} {g : Nat → Nat → Int32} {gl : Nat → Nat → Int64} (p1 p2 p3 p4 : Int32) : Rd l yX12_had cX12_had 6 (some .int) 1 D (wM q k g gl) (tyM k) [.ref (q 0), .int p1, .int p2, .int p3, .int p4] (.int (-1)) := by
  refine Rd.of (by decide) (Nat.le_of_ble_eq_true rfl) ?_
  intro p e s m below meth c ls hx hb hr hml hown hts hlocks hP hK hl
  have hown : s.vm.findClass "SignalTableModel" = some m.cls := hown
  have hl : lv_has ls 6 [(0, .ref (q 0)), (1, .int p1), (2, .int p2), (3, .int p3), (4, .int p4)] := hl
  refine lv_aload_n hx hb dX12_had_0 rfl (lv_at hl 0 rfl) ?_
  refine lv_iload_n hx hb dX12_had_1 rfl (lv_at hl 1 rfl) ?_
  refine lv_iload hx hb dX12_had_2 (lv_at hl 4 rfl) ?_
  refine rd_V (As := [.int p1, .int p4]) (rest := []) (d := 0) caV_SignalTableModel_502 hx hb hml hown hts hP hK (rM_X12_canAsk p1 p4) (ci := 12) (q0 := 0) rfl rfl (by decide) rfl hl.1 (Nat.le_of_ble_eq_true rfl) (by decide) dX12_had_4 rfl ?_
  refine lv_if_eq (tgt := 30) hx hb dX12_had_7 (by decide) (fun _ => ?_) (fun h => absurd (by decide) h)
  refine lv_iconst (v := (-1)) hx hb dX12_had_30 (by decide) ?_
  exact rd_i hx hb hr hlocks (rfl) dX12_had_31
set_option maxHeartbeats 4000000 in
set_option maxRecDepth 100000 in
theorem rM_X12_sure {l : Launch} {D : va_G} {q : Nat → Nat} {k : Nat → ClassId} {g : Nat → Nat → Int32} {gl : Nat → Nat → Int64} (p1 p2 : Int32) : Rd l yX12_sure cX12_sure 3 (some .int) 1 D (wM q k g gl) (tyM k) [.ref (q 0), .int p1, .int p2] (.int (-1)) := by
  refine Rd.of (by decide) (Nat.le_of_ble_eq_true rfl) ?_
  intro p e s m below meth c ls hx hb hr hml hown hts hlocks hP hK hl
  have hown : s.vm.findClass "SignalTableModel" = some m.cls := hown
  have hl : lv_has ls 3 [(0, .ref (q 0)), (1, .int p1), (2, .int p2)] := hl
  refine lv_aload_n hx hb dX12_sure_0 rfl (lv_at hl 0 rfl) ?_
  refine lv_iload_n hx hb dX12_sure_1 rfl (lv_at hl 1 rfl) ?_
  refine lv_iload_n hx hb dX12_sure_2 rfl (lv_at hl 2 rfl) ?_
  refine rd_V (As := [.int p1, .int p2]) (rest := []) (d := 0) caV_SignalTableModel_502 hx hb hml hown hts hP hK (rM_X12_canAsk p1 p2) (ci := 12) (q0 := 0) rfl rfl (by decide) rfl hl.1 (Nat.le_of_ble_eq_true rfl) (by decide) dX12_sure_3 rfl ?_
  refine lv_if_ne (tgt := 11) hx hb dX12_sure_6 (by decide) (fun h => absurd (by decide) h) (fun _ => ?_)
  refine lv_iconst (v := (-1)) hx hb dX12_sure_9 (by decide) ?_
  exact rd_i hx hb hr hlocks (rfl) dX12_sure_10
set_option maxHeartbeats 4000000 in
set_option maxRecDepth 100000 in
theorem rM_X12_knows {l : Launch} {D : va_G} {q : Nat → Nat} {k : Nat → ClassId} {g : Nat → Nat → Int32} {gl : Nat → Nat → Int64} (p1 p2 p3 p4 : Int32) : Rd l yX12_knows cX12_knows 8 (some .int) 1 D (wM q k g gl) (tyM k) [.ref (q 0), .int p1, .int p2, .int p3, .int p4] (.int (-1)) := by
  refine Rd.of (by decide) (Nat.le_of_ble_eq_true rfl) ?_
  intro p e s m below meth c ls hx hb hr hml hown hts hlocks hP hK hl
  have hown : s.vm.findClass "SignalTableModel" = some m.cls := hown
  have hl : lv_has ls 8 [(0, .ref (q 0)), (1, .int p1), (2, .int p2), (3, .int p3), (4, .int p4)] := hl
  refine lv_aload_n hx hb dX12_knows_0 rfl (lv_at hl 0 rfl) ?_
  refine lv_iload_n hx hb dX12_knows_1 rfl (lv_at hl 1 rfl) ?_
  refine lv_iload hx hb dX12_knows_2 (lv_at hl 4 rfl) ?_
  refine rd_V (As := [.int p1, .int p4]) (rest := []) (d := 0) caV_SignalTableModel_502 hx hb hml hown hts hP hK (rM_X12_canAsk p1 p4) (ci := 12) (q0 := 0) rfl rfl (by decide) rfl hl.1 (Nat.le_of_ble_eq_true rfl) (by decide) dX12_knows_4 rfl ?_
  refine lv_if_eq (tgt := 30) hx hb dX12_knows_7 (by decide) (fun _ => ?_) (fun h => absurd (by decide) h)
  refine lv_iconst (v := (-1)) hx hb dX12_knows_30 (by decide) ?_
  exact rd_i hx hb hr hlocks (rfl) dX12_knows_31
set_option maxHeartbeats 4000000 in
set_option maxRecDepth 100000 in
theorem rM_X12_open {l : Launch} {D : va_G} {q : Nat → Nat} {k : Nat → ClassId} {g : Nat → Nat → Int32} {gl : Nat → Nat → Int64} : Rd l yX12_open cX12_open 1 (some .int) 0 D (wM q k g gl) (tyM k) [.ref (q 0)] (.int (-2)) := by
  refine Rd.of (by decide) (Nat.le_of_ble_eq_true rfl) ?_
  intro p e s m below meth c ls hx hb hr hml hown hts hlocks hP hK hl
  have hown : s.vm.findClass "SignalTableModel" = some m.cls := hown
  have hl : lv_has ls 1 [(0, .ref (q 0))] := hl
  refine lv_aload_n hx hb dX12_open_0 rfl (lv_at hl 0 rfl) ?_
  refine va_get (D := D) (ci := 12) (v := .int 0) (C := RX12) (T := TX12) (N := 95) hx hb hts inX12 hown hK hP 0 rfl rfl 45 (by decide) (hts _ kw_1559) (fun _ h9 => h9) rfl dX12_open_1 ?_
  refine lv_if_eq (tgt := 14) hx hb dX12_open_4 (by decide) (fun _ => ?_) (fun h => absurd (by decide) h)
  refine lv_bipush (v := (-2)) hx hb dX12_open_14 (by decide) ?_
  exact rd_i hx hb hr hlocks (rfl) dX12_open_16
set_option maxHeartbeats 4000000 in
set_option maxRecDepth 100000 in
theorem rM_X12_line {l : Launch} {D : va_G} {q : Nat → Nat} {k : Nat → ClassId} {g : Nat → Nat → Int32} {gl : Nat → Nat → Int64} (p1 : Int32) : Rd l yX12_line cX12_line 8 (some .int) 0 D (wM q k g gl) (tyM k) [.ref (q 0), .int p1] (.int (-1)) := by
  refine Rd.of (by decide) (Nat.le_of_ble_eq_true rfl) ?_
  intro p e s m below meth c ls hx hb hr hml hown hts hlocks hP hK hl
  have hown : s.vm.findClass "SignalTableModel" = some m.cls := hown
  have hl : lv_has ls 8 [(0, .ref (q 0)), (1, .int p1)] := hl
  refine lv_aload_n hx hb dX12_line_0 rfl (lv_at hl 0 rfl) ?_
  refine va_get (D := D) (ci := 12) (v := .int 0) (C := RX12) (T := TX12) (N := 95) hx hb hts inX12 hown hK hP 0 rfl rfl 45 (by decide) (hts _ kw_1559) (fun _ h9 => h9) rfl dX12_line_1 ?_
  refine lv_if_eq (tgt := 24) hx hb dX12_line_4 (by decide) (fun _ => ?_) (fun h => absurd (by decide) h)
  refine lv_iconst (v := (-1)) hx hb dX12_line_24 (by decide) ?_
  exact rd_i hx hb hr hlocks (rfl) dX12_line_25
set_option maxHeartbeats 4000000 in
set_option maxRecDepth 100000 in
theorem rM_X12_mean {l : Launch} {D : va_G} {q : Nat → Nat} {k : Nat → ClassId} {g : Nat → Nat → Int32} {gl : Nat → Nat → Int64} (p1 p2 : Int32) : Rd l yX12_mean cX12_mean 3 (some .long) 2 D (wM q k g gl) (tyM k) [.ref (q 0), .int p1, .int p2] (.long (-1)) := by
  refine Rd.of (by decide) (Nat.le_of_ble_eq_true rfl) ?_
  intro p e s m below meth c ls hx hb hr hml hown hts hlocks hP hK hl
  have hown : s.vm.findClass "SignalTableModel" = some m.cls := hown
  have hl : lv_has ls 3 [(0, .ref (q 0)), (1, .int p1), (2, .int p2)] := hl
  refine lv_aload_n hx hb dX12_mean_0 rfl (lv_at hl 0 rfl) ?_
  refine lv_iload_n hx hb dX12_mean_1 rfl (lv_at hl 2 rfl) ?_
  refine rd_V (As := [.int p2]) (rest := []) (d := 1) caV_SignalTableModel_572 hx hb hml hown hts hP hK (rM_X12_canMean p2) (ci := 12) (q0 := 0) rfl rfl (by decide) rfl hl.1 (Nat.le_of_ble_eq_true rfl) (by decide) dX12_mean_2 rfl ?_
  refine lv_if_eq (tgt := 27) hx hb dX12_mean_5 (by decide) (fun _ => ?_) (fun h => absurd (by decide) h)
  refine lv_ldc2 (v := (-1)) hx hb hown (hts _ kw_2230) dX12_mean_27 ?_
  exact rd_l hx hb hr hlocks (rfl) dX12_mean_30
set_option maxHeartbeats 4000000 in
set_option maxRecDepth 100000 in
theorem rM_X12_choice {l : Launch} {D : va_G} {q : Nat → Nat} {k : Nat → ClassId} {g : Nat → Nat → Int32} {gl : Nat → Nat → Int64} (p1 : Int32) : Rd l yX12_choice cX12_choice 2 (some .int) 2 D (wM q k g gl) (tyM k) [.ref (q 0), .int p1] (.int (-1)) := by
  refine Rd.of (by decide) (Nat.le_of_ble_eq_true rfl) ?_
  intro p e s m below meth c ls hx hb hr hml hown hts hlocks hP hK hl
  have hown : s.vm.findClass "SignalTableModel" = some m.cls := hown
  have hl : lv_has ls 2 [(0, .ref (q 0)), (1, .int p1)] := hl
  refine lv_aload_n hx hb dX12_choice_0 rfl (lv_at hl 0 rfl) ?_
  refine lv_iload_n hx hb dX12_choice_1 rfl (lv_at hl 1 rfl) ?_
  refine rd_V (As := [.int p1]) (rest := []) (d := 1) caV_SignalTableModel_572 hx hb hml hown hts hP hK (rM_X12_canMean p1) (ci := 12) (q0 := 0) rfl rfl (by decide) rfl hl.1 (Nat.le_of_ble_eq_true rfl) (by decide) dX12_choice_2 rfl ?_
  refine lv_if_ne (tgt := 10) hx hb dX12_choice_5 (by decide) (fun h => absurd (by decide) h) (fun _ => ?_)
  refine lv_iconst (v := (-1)) hx hb dX12_choice_8 (by decide) ?_
  exact rd_i hx hb hr hlocks (rfl) dX12_choice_9
set_option maxHeartbeats 4000000 in
set_option maxRecDepth 100000 in
theorem rM_X12_spread {l : Launch} {D : va_G} {q : Nat → Nat} {k : Nat → ClassId} {g : Nat → Nat → Int32} {gl : Nat → Nat → Int64} (p1 p2 p3 : Int32) : Rd l yX12_spread cX12_spread 4 (some .int) 2 D (wM q k g gl) (tyM k) [.ref (q 0), .int p1, .int p2, .int p3] (.int (-1)) := by
  refine Rd.of (by decide) (Nat.le_of_ble_eq_true rfl) ?_
  intro p e s m below meth c ls hx hb hr hml hown hts hlocks hP hK hl
  have hown : s.vm.findClass "SignalTableModel" = some m.cls := hown
  have hl : lv_has ls 4 [(0, .ref (q 0)), (1, .int p1), (2, .int p2), (3, .int p3)] := hl
  refine lv_aload_n hx hb dX12_spread_0 rfl (lv_at hl 0 rfl) ?_
  refine lv_iload_n hx hb dX12_spread_1 rfl (lv_at hl 2 rfl) ?_
  refine rd_V (As := [.int p2]) (rest := []) (d := 1) caV_SignalTableModel_572 hx hb hml hown hts hP hK (rM_X12_canMean p2) (ci := 12) (q0 := 0) rfl rfl (by decide) rfl hl.1 (Nat.le_of_ble_eq_true rfl) (by decide) dX12_spread_2 rfl ?_
  refine lv_if_eq (tgt := 36) hx hb dX12_spread_5 (by decide) (fun _ => ?_) (fun h => absurd (by decide) h)
  refine lv_iconst (v := (-1)) hx hb dX12_spread_36 (by decide) ?_
  exact rd_i hx hb hr hlocks (rfl) dX12_spread_37
set_option maxHeartbeats 4000000 in
set_option maxRecDepth 100000 in
theorem rM_X12_safe {l : Launch} {D : va_G} {q : Nat → Nat} {k : Nat → ClassId} {g : Nat → Nat → Int32} {gl : Nat → Nat → Int64} (p1 p2 : Int32) : Rd l yX12_safe cX12_safe 5 (some .int) 2 D (wM q k g gl) (tyM k) [.ref (q 0), .int p1, .int p2] (.int (-1)) := by
  refine Rd.of (by decide) (Nat.le_of_ble_eq_true rfl) ?_
  intro p e s m below meth c ls hx hb hr hml hown hts hlocks hP hK hl
  have hown : s.vm.findClass "SignalTableModel" = some m.cls := hown
  have hl : lv_has ls 5 [(0, .ref (q 0)), (1, .int p1), (2, .int p2)] := hl
  refine lv_aload_n hx hb dX12_safe_0 rfl (lv_at hl 0 rfl) ?_
  refine lv_iload_n hx hb dX12_safe_1 rfl (lv_at hl 1 rfl) ?_
  refine rd_V (As := [.int p1]) (rest := []) (d := 1) caV_SignalTableModel_572 hx hb hml hown hts hP hK (rM_X12_canMean p1) (ci := 12) (q0 := 0) rfl rfl (by decide) rfl hl.1 (Nat.le_of_ble_eq_true rfl) (by decide) dX12_safe_2 rfl ?_
  refine lv_if_eq (tgt := 17) hx hb dX12_safe_5 (by decide) (fun _ => ?_) (fun h => absurd (by decide) h)
  refine lv_iconst (v := (-1)) hx hb dX12_safe_17 (by decide) ?_
  exact rd_i hx hb hr hlocks (rfl) dX12_safe_18
set_option maxHeartbeats 4000000 in
set_option maxRecDepth 100000 in
theorem rM_X12_loss {l : Launch} {D : va_G} {q : Nat → Nat} {k : Nat → ClassId} {g : Nat → Nat → Int32} {gl : Nat → Nat → Int64} (p1 : Int32) : Rd l yX12_loss cX12_loss 2 (some .int) 2 D (wM q k g gl) (tyM k) [.ref (q 0), .int p1] (.int (-1)) := by
  refine Rd.of (by decide) (Nat.le_of_ble_eq_true rfl) ?_
  intro p e s m below meth c ls hx hb hr hml hown hts hlocks hP hK hl
  have hown : s.vm.findClass "SignalTableModel" = some m.cls := hown
  have hl : lv_has ls 2 [(0, .ref (q 0)), (1, .int p1)] := hl
  refine lv_aload_n hx hb dX12_loss_0 rfl (lv_at hl 0 rfl) ?_
  refine lv_iload_n hx hb dX12_loss_1 rfl (lv_at hl 1 rfl) ?_
  refine rd_V (As := [.int p1]) (rest := []) (d := 1) caV_SignalTableModel_572 hx hb hml hown hts hP hK (rM_X12_canMean p1) (ci := 12) (q0 := 0) rfl rfl (by decide) rfl hl.1 (Nat.le_of_ble_eq_true rfl) (by decide) dX12_loss_2 rfl ?_
  refine lv_if_ne (tgt := 10) hx hb dX12_loss_5 (by decide) (fun h => absurd (by decide) h) (fun _ => ?_)
  refine lv_iconst (v := (-1)) hx hb dX12_loss_8 (by decide) ?_
  exact rd_i hx hb hr hlocks (rfl) dX12_loss_9
set_option maxHeartbeats 4000000 in
set_option maxRecDepth 100000 in
theorem rM_X12_differs {l : Launch} {D : va_G} {q : Nat → Nat} {k : Nat → ClassId} {g : Nat → Nat → Int32} {gl : Nat → Nat → Int64} (p1 : Int32) : Rd l yX12_differs cX12_differs 5 (some .int) 2 D (wM q k g gl) (tyM k) [.ref (q 0), .int p1] (.int (-1)) := by
  refine Rd.of (by decide) (Nat.le_of_ble_eq_true rfl) ?_
  intro p e s m below meth c ls hx hb hr hml hown hts hlocks hP hK hl
  have hown : s.vm.findClass "SignalTableModel" = some m.cls := hown
  have hl : lv_has ls 5 [(0, .ref (q 0)), (1, .int p1)] := hl
  refine lv_aload_n hx hb dX12_differs_0 rfl (lv_at hl 0 rfl) ?_
  refine lv_iload_n hx hb dX12_differs_1 rfl (lv_at hl 1 rfl) ?_
  refine rd_V (As := [.int p1]) (rest := []) (d := 1) caV_SignalTableModel_572 hx hb hml hown hts hP hK (rM_X12_canMean p1) (ci := 12) (q0 := 0) rfl rfl (by decide) rfl hl.1 (Nat.le_of_ble_eq_true rfl) (by decide) dX12_differs_2 rfl ?_
  refine lv_if_ne (tgt := 10) hx hb dX12_differs_5 (by decide) (fun h => absurd (by decide) h) (fun _ => ?_)
  refine lv_iconst (v := (-1)) hx hb dX12_differs_8 (by decide) ?_
  exact rd_i hx hb hr hlocks (rfl) dX12_differs_9
set_option maxHeartbeats 4000000 in
set_option maxRecDepth 100000 in
theorem rM_X12_lies {l : Launch} {D : va_G} {q : Nat → Nat} {k : Nat → ClassId} {g : Nat → Nat → Int32} {gl : Nat → Nat → Int64} (p1 : Int32) : Rd l yX12_lies cX12_lies 2 (some .int) 1 D (wM q k g gl) (tyM k) [.ref (q 0), .int p1] (.int (-1)) := by
  refine Rd.of (by decide) (Nat.le_of_ble_eq_true rfl) ?_
  intro p e s m below meth c ls hx hb hr hml hown hts hlocks hP hK hl
  have hown : s.vm.findClass "SignalTableModel" = some m.cls := hown
  have hl : lv_has ls 2 [(0, .ref (q 0)), (1, .int p1)] := hl
  refine lv_aload_n hx hb dX12_lies_0 rfl (lv_at hl 0 rfl) ?_
  refine rd_V (As := []) (rest := []) (d := 0) caV_SignalTableModel_396 hx hb hml hown hts hP hK (rM_X12_turnNow) (ci := 12) (q0 := 0) rfl rfl (by decide) rfl hl.1 (Nat.le_of_ble_eq_true rfl) (by decide) dX12_lies_1 rfl ?_
  refine lv_if_lt (tgt := 26) hx hb dX12_lies_4 (by decide) (fun _ => ?_) (fun h => absurd (by decide) h)
  refine lv_iconst (v := (-1)) hx hb dX12_lies_26 (by decide) ?_
  exact rd_i hx hb hr hlocks (rfl) dX12_lies_27
set_option maxHeartbeats 4000000 in
set_option maxRecDepth 100000 in
theorem rM_X12_worth {l : Launch} {D : va_G} {q : Nat → Nat} {k : Nat → ClassId} {g : Nat → Nat → Int32} {gl : Nat → Nat → Int64} (p1 : Int32) : Rd l yX12_worth cX12_worth 4 (some .long) 2 D (wM q k g gl) (tyM k) [.ref (q 0), .int p1] (.long (-1000000)) := by
  refine Rd.of (by decide) (Nat.le_of_ble_eq_true rfl) ?_
  intro p e s m below meth c ls hx hb hr hml hown hts hlocks hP hK hl
  have hown : s.vm.findClass "SignalTableModel" = some m.cls := hown
  have hl : lv_has ls 4 [(0, .ref (q 0)), (1, .int p1)] := hl
  refine lv_aload_n hx hb dX12_worth_0 rfl (lv_at hl 0 rfl) ?_
  refine lv_iload_n hx hb dX12_worth_1 rfl (lv_at hl 1 rfl) ?_
  refine rd_V (As := [.int p1]) (rest := []) (d := 1) caV_SignalTableModel_572 hx hb hml hown hts hP hK (rM_X12_canMean p1) (ci := 12) (q0 := 0) rfl rfl (by decide) rfl hl.1 (Nat.le_of_ble_eq_true rfl) (by decide) dX12_worth_2 rfl ?_
  refine lv_if_eq (tgt := 15) hx hb dX12_worth_5 (by decide) (fun _ => ?_) (fun h => absurd (by decide) h)
  refine lv_ldc2 (v := (-1000000)) hx hb hown (hts _ kw_2287) dX12_worth_15 ?_
  exact rd_l hx hb hr hlocks (rfl) dX12_worth_18
set_option maxHeartbeats 4000000 in
set_option maxRecDepth 100000 in
theorem rM_X12_gain {l : Launch} {D : va_G} {q : Nat → Nat} {k : Nat → ClassId} {g : Nat → Nat → Int32} {gl : Nat → Nat → Int64} (p1 p2 p3 : Int32) : Rd l yX12_gain cX12_gain 5 (some .int) 2 D (wM q k g gl) (tyM k) [.ref (q 0), .int p1, .int p2, .int p3] (.int (-1000)) := by
  refine Rd.of (by decide) (Nat.le_of_ble_eq_true rfl) ?_
  intro p e s m below meth c ls hx hb hr hml hown hts hlocks hP hK hl
  have hown : s.vm.findClass "SignalTableModel" = some m.cls := hown
  have hl : lv_has ls 5 [(0, .ref (q 0)), (1, .int p1), (2, .int p2), (3, .int p3)] := hl
  refine lv_aload_n hx hb dX12_gain_0 rfl (lv_at hl 0 rfl) ?_
  refine lv_iload_n hx hb dX12_gain_1 rfl (lv_at hl 1 rfl) ?_
  refine rd_V (As := [.int p1]) (rest := []) (d := 1) caV_SignalTableModel_455 hx hb hml hown hts hP hK (rM_X12_areCustoms p1) (ci := 12) (q0 := 0) rfl rfl (by decide) rfl hl.1 (Nat.le_of_ble_eq_true rfl) (by decide) dX12_gain_2 rfl ?_
  refine lv_if_eq (tgt := 16) hx hb dX12_gain_5 (by decide) (fun c_1 => ?_) (fun c_1 => ?_)
  · skip
    have c_1 := z_if0 c_1
    refine lv_sipush (v := (-1000)) hx hb dX12_gain_16 (by decide) ?_
    exact rd_i hx hb hr hlocks (rfl) dX12_gain_19
  · skip
    have c_1 := z_ifn c_1
    refine lv_aload_n hx hb dX12_gain_8 rfl (lv_at hl 0 rfl) ?_
    refine lv_iload_n hx hb dX12_gain_9 rfl (lv_at hl 3 rfl) ?_
    refine rd_V (As := [.int p3]) (rest := []) (d := 1) caV_SignalTableModel_614 hx hb hml hown hts hP hK (rM_X12_canGain p3) (ci := 12) (q0 := 0) rfl rfl (by decide) rfl hl.1 (Nat.le_of_ble_eq_true rfl) (by decide) dX12_gain_10 rfl ?_
    refine lv_if_ne (tgt := 20) hx hb dX12_gain_13 (by decide) (fun h => absurd (by decide) h) (fun _ => ?_)
    refine lv_sipush (v := (-1000)) hx hb dX12_gain_16 (by decide) ?_
    exact rd_i hx hb hr hlocks (rfl) dX12_gain_19
set_option maxHeartbeats 4000000 in
set_option maxRecDepth 100000 in
theorem rM_X12_bestSet {l : Launch} {D : va_G} {q : Nat → Nat} {k : Nat → ClassId} {g : Nat → Nat → Int32} {gl : Nat → Nat → Int64} (p1 p2 p3 : Int32) : Rd l yX12_bestSet cX12_bestSet 9 (some .int) 2 D (wM q k g gl) (tyM k) [.ref (q 0), .int p1, .int p2, .int p3] (.int (-1000)) := by
  refine Rd.of (by decide) (Nat.le_of_ble_eq_true rfl) ?_
  intro p e s m below meth c ls hx hb hr hml hown hts hlocks hP hK hl
  have hown : s.vm.findClass "SignalTableModel" = some m.cls := hown
  have hl : lv_has ls 9 [(0, .ref (q 0)), (1, .int p1), (2, .int p2), (3, .int p3)] := hl
  refine lv_aload_n hx hb dX12_bestSet_0 rfl (lv_at hl 0 rfl) ?_
  refine lv_iload_n hx hb dX12_bestSet_1 rfl (lv_at hl 2 rfl) ?_
  refine rd_V (As := [.int p2]) (rest := []) (d := 1) caV_SignalTableModel_614 hx hb hml hown hts hP hK (rM_X12_canGain p2) (ci := 12) (q0 := 0) rfl rfl (by decide) rfl hl.1 (Nat.le_of_ble_eq_true rfl) (by decide) dX12_bestSet_2 rfl ?_
  refine lv_if_eq (tgt := 17) hx hb dX12_bestSet_5 (by decide) (fun _ => ?_) (fun h => absurd (by decide) h)
  refine lv_sipush (v := (-1000)) hx hb dX12_bestSet_17 (by decide) ?_
  exact rd_i hx hb hr hlocks (rfl) dX12_bestSet_20
set_option maxHeartbeats 4000000 in
set_option maxRecDepth 100000 in
theorem rM_X12_book {l : Launch} {D : va_G} {q : Nat → Nat} {k : Nat → ClassId} {g : Nat → Nat → Int32} {gl : Nat → Nat → Int64} : Rd l yX12_book cX12_book 7 (some .int) 0 D (wM q k g gl) (tyM k) [.ref (q 0)] (.int (-1)) := by
  refine Rd.of (by decide) (Nat.le_of_ble_eq_true rfl) ?_
  intro p e s m below meth c ls hx hb hr hml hown hts hlocks hP hK hl
  have hown : s.vm.findClass "SignalTableModel" = some m.cls := hown
  have hl : lv_has ls 7 [(0, .ref (q 0))] := hl
  refine lv_aload_n hx hb dX12_book_0 rfl (lv_at hl 0 rfl) ?_
  refine va_get (D := D) (ci := 12) (v := .int 0) (C := RX12) (T := TX12) (N := 95) hx hb hts inX12 hown hK hP 0 rfl rfl 45 (by decide) (hts _ kw_1559) (fun _ h9 => h9) rfl dX12_book_1 ?_
  refine lv_if_eq (tgt := 27) hx hb dX12_book_4 (by decide) (fun _ => ?_) (fun h => absurd (by decide) h)
  refine lv_iconst (v := (-1)) hx hb dX12_book_27 (by decide) ?_
  exact rd_i hx hb hr hlocks (rfl) dX12_book_28
set_option maxHeartbeats 4000000 in
set_option maxRecDepth 100000 in
theorem rM_X12_kept {l : Launch} {D : va_G} {q : Nat → Nat} {k : Nat → ClassId} {g : Nat → Nat → Int32} {gl : Nat → Nat → Int64} (p1 : Int32) : Rd l yX12_kept cX12_kept 4 (some .int) 1 D (wM q k g gl) (tyM k) [.ref (q 0), .int p1] (.int (if p1 = 0 then 0 else (-1))) := by
  refine Rd.of (by decide) (Nat.le_of_ble_eq_true rfl) ?_
  intro p e s m below meth c ls hx hb hr hml hown hts hlocks hP hK hl
  have hown : s.vm.findClass "SignalTableModel" = some m.cls := hown
  have hl : lv_has ls 4 [(0, .ref (q 0)), (1, .int p1)] := hl
  refine lv_iload_n hx hb dX12_kept_0 rfl (lv_at hl 1 rfl) ?_
  refine lv_iconst (v := 0) hx hb dX12_kept_1 (by decide) ?_
  refine lv_aload_n hx hb dX12_kept_2 rfl (lv_at hl 0 rfl) ?_
  refine va_get (D := D) (ci := 12) (v := .int 0) (C := RX12) (T := TX12) (N := 95) hx hb hts inX12 hown hK hP 0 rfl rfl 86 (by decide) (hts _ kw_1600) (fun _ h9 => h9) rfl dX12_kept_3 ?_
  refine rd_S (As := [.int p1, .int 0, .int 0]) (rest := []) (d := 0) caS_SignalTableModel_310 hx hb hml hown hts hP hK (rM_X12_in p1 0 0) (by decide) rfl hl.1 (Nat.le_of_ble_eq_true rfl) (by decide) dX12_kept_6 rfl ?_
  refine lv_if_ne (tgt := 14) hx hb dX12_kept_9 (by decide) (fun c_1 => ?_) (fun c_1 => ?_)
  · skip
    have c_1 := z_ifn c_1
    refine lv_iconst (v := 0) hx hb dX12_kept_14 (by decide) ?_
    refine lv_istore_n (lv' := [(2, .int 0), (0, .ref (q 0)), (1, .int p1)]) hx hb dX12_kept_15 rfl hl (by decide) rfl (fun ls hl => ?_)
    refine lv_iconst (v := 0) hx hb dX12_kept_16 (by decide) ?_
    refine lv_istore_n (lv' := [(3, .int 0), (2, .int 0), (0, .ref (q 0)), (1, .int p1)]) hx hb dX12_kept_17 rfl hl (by decide) rfl (fun ls hl => ?_)
    refine lv_iload_n hx hb dX12_kept_18 rfl (lv_at hl 0 rfl) ?_
    refine lv_aload_n hx hb dX12_kept_19 rfl (lv_at hl 2 rfl) ?_
    refine va_get (D := D) (ci := 12) (v := .ref (q 9)) (C := RX12) (T := TX12) (N := 95) hx hb hts inX12 hown hK hP 0 rfl rfl 25 (by decide) (hts _ kw_1539) (fun _ h9 => h9) rfl dX12_kept_20 ?_
    refine lv_aload_n hx hb dX12_kept_23 rfl (lv_at hl 2 rfl) ?_
    refine va_get (D := D) (ci := 12) (v := .int 0) (C := RX12) (T := TX12) (N := 95) hx hb hts inX12 hown hK hP 0 rfl rfl 18 (by decide) (hts _ kw_1532) (fun _ h9 => h9) rfl dX12_kept_24 ?_
    refine va_iald hx hb hK hP 9 8 rfl rfl (z_in (by decide)) dX12_kept_27 ?_
    refine z_i (v := 0) (by rfl) ?_
    refine lv_icmp_ge (tgt := 53) hx hb dX12_kept_28 (by decide) (fun _ => ?_) (fun h => absurd (by decide) h)
    refine lv_iload_n hx hb dX12_kept_53 rfl (lv_at hl 1 rfl) ?_
    exact rd_i hx hb hr hlocks (congrArg Value.int (by by_cases s_1 : p1 = 0 <;> simp only [s_1, if_true, if_false, and_self, not_false_eq_true, not_true_eq_false] <;> first | rfl | (exfalso; simp only [Int32.lt_iff_toInt_lt, Int32.le_iff_toInt_le, ← Int32.toInt_inj, ti_m2, ti_m1, ti_0, ti_1, ti_2, ti_3, ti_4, ti_5, ti_6, ti_7, ti_8, ti_10, ti_20] at s_1 c_1 <;> omega))) dX12_kept_54
  · skip
    have c_1 := z_if0 c_1
    refine lv_iconst (v := (-1)) hx hb dX12_kept_12 (by decide) ?_
    exact rd_i hx hb hr hlocks (congrArg Value.int (by by_cases s_1 : p1 = 0 <;> simp only [s_1, if_true, if_false, and_self, not_false_eq_true, not_true_eq_false] <;> first | rfl | (exfalso; simp only [Int32.lt_iff_toInt_lt, Int32.le_iff_toInt_le, ← Int32.toInt_inj, ti_m2, ti_m1, ti_0, ti_1, ti_2, ti_3, ti_4, ti_5, ti_6, ti_7, ti_8, ti_10, ti_20] at s_1 c_1 <;> omega))) dX12_kept_13
set_option maxHeartbeats 4000000 in
set_option maxRecDepth 100000 in
theorem rM_X12_told {l : Launch} {D : va_G} {q : Nat → Nat} {k : Nat → ClassId} {g : Nat → Nat → Int32} {gl : Nat → Nat → Int64} (p1 p2 p3 : Int32) : Rd l yX12_told cX12_told 4 (some .int) 2 D (wM q k g gl) (tyM k) [.ref (q 0), .int p1, .int p2, .int p3] (.int (-1)) := by
  refine Rd.of (by decide) (Nat.le_of_ble_eq_true rfl) ?_
  intro p e s m below meth c ls hx hb hr hml hown hts hlocks hP hK hl
  have hown : s.vm.findClass "SignalTableModel" = some m.cls := hown
  have hl : lv_has ls 4 [(0, .ref (q 0)), (1, .int p1), (2, .int p2), (3, .int p3)] := hl
  refine lv_aload_n hx hb dX12_told_0 rfl (lv_at hl 0 rfl) ?_
  refine lv_iload_n hx hb dX12_told_1 rfl (lv_at hl 1 rfl) ?_
  refine rd_V (As := [.int p1]) (rest := []) (d := 1) caV_SignalTableModel_630 hx hb hml hown hts hP hK (rM_X12_isCustom p1) (ci := 12) (q0 := 0) rfl rfl (by decide) rfl hl.1 (Nat.le_of_ble_eq_true rfl) (by decide) dX12_told_2 rfl ?_
  refine lv_if_eq (tgt := 48) hx hb dX12_told_5 (by decide) (fun _ => ?_) (fun h => absurd (by decide) h)
  refine lv_iconst (v := (-1)) hx hb dX12_told_48 (by decide) ?_
  exact rd_i hx hb hr hlocks (rfl) dX12_told_49
set_option maxHeartbeats 4000000 in
set_option maxRecDepth 100000 in
theorem rM_X12_openings {l : Launch} {D : va_G} {q : Nat → Nat} {k : Nat → ClassId} {g : Nat → Nat → Int32} {gl : Nat → Nat → Int64} (p1 p2 : Int32) : Rd l yX12_openings cX12_openings 3 (some .int) 2 D (wM q k g gl) (tyM k) [.ref (q 0), .int p1, .int p2] (.int (-1)) := by
  refine Rd.of (by decide) (Nat.le_of_ble_eq_true rfl) ?_
  intro p e s m below meth c ls hx hb hr hml hown hts hlocks hP hK hl
  have hown : s.vm.findClass "SignalTableModel" = some m.cls := hown
  have hl : lv_has ls 3 [(0, .ref (q 0)), (1, .int p1), (2, .int p2)] := hl
  refine lv_aload_n hx hb dX12_openings_0 rfl (lv_at hl 0 rfl) ?_
  refine lv_iload_n hx hb dX12_openings_1 rfl (lv_at hl 1 rfl) ?_
  refine rd_V (As := [.int p1]) (rest := []) (d := 1) caV_SignalTableModel_630 hx hb hml hown hts hP hK (rM_X12_isCustom p1) (ci := 12) (q0 := 0) rfl rfl (by decide) rfl hl.1 (Nat.le_of_ble_eq_true rfl) (by decide) dX12_openings_2 rfl ?_
  refine lv_if_eq (tgt := 17) hx hb dX12_openings_5 (by decide) (fun _ => ?_) (fun h => absurd (by decide) h)
  refine lv_iconst (v := (-1)) hx hb dX12_openings_17 (by decide) ?_
  exact rd_i hx hb hr hlocks (rfl) dX12_openings_18
set_option maxHeartbeats 4000000 in
set_option maxRecDepth 100000 in
theorem rM_X12_quarrel {l : Launch} {D : va_G} {q : Nat → Nat} {k : Nat → ClassId} {g : Nat → Nat → Int32} {gl : Nat → Nat → Int64} (p1 p2 : Int32) : Rd l yX12_quarrel cX12_quarrel 3 (some .int) 2 D (wM q k g gl) (tyM k) [.ref (q 0), .int p1, .int p2] (.int (-1)) := by
  refine Rd.of (by decide) (Nat.le_of_ble_eq_true rfl) ?_
  intro p e s m below meth c ls hx hb hr hml hown hts hlocks hP hK hl
  have hown : s.vm.findClass "SignalTableModel" = some m.cls := hown
  have hl : lv_has ls 3 [(0, .ref (q 0)), (1, .int p1), (2, .int p2)] := hl
  refine lv_aload_n hx hb dX12_quarrel_0 rfl (lv_at hl 0 rfl) ?_
  refine lv_iload_n hx hb dX12_quarrel_1 rfl (lv_at hl 1 rfl) ?_
  refine rd_V (As := [.int p1]) (rest := []) (d := 1) caV_SignalTableModel_630 hx hb hml hown hts hP hK (rM_X12_isCustom p1) (ci := 12) (q0 := 0) rfl rfl (by decide) rfl hl.1 (Nat.le_of_ble_eq_true rfl) (by decide) dX12_quarrel_2 rfl ?_
  refine lv_if_eq (tgt := 21) hx hb dX12_quarrel_5 (by decide) (fun _ => ?_) (fun h => absurd (by decide) h)
  refine lv_iconst (v := (-1)) hx hb dX12_quarrel_21 (by decide) ?_
  exact rd_i hx hb hr hlocks (rfl) dX12_quarrel_22
set_option maxHeartbeats 4000000 in
set_option maxRecDepth 100000 in
theorem rM_X12_hold {l : Launch} {D : va_G} {q : Nat → Nat} {k : Nat → ClassId} {g : Nat → Nat → Int32} {gl : Nat → Nat → Int64} (p1 : Int32) : Rd l yX12_hold cX12_hold 3 (some .boolean) 1 D (wM q k g gl) (tyM k) [.ref (q 0), .int p1] (.int 0) := by
  refine Rd.of (by decide) (Nat.le_of_ble_eq_true rfl) ?_
  intro p e s m below meth c ls hx hb hr hml hown hts hlocks hP hK hl
  have hown : s.vm.findClass "SignalTableModel" = some m.cls := hown
  have hl : lv_has ls 3 [(0, .ref (q 0)), (1, .int p1)] := hl
  refine lv_iload_n hx hb dX12_hold_0 rfl (lv_at hl 1 rfl) ?_
  refine lv_iconst (v := 0) hx hb dX12_hold_1 (by decide) ?_
  refine lv_iconst (v := 1) hx hb dX12_hold_2 (by decide) ?_
  refine rd_S (As := [.int p1, .int 0, .int 1]) (rest := []) (d := 0) caS_SignalTableModel_310 hx hb hml hown hts hP hK (rM_X12_in p1 0 1) (by decide) rfl hl.1 (Nat.le_of_ble_eq_true rfl) (by decide) dX12_hold_3 rfl ?_
  refine lv_if_eq (tgt := 16) hx hb dX12_hold_6 (by decide) (fun c_1 => ?_) (fun c_1 => ?_)
  · skip
    have c_1 := z_if0 c_1
    refine lv_iconst (v := 0) hx hb dX12_hold_16 (by decide) ?_
    exact rd_z hx hb hr hlocks rfl (rfl) dX12_hold_17
  · skip
    have c_1 := z_ifn c_1
    refine lv_aload_n hx hb dX12_hold_9 rfl (lv_at hl 0 rfl) ?_
    refine va_get (D := D) (ci := 12) (v := .int 0) (C := RX12) (T := TX12) (N := 95) hx hb hts inX12 hown hK hP 0 rfl rfl 45 (by decide) (hts _ kw_1559) (fun _ h9 => h9) rfl dX12_hold_10 ?_
    refine lv_if_ne (tgt := 18) hx hb dX12_hold_13 (by decide) (fun h => absurd (by decide) h) (fun _ => ?_)
    refine lv_iconst (v := 0) hx hb dX12_hold_16 (by decide) ?_
    exact rd_z hx hb hr hlocks rfl (rfl) dX12_hold_17
set_option maxHeartbeats 4000000 in
set_option maxRecDepth 100000 in
theorem rM_X12_restore {l : Launch} {D : va_G} {q : Nat → Nat} {k : Nat → ClassId} {g : Nat → Nat → Int32} {gl : Nat → Nat → Int64} (p1 : Int32) : Rd l yX12_restore cX12_restore 3 (some .boolean) 1 D (wM q k g gl) (tyM k) [.ref (q 0), .int p1] (.int 0) := by
  refine Rd.of (by decide) (Nat.le_of_ble_eq_true rfl) ?_
  intro p e s m below meth c ls hx hb hr hml hown hts hlocks hP hK hl
  have hown : s.vm.findClass "SignalTableModel" = some m.cls := hown
  have hl : lv_has ls 3 [(0, .ref (q 0)), (1, .int p1)] := hl
  refine lv_iload_n hx hb dX12_restore_0 rfl (lv_at hl 1 rfl) ?_
  refine lv_iconst (v := 0) hx hb dX12_restore_1 (by decide) ?_
  refine lv_iconst (v := 1) hx hb dX12_restore_2 (by decide) ?_
  refine rd_S (As := [.int p1, .int 0, .int 1]) (rest := []) (d := 0) caS_SignalTableModel_310 hx hb hml hown hts hP hK (rM_X12_in p1 0 1) (by decide) rfl hl.1 (Nat.le_of_ble_eq_true rfl) (by decide) dX12_restore_3 rfl ?_
  refine lv_if_eq (tgt := 18) hx hb dX12_restore_6 (by decide) (fun c_1 => ?_) (fun c_1 => ?_)
  · skip
    have c_1 := z_if0 c_1
    refine lv_iconst (v := 0) hx hb dX12_restore_18 (by decide) ?_
    exact rd_z hx hb hr hlocks rfl (rfl) dX12_restore_19
  · skip
    have c_1 := z_ifn c_1
    refine lv_aload_n hx hb dX12_restore_9 rfl (lv_at hl 0 rfl) ?_
    refine va_get (D := D) (ci := 12) (v := .ref (q 12)) (C := RX12) (T := TX12) (N := 95) hx hb hts inX12 hown hK hP 0 rfl rfl 89 (by decide) (hts _ kw_1603) (fun _ h9 => h9) rfl dX12_restore_10 ?_
    refine lv_iload_n hx hb dX12_restore_13 rfl (lv_at hl 1 rfl) ?_
    by_cases c_2 : p1 = 0
    · subst c_2
      refine va_zald hx hb hK hP 12 11 rfl rfl (z_in (by decide)) dX12_restore_14 ?_
      refine z_i (v := 0) (by rfl) ?_
      refine lv_if_ne (tgt := 20) hx hb dX12_restore_15 (by decide) (fun h => absurd (by decide) h) (fun _ => ?_)
      refine lv_iconst (v := 0) hx hb dX12_restore_18 (by decide) ?_
      exact rd_z hx hb hr hlocks rfl (rfl) dX12_restore_19
    by_cases c_3 : p1 = 1
    · subst c_3
      refine va_zald hx hb hK hP 12 11 rfl rfl (z_in (by decide)) dX12_restore_14 ?_
      refine z_i (v := 0) (by rfl) ?_
      refine lv_if_ne (tgt := 20) hx hb dX12_restore_15 (by decide) (fun h => absurd (by decide) h) (fun _ => ?_)
      refine lv_iconst (v := 0) hx hb dX12_restore_18 (by decide) ?_
      exact rd_z hx hb hr hlocks rfl (rfl) dX12_restore_19
    exfalso
    simp only [Int32.lt_iff_toInt_lt, Int32.le_iff_toInt_le, ← Int32.toInt_inj, ti_m2, ti_m1, ti_0, ti_1, ti_2, ti_3, ti_4, ti_5, ti_6, ti_7, ti_8, ti_10, ti_20] at c_1 c_2 c_3 <;> omega
set_option maxHeartbeats 4000000 in
set_option maxRecDepth 100000 in
theorem rM_X12_count {l : Launch} {D : va_G} {q : Nat → Nat} {k : Nat → ClassId} {g : Nat → Nat → Int32} {gl : Nat → Nat → Int64} (p1 : Int32) : Rd l yX12_count cX12_count 2 (some .int) 2 D (wM q k g gl) (tyM k) [.ref (q 0), .int p1] (.int (sp_count p1)) := by
  refine Rd.of (by decide) (Nat.le_of_ble_eq_true rfl) ?_
  intro p e s m below meth c ls hx hb hr hml hown hts hlocks hP hK hl
  have hown : s.vm.findClass "SignalTableModel" = some m.cls := hown
  have hl : lv_has ls 2 [(0, .ref (q 0)), (1, .int p1)] := hl
  refine lv_iload_n hx hb dX12_count_0 rfl (lv_at hl 1 rfl) ?_
  by_cases c_1 : p1 = 0
  · subst c_1
    refine lv_tableIn (off := 51) (tgt := 52) hx hb dX12_count_1 (by decide) (by decide) rfl (by decide) ?_
    refine lv_aload_n hx hb dX12_count_52 rfl (lv_at hl 0 rfl) ?_
    refine va_get (D := D) (ci := 12) (v := .ref (q 6)) (C := RX12) (T := TX12) (N := 95) hx hb hts inX12 hown hK hP 0 rfl rfl 22 (by decide) (hts _ kw_1536) (fun _ h9 => h9) rfl dX12_count_53 ?_
    refine lv_aload_n hx hb dX12_count_56 rfl (lv_at hl 0 rfl) ?_
    refine va_get (D := D) (ci := 12) (v := .int 0) (C := RX12) (T := TX12) (N := 95) hx hb hts inX12 hown hK hP 0 rfl rfl 18 (by decide) (hts _ kw_1532) (fun _ h9 => h9) rfl dX12_count_57 ?_
    refine va_iald hx hb hK hP 6 5 rfl rfl (z_in (by decide)) dX12_count_60 ?_
    refine z_i (v := 4) (by rfl) ?_
    exact rd_i hx hb hr hlocks (rfl) dX12_count_61
  by_cases c_2 : p1 = 1
  · subst c_2
    refine lv_tableIn (off := 61) (tgt := 62) hx hb dX12_count_1 (by decide) (by decide) rfl (by decide) ?_
    refine lv_aload_n hx hb dX12_count_62 rfl (lv_at hl 0 rfl) ?_
    refine va_get (D := D) (ci := 12) (v := .ref (q 7)) (C := RX12) (T := TX12) (N := 95) hx hb hts inX12 hown hK hP 0 rfl rfl 23 (by decide) (hts _ kw_1537) (fun _ h9 => h9) rfl dX12_count_63 ?_
    refine lv_aload_n hx hb dX12_count_66 rfl (lv_at hl 0 rfl) ?_
    refine va_get (D := D) (ci := 12) (v := .int 0) (C := RX12) (T := TX12) (N := 95) hx hb hts inX12 hown hK hP 0 rfl rfl 18 (by decide) (hts _ kw_1532) (fun _ h9 => h9) rfl dX12_count_67 ?_
    refine va_iald hx hb hK hP 7 6 rfl rfl (z_in (by decide)) dX12_count_70 ?_
    refine z_i (v := 4) (by rfl) ?_
    exact rd_i hx hb hr hlocks (rfl) dX12_count_71
  by_cases c_3 : p1 = 2
  · subst c_3
    refine lv_tableIn (off := 71) (tgt := 72) hx hb dX12_count_1 (by decide) (by decide) rfl (by decide) ?_
    refine lv_aload_n hx hb dX12_count_72 rfl (lv_at hl 0 rfl) ?_
    refine rd_V (As := []) (rest := []) (d := 1) caV_SignalTableModel_365 hx hb hml hown hts hP hK (rM_X12_handSize) (ci := 12) (q0 := 0) rfl rfl (by decide) rfl hl.1 (Nat.le_of_ble_eq_true rfl) (by decide) dX12_count_73 rfl ?_
    exact rd_i hx hb hr hlocks (rfl) dX12_count_76
  by_cases c_4 : p1 = 3
  · subst c_4
    refine lv_tableIn (off := 76) (tgt := 77) hx hb dX12_count_1 (by decide) (by decide) rfl (by decide) ?_
    refine lv_aload_n hx hb dX12_count_77 rfl (lv_at hl 0 rfl) ?_
    refine rd_V (As := []) (rest := []) (d := 0) caV_SignalTableModel_386 hx hb hml hown hts hP hK (rM_X12_trumpSuit) (ci := 12) (q0 := 0) rfl rfl (by decide) rfl hl.1 (Nat.le_of_ble_eq_true rfl) (by decide) dX12_count_78 rfl ?_
    refine lv_iconst (v := (-1)) hx hb dX12_count_81 (by decide) ?_
    refine lv_icmp_ne (tgt := 90) hx hb dX12_count_82 (by decide) (fun h => absurd (by decide) h) (fun _ => ?_)
    refine lv_bipush (v := (-2)) hx hb dX12_count_85 (by decide) ?_
    refine lv_goto (tgt := 94) hx hb dX12_count_87 (by decide) ?_
    exact rd_i hx hb hr hlocks (rfl) dX12_count_94
  by_cases c_5 : p1 = 4
  · subst c_5
    refine lv_tableIn (off := 94) (tgt := 95) hx hb dX12_count_1 (by decide) (by decide) rfl (by decide) ?_
    refine lv_aload_n hx hb dX12_count_95 rfl (lv_at hl 0 rfl) ?_
    refine va_get (D := D) (ci := 12) (v := .ref (q 9)) (C := RX12) (T := TX12) (N := 95) hx hb hts inX12 hown hK hP 0 rfl rfl 25 (by decide) (hts _ kw_1539) (fun _ h9 => h9) rfl dX12_count_96 ?_
    refine lv_aload_n hx hb dX12_count_99 rfl (lv_at hl 0 rfl) ?_
    refine va_get (D := D) (ci := 12) (v := .int 0) (C := RX12) (T := TX12) (N := 95) hx hb hts inX12 hown hK hP 0 rfl rfl 18 (by decide) (hts _ kw_1532) (fun _ h9 => h9) rfl dX12_count_100 ?_
    refine va_iald hx hb hK hP 9 8 rfl rfl (z_in (by decide)) dX12_count_103 ?_
    refine z_i (v := 0) (by rfl) ?_
    exact rd_i hx hb hr hlocks (rfl) dX12_count_104
  by_cases c_6 : p1 = 5
  · subst c_6
    refine lv_tableIn (off := 104) (tgt := 105) hx hb dX12_count_1 (by decide) (by decide) rfl (by decide) ?_
    refine lv_aload_n hx hb dX12_count_105 rfl (lv_at hl 0 rfl) ?_
    refine va_get (D := D) (ci := 12) (v := .int 0) (C := RX12) (T := TX12) (N := 95) hx hb hts inX12 hown hK hP 0 rfl rfl 45 (by decide) (hts _ kw_1559) (fun _ h9 => h9) rfl dX12_count_106 ?_
    refine lv_if_eq (tgt := 119) hx hb dX12_count_109 (by decide) (fun _ => ?_) (fun h => absurd (by decide) h)
    refine lv_bipush (v := (-2)) hx hb dX12_count_119 (by decide) ?_
    exact rd_i hx hb hr hlocks (rfl) dX12_count_121
  by_cases c_7 : p1 = 6
  · subst c_7
    refine lv_tableIn (off := 121) (tgt := 122) hx hb dX12_count_1 (by decide) (by decide) rfl (by decide) ?_
    refine lv_aload_n hx hb dX12_count_122 rfl (lv_at hl 0 rfl) ?_
    refine va_get (D := D) (ci := 12) (v := .int 0) (C := RX12) (T := TX12) (N := 95) hx hb hts inX12 hown hK hP 0 rfl rfl 86 (by decide) (hts _ kw_1600) (fun _ h9 => h9) rfl dX12_count_123 ?_
    exact rd_i hx hb hr hlocks (rfl) dX12_count_126
  by_cases c_8 : p1 = 7
  · subst c_8
    refine lv_tableIn (off := 126) (tgt := 127) hx hb dX12_count_1 (by decide) (by decide) rfl (by decide) ?_
    refine lv_aload_n hx hb dX12_count_127 rfl (lv_at hl 0 rfl) ?_
    refine va_get (D := D) (ci := 12) (v := .int 0) (C := RX12) (T := TX12) (N := 95) hx hb hts inX12 hown hK hP 0 rfl rfl 2 (by decide) (hts _ kw_1516) (fun _ h9 => h9) rfl dX12_count_128 ?_
    exact rd_i hx hb hr hlocks (rfl) dX12_count_131
  by_cases c_9 : p1 = 8
  · subst c_9
    refine lv_tableIn (off := 131) (tgt := 132) hx hb dX12_count_1 (by decide) (by decide) rfl (by decide) ?_
    refine lv_aload_n hx hb dX12_count_132 rfl (lv_at hl 0 rfl) ?_
    refine va_get (D := D) (ci := 12) (v := .ref (q 12)) (C := RX12) (T := TX12) (N := 95) hx hb hts inX12 hown hK hP 0 rfl rfl 89 (by decide) (hts _ kw_1603) (fun _ h9 => h9) rfl dX12_count_133 ?_
    refine lv_iconst (v := 0) hx hb dX12_count_136 (by decide) ?_
    refine va_zald hx hb hK hP 12 11 rfl rfl (z_in (by decide)) dX12_count_137 ?_
    refine z_i (v := 0) (by rfl) ?_
    refine lv_if_eq (tgt := 145) hx hb dX12_count_138 (by decide) (fun _ => ?_) (fun h => absurd (by decide) h)
    refine lv_iconst (v := 0) hx hb dX12_count_145 (by decide) ?_
    refine lv_aload_n hx hb dX12_count_146 rfl (lv_at hl 0 rfl) ?_
    refine va_get (D := D) (ci := 12) (v := .ref (q 12)) (C := RX12) (T := TX12) (N := 95) hx hb hts inX12 hown hK hP 0 rfl rfl 89 (by decide) (hts _ kw_1603) (fun _ h9 => h9) rfl dX12_count_147 ?_
    refine lv_iconst (v := 1) hx hb dX12_count_150 (by decide) ?_
    refine va_zald hx hb hK hP 12 11 rfl rfl (z_in (by decide)) dX12_count_151 ?_
    refine z_i (v := 0) (by rfl) ?_
    refine lv_if_eq (tgt := 159) hx hb dX12_count_152 (by decide) (fun _ => ?_) (fun h => absurd (by decide) h)
    refine lv_iconst (v := 0) hx hb dX12_count_159 (by decide) ?_
    refine lv_iadd hx hb dX12_count_160 ?_
    refine z_i (v := 0) (by decide) ?_
    exact rd_i hx hb hr hlocks (rfl) dX12_count_161
  have c_10 : p1.toInt < 0 ∨ 8 < p1.toInt := by
    simp only [Int32.lt_iff_toInt_lt, Int32.le_iff_toInt_le, ← Int32.toInt_inj, ti_m2, ti_m1, ti_0, ti_1, ti_2, ti_3, ti_4, ti_5, ti_6, ti_7, ti_8, ti_10, ti_20] at c_1 c_2 c_3 c_4 c_5 c_6 c_7 c_8 c_9
    omega
  refine lv_tableOut (tgt := 162) hx hb dX12_count_1 c_10 (by decide) ?_
  refine lv_aload_n hx hb dX12_count_162 rfl (lv_at hl 0 rfl) ?_
  refine lv_iload_n hx hb dX12_count_163 rfl (lv_at hl 1 rfl) ?_
  refine lv_bipush (v := 10) hx hb dX12_count_164 (by decide) ?_
  refine lv_isub hx hb dX12_count_166 ?_
  refine rd_V (As := [.int (p1 - 10)]) (rest := []) (d := 1) caV_SignalTableModel_630 hx hb hml hown hts hP hK (rM_X12_isCustom (p1 - 10)) (ci := 12) (q0 := 0) rfl rfl (by decide) rfl hl.1 (Nat.le_of_ble_eq_true rfl) (by decide) dX12_count_167 rfl ?_
  refine lv_if_eq (tgt := 214) hx hb dX12_count_170 (by decide) (fun _ => ?_) (fun h => absurd (by decide) h)
  refine lv_iconst (v := (-1)) hx hb dX12_count_214 (by decide) ?_
  exact rd_i hx hb hr hlocks (congrArg Value.int (by simp [sp_count, c_1, c_2, c_3, c_4, c_5, c_6, c_7, c_8, c_9])) dX12_count_215
