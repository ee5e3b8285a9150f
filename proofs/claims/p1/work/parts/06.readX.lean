set_option maxHeartbeats 4000000 in
set_option maxRecDepth 100000 in
theorem rX_X3_legal {l : Launch} {D : va_G} {q : Nat → Nat} {k : Nat → ClassId} {g : Nat → Nat → Int32} {gl : Nat → Nat → Int64} : Rd l yX3_legal cX3_legal 3 (some .int) 0 D (wX q k g gl) (tyX k) [.ref (q 11)] (.int 0) := by
  refine Rd.of (by decide) (Nat.le_of_ble_eq_true rfl) ?_
  intro p e s m below meth c ls hx hb hr hml hown hts hlocks hP hK hl
  have hown : s.vm.findClass "SignalTable$Game" = some m.cls := hown
  have hl : lv_has ls 3 [(0, .ref (q 11))] := hl
  refine lv_aload_n hx hb dX3_legal_0 rfl (lv_at hl 0 rfl) ?_
  refine va_get (D := D) (ci := 3) (v := .int (-2)) (C := RX3) (T := TX3) (N := 18) hx hb hts inX3 hown hK hP 11 rfl rfl 6 (by decide) (hts _ kw_433) (fun _ h9 => h9) rfl dX3_legal_1 ?_
  refine lv_if_ge (tgt := 9) hx hb dX3_legal_4 (by decide) (fun h => absurd h (by decide)) (fun _ => ?_)
  refine lv_iconst (v := 0) hx hb dX3_legal_7 (by decide) ?_
  exact rd_i hx hb hr hlocks (rfl) dX3_legal_8
set_option maxHeartbeats 4000000 in
set_option maxRecDepth 100000 in
theorem rX_X3_isOver {l : Launch} {D : va_G} {q : Nat → Nat} {k : Nat → ClassId} {g : Nat → Nat → Int32} {gl : Nat → Nat → Int64} : Rd l yX3_isOver cX3_isOver 1 (some .boolean) 0 D (wX q k g gl) (tyX k) [.ref (q 11)] (.int 0) := by
  refine Rd.of (by decide) (Nat.le_of_ble_eq_true rfl) ?_
  intro p e s m below meth c ls hx hb hr hml hown hts hlocks hP hK hl
  have hown : s.vm.findClass "SignalTable$Game" = some m.cls := hown
  have hl : lv_has ls 1 [(0, .ref (q 11))] := hl
  refine lv_aload_n hx hb dX3_isOver_0 rfl (lv_at hl 0 rfl) ?_
  refine va_get (D := D) (ci := 3) (v := .int 0) (C := RX3) (T := TX3) (N := 18) hx hb hts inX3 hown hK hP 11 rfl rfl 2 (by decide) (hts _ kw_422) (fun _ h9 => h9) rfl dX3_isOver_1 ?_
  refine lv_if_eq (tgt := 25) hx hb dX3_isOver_4 (by decide) (fun _ => ?_) (fun h => absurd (by decide) h)
  refine lv_iconst (v := 0) hx hb dX3_isOver_25 (by decide) ?_
  exact rd_z hx hb hr hlocks rfl (rfl) dX3_isOver_26
set_option maxHeartbeats 4000000 in
set_option maxRecDepth 100000 in
theorem rX_X3_wonBy {l : Launch} {D : va_G} {q : Nat → Nat} {k : Nat → ClassId} {g : Nat → Nat → Int32} {gl : Nat → Nat → Int64} (p1 : Int32) : Rd l yX3_wonBy cX3_wonBy 4 (some .int) 0 D (wX q k g gl) (tyX k) [.ref (q 11), .int p1] (.int 0) := by
  refine Rd.of (by decide) (Nat.le_of_ble_eq_true rfl) ?_
  intro p e s m below meth c ls hx hb hr hml hown hts hlocks hP hK hl
  have hown : s.vm.findClass "SignalTable$Game" = some m.cls := hown
  have hl : lv_has ls 4 [(0, .ref (q 11)), (1, .int p1)] := hl
  refine lv_iconst (v := 0) hx hb dX3_wonBy_0 (by decide) ?_
  refine lv_istore_n (lv' := [(2, .int 0), (0, .ref (q 11)), (1, .int p1)]) hx hb dX3_wonBy_1 rfl hl (by decide) rfl (fun ls hl => ?_)
  refine lv_iconst (v := 0) hx hb dX3_wonBy_2 (by decide) ?_
  refine lv_istore_n (lv' := [(3, .int 0), (2, .int 0), (0, .ref (q 11)), (1, .int p1)]) hx hb dX3_wonBy_3 rfl hl (by decide) rfl (fun ls hl => ?_)
  refine lv_iload_n hx hb dX3_wonBy_4 rfl (lv_at hl 0 rfl) ?_
  refine lv_aload_n hx hb dX3_wonBy_5 rfl (lv_at hl 2 rfl) ?_
  refine va_get (D := D) (ci := 3) (v := .int 0) (C := RX3) (T := TX3) (N := 18) hx hb hts inX3 hown hK hP 11 rfl rfl 7 (by decide) (hts _ kw_438) (fun _ h9 => h9) rfl dX3_wonBy_6 ?_
  refine lv_iconst (v := 4) hx hb dX3_wonBy_9 (by decide) ?_
  refine lv_idiv hx hb dX3_wonBy_10 (by decide) ?_
  refine z_i (v := 0) (by decide) ?_
  refine lv_icmp_ge (tgt := 40) hx hb dX3_wonBy_11 (by decide) (fun _ => ?_) (fun h => absurd (by decide) h)
  refine lv_iload_n hx hb dX3_wonBy_40 rfl (lv_at hl 1 rfl) ?_
  exact rd_i hx hb hr hlocks (rfl) dX3_wonBy_41
set_option maxHeartbeats 4000000 in
set_option maxRecDepth 100000 in
theorem rX_X7_handsWithOneCard {l : Launch} {D : va_G} {q : Nat → Nat} {k : Nat → ClassId} {g : Nat → Nat → Int32} {gl : Nat → Nat → Int64} : Rd l yX7_handsWithOneCard cX7_handsWithOneCard 1 (some .int) 0 D (wX q k g gl) (tyX k) [.ref (q 25)] (.int 455) := by
  refine Rd.of (by decide) (Nat.le_of_ble_eq_true rfl) ?_
  intro p e s m below meth c ls hx hb hr hml hown hts hlocks hP hK hl
  have hown : s.vm.findClass "SignalTable$Openings" = some m.cls := hown
  have hl : lv_has ls 1 [(0, .ref (q 25))] := hl
  refine lv_aload_n hx hb dX7_handsWithOneCard_0 rfl (lv_at hl 0 rfl) ?_
  refine va_get (D := D) (ci := 7) (v := .ref (q 2)) (C := RX7) (T := TX7) (N := 2) hx hb hts inX7 hown hK hP 25 rfl rfl 0 (by decide) (hts _ kw_684) (fun _ h9 => h9) rfl dX7_handsWithOneCard_1 ?_
  refine va_get (D := D) (ci := 5) (v := .int 16) (C := RX5) (T := TX5) (N := 16) hx hb hts inX5 hown hK hP 2 rfl rfl 10 (by decide) (hts _ kw_220) (fun _ h9 => h9) rfl dX7_handsWithOneCard_4 ?_
  refine lv_if_le (tgt := 36) hx hb dX7_handsWithOneCard_7 (by decide) (fun h => absurd h (by decide)) (fun _ => ?_)
  refine lv_aload_n hx hb dX7_handsWithOneCard_10 rfl (lv_at hl 0 rfl) ?_
  refine va_get (D := D) (ci := 7) (v := .ref (q 2)) (C := RX7) (T := TX7) (N := 2) hx hb hts inX7 hown hK hP 25 rfl rfl 0 (by decide) (hts _ kw_684) (fun _ h9 => h9) rfl dX7_handsWithOneCard_11 ?_
  refine va_get (D := D) (ci := 5) (v := .int 1820) (C := RX5) (T := TX5) (N := 16) hx hb hts inX5 hown hK hP 2 rfl rfl 15 (by decide) (hts _ kw_243) (fun _ h9 => h9) rfl dX7_handsWithOneCard_14 ?_
  refine lv_aload_n hx hb dX7_handsWithOneCard_17 rfl (lv_at hl 0 rfl) ?_
  refine va_get (D := D) (ci := 7) (v := .ref (q 2)) (C := RX7) (T := TX7) (N := 2) hx hb hts inX7 hown hK hP 25 rfl rfl 0 (by decide) (hts _ kw_684) (fun _ h9 => h9) rfl dX7_handsWithOneCard_18 ?_
  refine va_get (D := D) (ci := 5) (v := .int 4) (C := RX5) (T := TX5) (N := 16) hx hb hts inX5 hown hK hP 2 rfl rfl 11 (by decide) (hts _ kw_226) (fun _ h9 => h9) rfl dX7_handsWithOneCard_21 ?_
  refine lv_imul hx hb dX7_handsWithOneCard_24 ?_
  refine z_i (v := 7280) (by decide) ?_
  refine lv_aload_n hx hb dX7_handsWithOneCard_25 rfl (lv_at hl 0 rfl) ?_
  refine va_get (D := D) (ci := 7) (v := .ref (q 2)) (C := RX7) (T := TX7) (N := 2) hx hb hts inX7 hown hK hP 25 rfl rfl 0 (by decide) (hts _ kw_684) (fun _ h9 => h9) rfl dX7_handsWithOneCard_26 ?_
  refine va_get (D := D) (ci := 5) (v := .int 16) (C := RX5) (T := TX5) (N := 16) hx hb hts inX5 hown hK hP 2 rfl rfl 10 (by decide) (hts _ kw_220) (fun _ h9 => h9) rfl dX7_handsWithOneCard_29 ?_
  refine lv_idiv hx hb dX7_handsWithOneCard_32 (by decide) ?_
  refine z_i (v := 455) (by decide) ?_
  refine lv_goto (tgt := 37) hx hb dX7_handsWithOneCard_33 (by decide) ?_
  exact rd_i hx hb hr hlocks (rfl) dX7_handsWithOneCard_37
set_option maxHeartbeats 4000000 in
set_option maxRecDepth 100000 in
theorem rX_X7_untouched {l : Launch} {D : va_G} {q : Nat → Nat} {k : Nat → ClassId} {g : Nat → Nat → Int32} {gl : Nat → Nat → Int64} : Rd l yX7_untouched cX7_untouched 5 (some .int) 1 D (wX q k g gl) (tyX k) [.ref (q 25)] (.int 7280) := by
  refine Rd.of (by decide) (Nat.le_of_ble_eq_true rfl) ?_
  intro p e s m below meth c ls hx hb hr hml hown hts hlocks hP hK hl
  have hown : s.vm.findClass "SignalTable$Openings" = some m.cls := hown
  have hl : lv_has ls 5 [(0, .ref (q 25))] := hl
  refine lv_iconst (v := 0) hx hb dX7_untouched_0 (by decide) ?_
  refine lv_istore_n (lv' := [(1, .int 0), (0, .ref (q 25))]) hx hb dX7_untouched_1 rfl hl (by decide) rfl (fun ls hl => ?_)
  refine lv_iconst (v := 0) hx hb dX7_untouched_2 (by decide) ?_
  refine lv_istore_n (lv' := [(2, .int 0), (1, .int 0), (0, .ref (q 25))]) hx hb dX7_untouched_3 rfl hl (by decide) rfl (fun ls hl => ?_)
  refine lv_iload_n hx hb dX7_untouched_4 rfl (lv_at hl 0 rfl) ?_
  refine lv_aload_n hx hb dX7_untouched_5 rfl (lv_at hl 2 rfl) ?_
  refine va_get (D := D) (ci := 7) (v := .ref (q 2)) (C := RX7) (T := TX7) (N := 2) hx hb hts inX7 hown hK hP 25 rfl rfl 0 (by decide) (hts _ kw_684) (fun _ h9 => h9) rfl dX7_untouched_6 ?_
  refine va_get (D := D) (ci := 5) (v := .int 16) (C := RX5) (T := TX5) (N := 16) hx hb hts inX5 hown hK hP 2 rfl rfl 10 (by decide) (hts _ kw_220) (fun _ h9 => h9) rfl dX7_untouched_9 ?_
  refine lv_icmp_ge (tgt := 79) hx hb dX7_untouched_12 (by decide) (fun h => absurd h (by decide)) (fun _ => ?_)
  refine lv_iconst (v := 0) hx hb dX7_untouched_15 (by decide) ?_
  refine lv_istore_n (lv' := [(3, .int 0), (2, .int 0), (1, .int 0), (0, .ref (q 25))]) hx hb dX7_untouched_16 rfl hl (by decide) rfl (fun ls hl => ?_)
  refine lv_iconst (v := 0) hx hb dX7_untouched_17 (by decide) ?_
  refine lv_istore (lv' := [(4, .int 0), (3, .int 0), (2, .int 0), (1, .int 0), (0, .ref (q 25))]) hx hb dX7_untouched_18 hl (by decide) rfl (fun ls hl => ?_)
  refine lv_iload hx hb dX7_untouched_20 (lv_at hl 0 rfl) ?_
  refine lv_aload_n hx hb dX7_untouched_22 rfl (lv_at hl 4 rfl) ?_
  refine va_get (D := D) (ci := 7) (v := .ref (q 2)) (C := RX7) (T := TX7) (N := 2) hx hb hts inX7 hown hK hP 25 rfl rfl 0 (by decide) (hts _ kw_684) (fun _ h9 => h9) rfl dX7_untouched_23 ?_
  refine va_get (D := D) (ci := 5) (v := .int 0) (C := RX5) (T := TX5) (N := 16) hx hb hts inX5 hown hK hP 2 rfl rfl 3 (by decide) (hts _ kw_203) (fun _ h9 => h9) rfl dX7_untouched_26 ?_
  refine lv_icmp_ge (tgt := 58) hx hb dX7_untouched_29 (by decide) (fun _ => ?_) (fun h => absurd (by decide) h)
  refine lv_iload_n hx hb dX7_untouched_58 rfl (lv_at hl 3 rfl) ?_
  refine lv_iload_n hx hb dX7_untouched_59 rfl (lv_at hl 1 rfl) ?_
  refine lv_if_eq (tgt := 67) hx hb dX7_untouched_60 (by decide) (fun _ => ?_) (fun h => absurd (by decide) h)
  refine lv_aload_n hx hb dX7_untouched_67 rfl (lv_at hl 4 rfl) ?_
  refine rd_V (As := []) (rest := [.int 0]) (d := 0) caV_SignalTable_Openings_48 hx hb hml hown hts hP hK (rX_X7_handsWithOneCard) (ci := 7) (q0 := 25) rfl rfl (by decide) rfl hl.1 (Nat.le_of_ble_eq_true rfl) (by decide) dX7_untouched_68 rfl ?_
  refine lv_iadd hx hb dX7_untouched_71 ?_
  refine z_i (v := 455) (by decide) ?_
  refine lv_istore_n (lv' := [(1, .int 455), (4, .int 0), (3, .int 0), (2, .int 0), (0, .ref (q 25))]) hx hb dX7_untouched_72 rfl hl (by decide) rfl (fun ls hl => ?_)
  refine lv_iinc (v := 1) (lv' := [(2, .int 1), (1, .int 455), (4, .int 0), (3, .int 0), (0, .ref (q 25))]) hx hb dX7_untouched_73 hl (k := 3) rfl (by decide) (by decide) rfl (fun ls hl => ?_)
  refine lv_goto (tgt := 4) hx hb dX7_untouched_76 (by decide) ?_
  refine lv_iload_n hx hb dX7_untouched_4 rfl (lv_at hl 0 rfl) ?_
  refine lv_aload_n hx hb dX7_untouched_5 rfl (lv_at hl 4 rfl) ?_
  refine va_get (D := D) (ci := 7) (v := .ref (q 2)) (C := RX7) (T := TX7) (N := 2) hx hb hts inX7 hown hK hP 25 rfl rfl 0 (by decide) (hts _ kw_684) (fun _ h9 => h9) rfl dX7_untouched_6 ?_
  refine va_get (D := D) (ci := 5) (v := .int 16) (C := RX5) (T := TX5) (N := 16) hx hb hts inX5 hown hK hP 2 rfl rfl 10 (by decide) (hts _ kw_220) (fun _ h9 => h9) rfl dX7_untouched_9 ?_
  refine lv_icmp_ge (tgt := 79) hx hb dX7_untouched_12 (by decide) (fun h => absurd h (by decide)) (fun _ => ?_)
  refine lv_iconst (v := 0) hx hb dX7_untouched_15 (by decide) ?_
  refine lv_istore_n (lv' := [(3, .int 0), (2, .int 1), (1, .int 455), (4, .int 0), (0, .ref (q 25))]) hx hb dX7_untouched_16 rfl hl (by decide) rfl (fun ls hl => ?_)
  refine lv_iconst (v := 0) hx hb dX7_untouched_17 (by decide) ?_
  refine lv_istore (lv' := [(4, .int 0), (3, .int 0), (2, .int 1), (1, .int 455), (0, .ref (q 25))]) hx hb dX7_untouched_18 hl (by decide) rfl (fun ls hl => ?_)
  refine lv_iload hx hb dX7_untouched_20 (lv_at hl 0 rfl) ?_
  refine lv_aload_n hx hb dX7_untouched_22 rfl (lv_at hl 4 rfl) ?_
  refine va_get (D := D) (ci := 7) (v := .ref (q 2)) (C := RX7) (T := TX7) (N := 2) hx hb hts inX7 hown hK hP 25 rfl rfl 0 (by decide) (hts _ kw_684) (fun _ h9 => h9) rfl dX7_untouched_23 ?_
  refine va_get (D := D) (ci := 5) (v := .int 0) (C := RX5) (T := TX5) (N := 16) hx hb hts inX5 hown hK hP 2 rfl rfl 3 (by decide) (hts _ kw_203) (fun _ h9 => h9) rfl dX7_untouched_26 ?_
  refine lv_icmp_ge (tgt := 58) hx hb dX7_untouched_29 (by decide) (fun _ => ?_) (fun h => absurd (by decide) h)
  refine lv_iload_n hx hb dX7_untouched_58 rfl (lv_at hl 3 rfl) ?_
  refine lv_iload_n hx hb dX7_untouched_59 rfl (lv_at hl 1 rfl) ?_
  refine lv_if_eq (tgt := 67) hx hb dX7_untouched_60 (by decide) (fun _ => ?_) (fun h => absurd (by decide) h)
  refine lv_aload_n hx hb dX7_untouched_67 rfl (lv_at hl 4 rfl) ?_
  refine rd_V (As := []) (rest := [.int 455]) (d := 0) caV_SignalTable_Openings_48 hx hb hml hown hts hP hK (rX_X7_handsWithOneCard) (ci := 7) (q0 := 25) rfl rfl (by decide) rfl hl.1 (Nat.le_of_ble_eq_true rfl) (by decide) dX7_untouched_68 rfl ?_
  refine lv_iadd hx hb dX7_untouched_71 ?_
  refine z_i (v := 910) (by decide) ?_
  refine lv_istore_n (lv' := [(1, .int 910), (4, .int 0), (3, .int 0), (2, .int 1), (0, .ref (q 25))]) hx hb dX7_untouched_72 rfl hl (by decide) rfl (fun ls hl => ?_)
  refine lv_iinc (v := 2) (lv' := [(2, .int 2), (1, .int 910), (4, .int 0), (3, .int 0), (0, .ref (q 25))]) hx hb dX7_untouched_73 hl (k := 3) rfl (by decide) (by decide) rfl (fun ls hl => ?_)
  refine lv_goto (tgt := 4) hx hb dX7_untouched_76 (by decide) ?_
  refine lv_iload_n hx hb dX7_untouched_4 rfl (lv_at hl 0 rfl) ?_
  refine lv_aload_n hx hb dX7_untouched_5 rfl (lv_at hl 4 rfl) ?_
  refine va_get (D := D) (ci := 7) (v := .ref (q 2)) (C := RX7) (T := TX7) (N := 2) hx hb hts inX7 hown hK hP 25 rfl rfl 0 (by decide) (hts _ kw_684) (fun _ h9 => h9) rfl dX7_untouched_6 ?_
  refine va_get (D := D) (ci := 5) (v := .int 16) (C := RX5) (T := TX5) (N := 16) hx hb hts inX5 hown hK hP 2 rfl rfl 10 (by decide) (hts _ kw_220) (fun _ h9 => h9) rfl dX7_untouched_9 ?_
  refine lv_icmp_ge (tgt := 79) hx hb dX7_untouched_12 (by decide) (fun h => absurd h (by decide)) (fun _ => ?_)
  refine lv_iconst (v := 0) hx hb dX7_untouched_15 (by decide) ?_
  refine lv_istore_n (lv' := [(3, .int 0), (2, .int 2), (1, .int 910), (4, .int 0), (0, .ref (q 25))]) hx hb dX7_untouched_16 rfl hl (by decide) rfl (fun ls hl => ?_)
  refine lv_iconst (v := 0) hx hb dX7_untouched_17 (by decide) ?_
  refine lv_istore (lv' := [(4, .int 0), (3, .int 0), (2, .int 2), (1, .int 910), (0, .ref (q 25))]) hx hb dX7_untouched_18 hl (by decide) rfl (fun ls hl => ?_)
  refine lv_iload hx hb dX7_untouched_20 (lv_at hl 0 rfl) ?_
  refine lv_aload_n hx hb dX7_untouched_22 rfl (lv_at hl 4 rfl) ?_
  refine va_get (D := D) (ci := 7) (v := .ref (q 2)) (C := RX7) (T := TX7) (N := 2) hx hb hts inX7 hown hK hP 25 rfl rfl 0 (by decide) (hts _ kw_684) (fun _ h9 => h9) rfl dX7_untouched_23 ?_
  refine va_get (D := D) (ci := 5) (v := .int 0) (C := RX5) (T := TX5) (N := 16) hx hb hts inX5 hown hK hP 2 rfl rfl 3 (by decide) (hts _ kw_203) (fun _ h9 => h9) rfl dX7_untouched_26 ?_
  refine lv_icmp_ge (tgt := 58) hx hb dX7_untouched_29 (by decide) (fun _ => ?_) (fun h => absurd (by decide) h)
  refine lv_iload_n hx hb dX7_untouched_58 rfl (lv_at hl 3 rfl) ?_
  refine lv_iload_n hx hb dX7_untouched_59 rfl (lv_at hl 1 rfl) ?_
  refine lv_if_eq (tgt := 67) hx hb dX7_untouched_60 (by decide) (fun _ => ?_) (fun h => absurd (by decide) h)
  refine lv_aload_n hx hb dX7_untouched_67 rfl (lv_at hl 4 rfl) ?_
  refine rd_V (As := []) (rest := [.int 910]) (d := 0) caV_SignalTable_Openings_48 hx hb hml hown hts hP hK (rX_X7_handsWithOneCard) (ci := 7) (q0 := 25) rfl rfl (by decide) rfl hl.1 (Nat.le_of_ble_eq_true rfl) (by decide) dX7_untouched_68 rfl ?_
  refine lv_iadd hx hb dX7_untouched_71 ?_
  refine z_i (v := 1365) (by decide) ?_
  refine lv_istore_n (lv' := [(1, .int 1365), (4, .int 0), (3, .int 0), (2, .int 2), (0, .ref (q 25))]) hx hb dX7_untouched_72 rfl hl (by decide) rfl (fun ls hl => ?_)
  refine lv_iinc (v := 3) (lv' := [(2, .int 3), (1, .int 1365), (4, .int 0), (3, .int 0), (0, .ref (q 25))]) hx hb dX7_untouched_73 hl (k := 3) rfl (by decide) (by decide) rfl (fun ls hl => ?_)
  refine lv_goto (tgt := 4) hx hb dX7_untouched_76 (by decide) ?_
  refine lv_iload_n hx hb dX7_untouched_4 rfl (lv_at hl 0 rfl) ?_
  refine lv_aload_n hx hb dX7_untouched_5 rfl (lv_at hl 4 rfl) ?_
  refine va_get (D := D) (ci := 7) (v := .ref (q 2)) (C := RX7) (T := TX7) (N := 2) hx hb hts inX7 hown hK hP 25 rfl rfl 0 (by decide) (hts _ kw_684) (fun _ h9 => h9) rfl dX7_untouched_6 ?_
  refine va_get (D := D) (ci := 5) (v := .int 16) (C := RX5) (T := TX5) (N := 16) hx hb hts inX5 hown hK hP 2 rfl rfl 10 (by decide) (hts _ kw_220) (fun _ h9 => h9) rfl dX7_untouched_9 ?_
  refine lv_icmp_ge (tgt := 79) hx hb dX7_untouched_12 (by decide) (fun h => absurd h (by decide)) (fun _ => ?_)
  refine lv_iconst (v := 0) hx hb dX7_untouched_15 (by decide) ?_
  refine lv_istore_n (lv' := [(3, .int 0), (2, .int 3), (1, .int 1365), (4, .int 0), (0, .ref (q 25))]) hx hb dX7_untouched_16 rfl hl (by decide) rfl (fun ls hl => ?_)
  refine lv_iconst (v := 0) hx hb dX7_untouched_17 (by decide) ?_
  refine lv_istore (lv' := [(4, .int 0), (3, .int 0), (2, .int 3), (1, .int 1365), (0, .ref (q 25))]) hx hb dX7_untouched_18 hl (by decide) rfl (fun ls hl => ?_)
  refine lv_iload hx hb dX7_untouched_20 (lv_at hl 0 rfl) ?_
  refine lv_aload_n hx hb dX7_untouched_22 rfl (lv_at hl 4 rfl) ?_
  refine va_get (D := D) (ci := 7) (v := .ref (q 2)) (C := RX7) (T := TX7) (N := 2) hx hb hts inX7 hown hK hP 25 rfl rfl 0 (by decide) (hts _ kw_684) (fun _ h9 => h9) rfl dX7_untouched_23 ?_
  refine va_get (D := D) (ci := 5) (v := .int 0) (C := RX5) (T := TX5) (N := 16) hx hb hts inX5 hown hK hP 2 rfl rfl 3 (by decide) (hts _ kw_203) (fun _ h9 => h9) rfl dX7_untouched_26 ?_
  refine lv_icmp_ge (tgt := 58) hx hb dX7_untouched_29 (by decide) (fun _ => ?_) (fun h => absurd (by decide) h)
  refine lv_iload_n hx hb dX7_untouched_58 rfl (lv_at hl 3 rfl) ?_
  refine lv_iload_n hx hb dX7_untouched_59 rfl (lv_at hl 1 rfl) ?_
  refine lv_if_eq (tgt := 67) hx hb dX7_untouched_60 (by decide) (fun _ => ?_) (fun h => absurd (by decide) h)
  refine lv_aload_n hx hb dX7_untouched_67 rfl (lv_at hl 4 rfl) ?_
  refine rd_V (As := []) (rest := [.int 1365]) (d := 0) caV_SignalTable_Openings_48 hx hb hml hown hts hP hK (rX_X7_handsWithOneCard) (ci := 7) (q0 := 25) rfl rfl (by decide) rfl hl.1 (Nat.le_of_ble_eq_true rfl) (by decide) dX7_untouched_68 rfl ?_
  refine lv_iadd hx hb dX7_untouched_71 ?_
  refine z_i (v := 1820) (by decide) ?_
  refine lv_istore_n (lv' := [(1, .int 1820), (4, .int 0), (3, .int 0), (2, .int 3), (0, .ref (q 25))]) hx hb dX7_untouched_72 rfl hl (by decide) rfl (fun ls hl => ?_)
  refine lv_iinc (v := 4) (lv' := [(2, .int 4), (1, .int 1820), (4, .int 0), (3, .int 0), (0, .ref (q 25))]) hx hb dX7_untouched_73 hl (k := 3) rfl (by decide) (by decide) rfl (fun ls hl => ?_)
  refine lv_goto (tgt := 4) hx hb dX7_untouched_76 (by decide) ?_
  refine lv_iload_n hx hb dX7_untouched_4 rfl (lv_at hl 0 rfl) ?_
  refine lv_aload_n hx hb dX7_untouched_5 rfl (lv_at hl 4 rfl) ?_
  refine va_get (D := D) (ci := 7) (v := .ref (q 2)) (C := RX7) (T := TX7) (N := 2) hx hb hts inX7 hown hK hP 25 rfl rfl 0 (by decide) (hts _ kw_684) (fun _ h9 => h9) rfl dX7_untouched_6 ?_
  refine va_get (D := D) (ci := 5) (v := .int 16) (C := RX5) (T := TX5) (N := 16) hx hb hts inX5 hown hK hP 2 rfl rfl 10 (by decide) (hts _ kw_220) (fun _ h9 => h9) rfl dX7_untouched_9 ?_
  refine lv_icmp_ge (tgt := 79) hx hb dX7_untouched_12 (by decide) (fun h => absurd h (by decide)) (fun _ => ?_)
  refine lv_iconst (v := 0) hx hb dX7_untouched_15 (by decide) ?_
  refine lv_istore_n (lv' := [(3, .int 0), (2, .int 4), (1, .int 1820), (4, .int 0), (0, .ref (q 25))]) hx hb dX7_untouched_16 rfl hl (by decide) rfl (fun ls hl => ?_)
  refine lv_iconst (v := 0) hx hb dX7_untouched_17 (by decide) ?_
  refine lv_istore (lv' := [(4, .int 0), (3, .int 0), (2, .int 4), (1, .int 1820), (0, .ref (q 25))]) hx hb dX7_untouched_18 hl (by decide) rfl (fun ls hl => ?_)
  refine lv_iload hx hb dX7_untouched_20 (lv_at hl 0 rfl) ?_
  refine lv_aload_n hx hb dX7_untouched_22 rfl (lv_at hl 4 rfl) ?_
  refine va_get (D := D) (ci := 7) (v := .ref (q 2)) (C := RX7) (T := TX7) (N := 2) hx hb hts inX7 hown hK hP 25 rfl rfl 0 (by decide) (hts _ kw_684) (fun _ h9 => h9) rfl dX7_untouched_23 ?_
  refine va_get (D := D) (ci := 5) (v := .int 0) (C := RX5) (T := TX5) (N := 16) hx hb hts inX5 hown hK hP 2 rfl rfl 3 (by decide) (hts _ kw_203) (fun _ h9 => h9) rfl dX7_untouched_26 ?_
  refine lv_icmp_ge (tgt := 58) hx hb dX7_untouched_29 (by decide) (fun _ => ?_) (fun h => absurd (by decide) h)
  refine lv_iload_n hx hb dX7_untouched_58 rfl (lv_at hl 3 rfl) ?_
  refine lv_iload_n hx hb dX7_untouched_59 rfl (lv_at hl 1 rfl) ?_
  refine lv_if_eq (tgt := 67) hx hb dX7_untouched_60 (by decide) (fun _ => ?_) (fun h => absurd (by decide) h)
  refine lv_aload_n hx hb dX7_untouched_67 rfl (lv_at hl 4 rfl) ?_
  refine rd_V (As := []) (rest := [.int 1820]) (d := 0) caV_SignalTable_Openings_48 hx hb hml hown hts hP hK (rX_X7_handsWithOneCard) (ci := 7) (q0 := 25) rfl rfl (by decide) rfl hl.1 (Nat.le_of_ble_eq_true rfl) (by decide) dX7_untouched_68 rfl ?_
  refine lv_iadd hx hb dX7_untouched_71 ?_
  refine z_i (v := 2275) (by decide) ?_
  refine lv_istore_n (lv' := [(1, .int 2275), (4, .int 0), (3, .int 0), (2, .int 4), (0, .ref (q 25))]) hx hb dX7_untouched_72 rfl hl (by decide) rfl (fun ls hl => ?_)
  refine lv_iinc (v := 5) (lv' := [(2, .int 5), (1, .int 2275), (4, .int 0), (3, .int 0), (0, .ref (q 25))]) hx hb dX7_untouched_73 hl (k := 3) rfl (by decide) (by decide) rfl (fun ls hl => ?_)
  refine lv_goto (tgt := 4) hx hb dX7_untouched_76 (by decide) ?_
  refine lv_iload_n hx hb dX7_untouched_4 rfl (lv_at hl 0 rfl) ?_
  refine lv_aload_n hx hb dX7_untouched_5 rfl (lv_at hl 4 rfl) ?_
  refine va_get (D := D) (ci := 7) (v := .ref (q 2)) (C := RX7) (T := TX7) (N := 2) hx hb hts inX7 hown hK hP 25 rfl rfl 0 (by decide) (hts _ kw_684) (fun _ h9 => h9) rfl dX7_untouched_6 ?_
  refine va_get (D := D) (ci := 5) (v := .int 16) (C := RX5) (T := TX5) (N := 16) hx hb hts inX5 hown hK hP 2 rfl rfl 10 (by decide) (hts _ kw_220) (fun _ h9 => h9) rfl dX7_untouched_9 ?_
  refine lv_icmp_ge (tgt := 79) hx hb dX7_untouched_12 (by decide) (fun h => absurd h (by decide)) (fun _ => ?_)
  refine lv_iconst (v := 0) hx hb dX7_untouched_15 (by decide) ?_
  refine lv_istore_n (lv' := [(3, .int 0), (2, .int 5), (1, .int 2275), (4, .int 0), (0, .ref (q 25))]) hx hb dX7_untouched_16 rfl hl (by decide) rfl (fun ls hl => ?_)
  refine lv_iconst (v := 0) hx hb dX7_untouched_17 (by decide) ?_
  refine lv_istore (lv' := [(4, .int 0), (3, .int 0), (2, .int 5), (1, .int 2275), (0, .ref (q 25))]) hx hb dX7_untouched_18 hl (by decide) rfl (fun ls hl => ?_)
  refine lv_iload hx hb dX7_untouched_20 (lv_at hl 0 rfl) ?_
  refine lv_aload_n hx hb dX7_untouched_22 rfl (lv_at hl 4 rfl) ?_
  refine va_get (D := D) (ci := 7) (v := .ref (q 2)) (C := RX7) (T := TX7) (N := 2) hx hb hts inX7 hown hK hP 25 rfl rfl 0 (by decide) (hts _ kw_684) (fun _ h9 => h9) rfl dX7_untouched_23 ?_
  refine va_get (D := D) (ci := 5) (v := .int 0) (C := RX5) (T := TX5) (N := 16) hx hb hts inX5 hown hK hP 2 rfl rfl 3 (by decide) (hts _ kw_203) (fun _ h9 => h9) rfl dX7_untouched_26 ?_
  refine lv_icmp_ge (tgt := 58) hx hb dX7_untouched_29 (by decide) (fun _ => ?_) (fun h => absurd (by decide) h)
  refine lv_iload_n hx hb dX7_untouched_58 rfl (lv_at hl 3 rfl) ?_
  refine lv_iload_n hx hb dX7_untouched_59 rfl (lv_at hl 1 rfl) ?_
  refine lv_if_eq (tgt := 67) hx hb dX7_untouched_60 (by decide) (fun _ => ?_) (fun h => absurd (by decide) h)
  refine lv_aload_n hx hb dX7_untouched_67 rfl (lv_at hl 4 rfl) ?_
  refine rd_V (As := []) (rest := [.int 2275]) (d := 0) caV_SignalTable_Openings_48 hx hb hml hown hts hP hK (rX_X7_handsWithOneCard) (ci := 7) (q0 := 25) rfl rfl (by decide) rfl hl.1 (Nat.le_of_ble_eq_true rfl) (by decide) dX7_untouched_68 rfl ?_
  refine lv_iadd hx hb dX7_untouched_71 ?_
  refine z_i (v := 2730) (by decide) ?_
  refine lv_istore_n (lv' := [(1, .int 2730), (4, .int 0), (3, .int 0), (2, .int 5), (0, .ref (q 25))]) hx hb dX7_untouched_72 rfl hl (by decide) rfl (fun ls hl => ?_)
  refine lv_iinc (v := 6) (lv' := [(2, .int 6), (1, .int 2730), (4, .int 0), (3, .int 0), (0, .ref (q 25))]) hx hb dX7_untouched_73 hl (k := 3) rfl (by decide) (by decide) rfl (fun ls hl => ?_)
  refine lv_goto (tgt := 4) hx hb dX7_untouched_76 (by decide) ?_
  refine lv_iload_n hx hb dX7_untouched_4 rfl (lv_at hl 0 rfl) ?_
  refine lv_aload_n hx hb dX7_untouched_5 rfl (lv_at hl 4 rfl) ?_
  refine va_get (D := D) (ci := 7) (v := .ref (q 2)) (C := RX7) (T := TX7) (N := 2) hx hb hts inX7 hown hK hP 25 rfl rfl 0 (by decide) (hts _ kw_684) (fun _ h9 => h9) rfl dX7_untouched_6 ?_
  refine va_get (D := D) (ci := 5) (v := .int 16) (C := RX5) (T := TX5) (N := 16) hx hb hts inX5 hown hK hP 2 rfl rfl 10 (by decide) (hts _ kw_220) (fun _ h9 => h9) rfl dX7_untouched_9 ?_
  refine lv_icmp_ge (tgt := 79) hx hb dX7_untouched_12 (by decide) (fun h => absurd h (by decide)) (fun _ => ?_)
  refine lv_iconst (v := 0) hx hb dX7_untouched_15 (by decide) ?_
  refine lv_istore_n (lv' := [(3, .int 0), (2, .int 6), (1, .int 2730), (4, .int 0), (0, .ref (q 25))]) hx hb dX7_untouched_16 rfl hl (by decide) rfl (fun ls hl => ?_)
  refine lv_iconst (v := 0) hx hb dX7_untouched_17 (by decide) ?_
  refine lv_istore (lv' := [(4, .int 0), (3, .int 0), (2, .int 6), (1, .int 2730), (0, .ref (q 25))]) hx hb dX7_untouched_18 hl (by decide) rfl (fun ls hl => ?_)
  refine lv_iload hx hb dX7_untouched_20 (lv_at hl 0 rfl) ?_
  refine lv_aload_n hx hb dX7_untouched_22 rfl (lv_at hl 4 rfl) ?_
  refine va_get (D := D) (ci := 7) (v := .ref (q 2)) (C := RX7) (T := TX7) (N := 2) hx hb hts inX7 hown hK hP 25 rfl rfl 0 (by decide) (hts _ kw_684) (fun _ h9 => h9) rfl dX7_untouched_23 ?_
  refine va_get (D := D) (ci := 5) (v := .int 0) (C := RX5) (T := TX5) (N := 16) hx hb hts inX5 hown hK hP 2 rfl rfl 3 (by decide) (hts _ kw_203) (fun _ h9 => h9) rfl dX7_untouched_26 ?_
  refine lv_icmp_ge (tgt := 58) hx hb dX7_untouched_29 (by decide) (fun _ => ?_) (fun h => absurd (by decide) h)
  refine lv_iload_n hx hb dX7_untouched_58 rfl (lv_at hl 3 rfl) ?_
  refine lv_iload_n hx hb dX7_untouched_59 rfl (lv_at hl 1 rfl) ?_
  refine lv_if_eq (tgt := 67) hx hb dX7_untouched_60 (by decide) (fun _ => ?_) (fun h => absurd (by decide) h)
  refine lv_aload_n hx hb dX7_untouched_67 rfl (lv_at hl 4 rfl) ?_
  refine rd_V (As := []) (rest := [.int 2730]) (d := 0) caV_SignalTable_Openings_48 hx hb hml hown hts hP hK (rX_X7_handsWithOneCard) (ci := 7) (q0 := 25) rfl rfl (by decide) rfl hl.1 (Nat.le_of_ble_eq_true rfl) (by decide) dX7_untouched_68 rfl ?_
  refine lv_iadd hx hb dX7_untouched_71 ?_
  refine z_i (v := 3185) (by decide) ?_
  refine lv_istore_n (lv' := [(1, .int 3185), (4, .int 0), (3, .int 0), (2, .int 6), (0, .ref (q 25))]) hx hb dX7_untouched_72 rfl hl (by decide) rfl (fun ls hl => ?_)
  refine lv_iinc (v := 7) (lv' := [(2, .int 7), (1, .int 3185), (4, .int 0), (3, .int 0), (0, .ref (q 25))]) hx hb dX7_untouched_73 hl (k := 3) rfl (by decide) (by decide) rfl (fun ls hl => ?_)
  refine lv_goto (tgt := 4) hx hb dX7_untouched_76 (by decide) ?_
  refine lv_iload_n hx hb dX7_untouched_4 rfl (lv_at hl 0 rfl) ?_
  refine lv_aload_n hx hb dX7_untouched_5 rfl (lv_at hl 4 rfl) ?_
  refine va_get (D := D) (ci := 7) (v := .ref (q 2)) (C := RX7) (T := TX7) (N := 2) hx hb hts inX7 hown hK hP 25 rfl rfl 0 (by decide) (hts _ kw_684) (fun _ h9 => h9) rfl dX7_untouched_6 ?_
  refine va_get (D := D) (ci := 5) (v := .int 16) (C := RX5) (T := TX5) (N := 16) hx hb hts inX5 hown hK hP 2 rfl rfl 10 (by decide) (hts _ kw_220) (fun _ h9 => h9) rfl dX7_untouched_9 ?_
  refine lv_icmp_ge (tgt := 79) hx hb dX7_untouched_12 (by decide) (fun h => absurd h (by decide)) (fun _ => ?_)
  refine lv_iconst (v := 0) hx hb dX7_untouched_15 (by decide) ?_
  refine lv_istore_n (lv' := [(3, .int 0), (2, .int 7), (1, .int 3185), (4, .int 0), (0, .ref (q 25))]) hx hb dX7_untouched_16 rfl hl (by decide) rfl (fun ls hl => ?_)
  refine lv_iconst (v := 0) hx hb dX7_untouched_17 (by decide) ?_
  refine lv_istore (lv' := [(4, .int 0), (3, .int 0), (2, .int 7), (1, .int 3185), (0, .ref (q 25))]) hx hb dX7_untouched_18 hl (by decide) rfl (fun ls hl => ?_)
  refine lv_iload hx hb dX7_untouched_20 (lv_at hl 0 rfl) ?_
  refine lv_aload_n hx hb dX7_untouched_22 rfl (lv_at hl 4 rfl) ?_
  refine va_get (D := D) (ci := 7) (v := .ref (q 2)) (C := RX7) (T := TX7) (N := 2) hx hb hts inX7 hown hK hP 25 rfl rfl 0 (by decide) (hts _ kw_684) (fun _ h9 => h9) rfl dX7_untouched_23 ?_
  refine va_get (D := D) (ci := 5) (v := .int 0) (C := RX5) (T := TX5) (N := 16) hx hb hts inX5 hown hK hP 2 rfl rfl 3 (by decide) (hts _ kw_203) (fun _ h9 => h9) rfl dX7_untouched_26 ?_
  refine lv_icmp_ge (tgt := 58) hx hb dX7_untouched_29 (by decide) (fun _ => ?_) (fun h => absurd (by decide) h)
  refine lv_iload_n hx hb dX7_untouched_58 rfl (lv_at hl 3 rfl) ?_
  refine lv_iload_n hx hb dX7_untouched_59 rfl (lv_at hl 1 rfl) ?_
  refine lv_if_eq (tgt := 67) hx hb dX7_untouched_60 (by decide) (fun _ => ?_) (fun h => absurd (by decide) h)
  refine lv_aload_n hx hb dX7_untouched_67 rfl (lv_at hl 4 rfl) ?_
  refine rd_V (As := []) (rest := [.int 3185]) (d := 0) caV_SignalTable_Openings_48 hx hb hml hown hts hP hK (rX_X7_handsWithOneCard) (ci := 7) (q0 := 25) rfl rfl (by decide) rfl hl.1 (Nat.le_of_ble_eq_true rfl) (by decide) dX7_untouched_68 rfl ?_
  refine lv_iadd hx hb dX7_untouched_71 ?_
  refine z_i (v := 3640) (by decide) ?_
  refine lv_istore_n (lv' := [(1, .int 3640), (4, .int 0), (3, .int 0), (2, .int 7), (0, .ref (q 25))]) hx hb dX7_untouched_72 rfl hl (by decide) rfl (fun ls hl => ?_)
  refine lv_iinc (v := 8) (lv' := [(2, .int 8), (1, .int 3640), (4, .int 0), (3, .int 0), (0, .ref (q 25))]) hx hb dX7_untouched_73 hl (k := 3) rfl (by decide) (by decide) rfl (fun ls hl => ?_)
  refine lv_goto (tgt := 4) hx hb dX7_untouched_76 (by decide) ?_
  refine lv_iload_n hx hb dX7_untouched_4 rfl (lv_at hl 0 rfl) ?_
  refine lv_aload_n hx hb dX7_untouched_5 rfl (lv_at hl 4 rfl) ?_
  refine va_get (D := D) (ci := 7) (v := .ref (q 2)) (C := RX7) (T := TX7) (N := 2) hx hb hts inX7 hown hK hP 25 rfl rfl 0 (by decide) (hts _ kw_684) (fun _ h9 => h9) rfl dX7_untouched_6 ?_
  refine va_get (D := D) (ci := 5) (v := .int 16) (C := RX5) (T := TX5) (N := 16) hx hb hts inX5 hown hK hP 2 rfl rfl 10 (by decide) (hts _ kw_220) (fun _ h9 => h9) rfl dX7_untouched_9 ?_
  refine lv_icmp_ge (tgt := 79) hx hb dX7_untouched_12 (by decide) (fun h => absurd h (by decide)) (fun _ => ?_)
  refine lv_iconst (v := 0) hx hb dX7_untouched_15 (by decide) ?_
  refine lv_istore_n (lv' := [(3, .int 0), (2, .int 8), (1, .int 3640), (4, .int 0), (0, .ref (q 25))]) hx hb dX7_untouched_16 rfl hl (by decide) rfl (fun ls hl => ?_)
  refine lv_iconst (v := 0) hx hb dX7_untouched_17 (by decide) ?_
  refine lv_istore (lv' := [(4, .int 0), (3, .int 0), (2, .int 8), (1, .int 3640), (0, .ref (q 25))]) hx hb dX7_untouched_18 hl (by decide) rfl (fun ls hl => ?_)
  refine lv_iload hx hb dX7_untouched_20 (lv_at hl 0 rfl) ?_
  refine lv_aload_n hx hb dX7_untouched_22 rfl (lv_at hl 4 rfl) ?_
  refine va_get (D := D) (ci := 7) (v := .ref (q 2)) (C := RX7) (T := TX7) (N := 2) hx hb hts inX7 hown hK hP 25 rfl rfl 0 (by decide) (hts _ kw_684) (fun _ h9 => h9) rfl dX7_untouched_23 ?_
  refine va_get (D := D) (ci := 5) (v := .int 0) (C := RX5) (T := TX5) (N := 16) hx hb hts inX5 hown hK hP 2 rfl rfl 3 (by decide) (hts _ kw_203) (fun _ h9 => h9) rfl dX7_untouched_26 ?_
  refine lv_icmp_ge (tgt := 58) hx hb dX7_untouched_29 (by decide) (fun _ => ?_) (fun h => absurd (by decide) h)
  refine lv_iload_n hx hb dX7_untouched_58 rfl (lv_at hl 3 rfl) ?_
  refine lv_iload_n hx hb dX7_untouched_59 rfl (lv_at hl 1 rfl) ?_
  refine lv_if_eq (tgt := 67) hx hb dX7_untouched_60 (by decide) (fun _ => ?_) (fun h => absurd (by decide) h)
  refine lv_aload_n hx hb dX7_untouched_67 rfl (lv_at hl 4 rfl) ?_
  refine rd_V (As := []) (rest := [.int 3640]) (d := 0) caV_SignalTable_Openings_48 hx hb hml hown hts hP hK (rX_X7_handsWithOneCard) (ci := 7) (q0 := 25) rfl rfl (by decide) rfl hl.1 (Nat.le_of_ble_eq_true rfl) (by decide) dX7_untouched_68 rfl ?_
  refine lv_iadd hx hb dX7_untouched_71 ?_
  refine z_i (v := 4095) (by decide) ?_
  refine lv_istore_n (lv' := [(1, .int 4095), (4, .int 0), (3, .int 0), (2, .int 8), (0, .ref (q 25))]) hx hb dX7_untouched_72 rfl hl (by decide) rfl (fun ls hl => ?_)
  refine lv_iinc (v := 9) (lv' := [(2, .int 9), (1, .int 4095), (4, .int 0), (3, .int 0), (0, .ref (q 25))]) hx hb dX7_untouched_73 hl (k := 3) rfl (by decide) (by decide) rfl (fun ls hl => ?_)
  refine lv_goto (tgt := 4) hx hb dX7_untouched_76 (by decide) ?_
  refine lv_iload_n hx hb dX7_untouched_4 rfl (lv_at hl 0 rfl) ?_
  refine lv_aload_n hx hb dX7_untouched_5 rfl (lv_at hl 4 rfl) ?_
  refine va_get (D := D) (ci := 7) (v := .ref (q 2)) (C := RX7) (T := TX7) (N := 2) hx hb hts inX7 hown hK hP 25 rfl rfl 0 (by decide) (hts _ kw_684) (fun _ h9 => h9) rfl dX7_untouched_6 ?_
  refine va_get (D := D) (ci := 5) (v := .int 16) (C := RX5) (T := TX5) (N := 16) hx hb hts inX5 hown hK hP 2 rfl rfl 10 (by decide) (hts _ kw_220) (fun _ h9 => h9) rfl dX7_untouched_9 ?_
  refine lv_icmp_ge (tgt := 79) hx hb dX7_untouched_12 (by decide) (fun h => absurd h (by decide)) (fun _ => ?_)
  refine lv_iconst (v := 0) hx hb dX7_untouched_15 (by decide) ?_
  refine lv_istore_n (lv' := [(3, .int 0), (2, .int 9), (1, .int 4095), (4, .int 0), (0, .ref (q 25))]) hx hb dX7_untouched_16 rfl hl (by decide) rfl (fun ls hl => ?_)
  refine lv_iconst (v := 0) hx hb dX7_untouched_17 (by decide) ?_
  refine lv_istore (lv' := [(4, .int 0), (3, .int 0), (2, .int 9), (1, .int 4095), (0, .ref (q 25))]) hx hb dX7_untouched_18 hl (by decide) rfl (fun ls hl => ?_)
  refine lv_iload hx hb dX7_untouched_20 (lv_at hl 0 rfl) ?_
  refine lv_aload_n hx hb dX7_untouched_22 rfl (lv_at hl 4 rfl) ?_
  refine va_get (D := D) (ci := 7) (v := .ref (q 2)) (C := RX7) (T := TX7) (N := 2) hx hb hts inX7 hown hK hP 25 rfl rfl 0 (by decide) (hts _ kw_684) (fun _ h9 => h9) rfl dX7_untouched_23 ?_
  refine va_get (D := D) (ci := 5) (v := .int 0) (C := RX5) (T := TX5) (N := 16) hx hb hts inX5 hown hK hP 2 rfl rfl 3 (by decide) (hts _ kw_203) (fun _ h9 => h9) rfl dX7_untouched_26 ?_
  refine lv_icmp_ge (tgt := 58) hx hb dX7_untouched_29 (by decide) (fun _ => ?_) (fun h => absurd (by decide) h)
  refine lv_iload_n hx hb dX7_untouched_58 rfl (lv_at hl 3 rfl) ?_
  refine lv_iload_n hx hb dX7_untouched_59 rfl (lv_at hl 1 rfl) ?_
  refine lv_if_eq (tgt := 67) hx hb dX7_untouched_60 (by decide) (fun _ => ?_) (fun h => absurd (by decide) h)
  refine lv_aload_n hx hb dX7_untouched_67 rfl (lv_at hl 4 rfl) ?_
  refine rd_V (As := []) (rest := [.int 4095]) (d := 0) caV_SignalTable_Openings_48 hx hb hml hown hts hP hK (rX_X7_handsWithOneCard) (ci := 7) (q0 := 25) rfl rfl (by decide) rfl hl.1 (Nat.le_of_ble_eq_true rfl) (by decide) dX7_untouched_68 rfl ?_
  refine lv_iadd hx hb dX7_untouched_71 ?_
  refine z_i (v := 4550) (by decide) ?_
  refine lv_istore_n (lv' := [(1, .int 4550), (4, .int 0), (3, .int 0), (2, .int 9), (0, .ref (q 25))]) hx hb dX7_untouched_72 rfl hl (by decide) rfl (fun ls hl => ?_)
  refine lv_iinc (v := 10) (lv' := [(2, .int 10), (1, .int 4550), (4, .int 0), (3, .int 0), (0, .ref (q 25))]) hx hb dX7_untouched_73 hl (k := 3) rfl (by decide) (by decide) rfl (fun ls hl => ?_)
  refine lv_goto (tgt := 4) hx hb dX7_untouched_76 (by decide) ?_
  refine lv_iload_n hx hb dX7_untouched_4 rfl (lv_at hl 0 rfl) ?_
  refine lv_aload_n hx hb dX7_untouched_5 rfl (lv_at hl 4 rfl) ?_
  refine va_get (D := D) (ci := 7) (v := .ref (q 2)) (C := RX7) (T := TX7) (N := 2) hx hb hts inX7 hown hK hP 25 rfl rfl 0 (by decide) (hts _ kw_684) (fun _ h9 => h9) rfl dX7_untouched_6 ?_
  refine va_get (D := D) (ci := 5) (v := .int 16) (C := RX5) (T := TX5) (N := 16) hx hb hts inX5 hown hK hP 2 rfl rfl 10 (by decide) (hts _ kw_220) (fun _ h9 => h9) rfl dX7_untouched_9 ?_
  refine lv_icmp_ge (tgt := 79) hx hb dX7_untouched_12 (by decide) (fun h => absurd h (by decide)) (fun _ => ?_)
  refine lv_iconst (v := 0) hx hb dX7_untouched_15 (by decide) ?_
  refine lv_istore_n (lv' := [(3, .int 0), (2, .int 10), (1, .int 4550), (4, .int 0), (0, .ref (q 25))]) hx hb dX7_untouched_16 rfl hl (by decide) rfl (fun ls hl => ?_)
  refine lv_iconst (v := 0) hx hb dX7_untouched_17 (by decide) ?_
  refine lv_istore (lv' := [(4, .int 0), (3, .int 0), (2, .int 10), (1, .int 4550), (0, .ref (q 25))]) hx hb dX7_untouched_18 hl (by decide) rfl (fun ls hl => ?_)
  refine lv_iload hx hb dX7_untouched_20 (lv_at hl 0 rfl) ?_
  refine lv_aload_n hx hb dX7_untouched_22 rfl (lv_at hl 4 rfl) ?_
  refine va_get (D := D) (ci := 7) (v := .ref (q 2)) (C := RX7) (T := TX7) (N := 2) hx hb hts inX7 hown hK hP 25 rfl rfl 0 (by decide) (hts _ kw_684) (fun _ h9 => h9) rfl dX7_untouched_23 ?_
  refine va_get (D := D) (ci := 5) (v := .int 0) (C := RX5) (T := TX5) (N := 16) hx hb hts inX5 hown hK hP 2 rfl rfl 3 (by decide) (hts _ kw_203) (fun _ h9 => h9) rfl dX7_untouched_26 ?_
  refine lv_icmp_ge (tgt := 58) hx hb dX7_untouched_29 (by decide) (fun _ => ?_) (fun h => absurd (by decide) h)
  refine lv_iload_n hx hb dX7_untouched_58 rfl (lv_at hl 3 rfl) ?_
  refine lv_iload_n hx hb dX7_untouched_59 rfl (lv_at hl 1 rfl) ?_
  refine lv_if_eq (tgt := 67) hx hb dX7_untouched_60 (by decide) (fun _ => ?_) (fun h => absurd (by decide) h)
  refine lv_aload_n hx hb dX7_untouched_67 rfl (lv_at hl 4 rfl) ?_
  refine rd_V (As := []) (rest := [.int 4550]) (d := 0) caV_SignalTable_Openings_48 hx hb hml hown hts hP hK (rX_X7_handsWithOneCard) (ci := 7) (q0 := 25) rfl rfl (by decide) rfl hl.1 (Nat.le_of_ble_eq_true rfl) (by decide) dX7_untouched_68 rfl ?_
  refine lv_iadd hx hb dX7_untouched_71 ?_
  refine z_i (v := 5005) (by decide) ?_
  refine lv_istore_n (lv' := [(1, .int 5005), (4, .int 0), (3, .int 0), (2, .int 10), (0, .ref (q 25))]) hx hb dX7_untouched_72 rfl hl (by decide) rfl (fun ls hl => ?_)
  refine lv_iinc (v := 11) (lv' := [(2, .int 11), (1, .int 5005), (4, .int 0), (3, .int 0), (0, .ref (q 25))]) hx hb dX7_untouched_73 hl (k := 3) rfl (by decide) (by decide) rfl (fun ls hl => ?_)
  refine lv_goto (tgt := 4) hx hb dX7_untouched_76 (by decide) ?_
  refine lv_iload_n hx hb dX7_untouched_4 rfl (lv_at hl 0 rfl) ?_
  refine lv_aload_n hx hb dX7_untouched_5 rfl (lv_at hl 4 rfl) ?_
  refine va_get (D := D) (ci := 7) (v := .ref (q 2)) (C := RX7) (T := TX7) (N := 2) hx hb hts inX7 hown hK hP 25 rfl rfl 0 (by decide) (hts _ kw_684) (fun _ h9 => h9) rfl dX7_untouched_6 ?_
  refine va_get (D := D) (ci := 5) (v := .int 16) (C := RX5) (T := TX5) (N := 16) hx hb hts inX5 hown hK hP 2 rfl rfl 10 (by decide) (hts _ kw_220) (fun _ h9 => h9) rfl dX7_untouched_9 ?_
  refine lv_icmp_ge (tgt := 79) hx hb dX7_untouched_12 (by decide) (fun h => absurd h (by decide)) (fun _ => ?_)
  refine lv_iconst (v := 0) hx hb dX7_untouched_15 (by decide) ?_
  refine lv_istore_n (lv' := [(3, .int 0), (2, .int 11), (1, .int 5005), (4, .int 0), (0, .ref (q 25))]) hx hb dX7_untouched_16 rfl hl (by decide) rfl (fun ls hl => ?_)
  refine lv_iconst (v := 0) hx hb dX7_untouched_17 (by decide) ?_
  refine lv_istore (lv' := [(4, .int 0), (3, .int 0), (2, .int 11), (1, .int 5005), (0, .ref (q 25))]) hx hb dX7_untouched_18 hl (by decide) rfl (fun ls hl => ?_)
  refine lv_iload hx hb dX7_untouched_20 (lv_at hl 0 rfl) ?_
  refine lv_aload_n hx hb dX7_untouched_22 rfl (lv_at hl 4 rfl) ?_
  refine va_get (D := D) (ci := 7) (v := .ref (q 2)) (C := RX7) (T := TX7) (N := 2) hx hb hts inX7 hown hK hP 25 rfl rfl 0 (by decide) (hts _ kw_684) (fun _ h9 => h9) rfl dX7_untouched_23 ?_
  refine va_get (D := D) (ci := 5) (v := .int 0) (C := RX5) (T := TX5) (N := 16) hx hb hts inX5 hown hK hP 2 rfl rfl 3 (by decide) (hts _ kw_203) (fun _ h9 => h9) rfl dX7_untouched_26 ?_
  refine lv_icmp_ge (tgt := 58) hx hb dX7_untouched_29 (by decide) (fun _ => ?_) (fun h => absurd (by decide) h)
  refine lv_iload_n hx hb dX7_untouched_58 rfl (lv_at hl 3 rfl) ?_
  refine lv_iload_n hx hb dX7_untouched_59 rfl (lv_at hl 1 rfl) ?_
  refine lv_if_eq (tgt := 67) hx hb dX7_untouched_60 (by decide) (fun _ => ?_) (fun h => absurd (by decide) h)
  refine lv_aload_n hx hb dX7_untouched_67 rfl (lv_at hl 4 rfl) ?_
  refine rd_V (As := []) (rest := [.int 5005]) (d := 0) caV_SignalTable_Openings_48 hx hb hml hown hts hP hK (rX_X7_handsWithOneCard) (ci := 7) (q0 := 25) rfl rfl (by decide) rfl hl.1 (Nat.le_of_ble_eq_true rfl) (by decide) dX7_untouched_68 rfl ?_
  refine lv_iadd hx hb dX7_untouched_71 ?_
  refine z_i (v := 5460) (by decide) ?_
  refine lv_istore_n (lv' := [(1, .int 5460), (4, .int 0), (3, .int 0), (2, .int 11), (0, .ref (q 25))]) hx hb dX7_untouched_72 rfl hl (by decide) rfl (fun ls hl => ?_)
  refine lv_iinc (v := 12) (lv' := [(2, .int 12), (1, .int 5460), (4, .int 0), (3, .int 0), (0, .ref (q 25))]) hx hb dX7_untouched_73 hl (k := 3) rfl (by decide) (by decide) rfl (fun ls hl => ?_)
  refine lv_goto (tgt := 4) hx hb dX7_untouched_76 (by decide) ?_
  refine lv_iload_n hx hb dX7_untouched_4 rfl (lv_at hl 0 rfl) ?_
  refine lv_aload_n hx hb dX7_untouched_5 rfl (lv_at hl 4 rfl) ?_
  refine va_get (D := D) (ci := 7) (v := .ref (q 2)) (C := RX7) (T := TX7) (N := 2) hx hb hts inX7 hown hK hP 25 rfl rfl 0 (by decide) (hts _ kw_684) (fun _ h9 => h9) rfl dX7_untouched_6 ?_
  refine va_get (D := D) (ci := 5) (v := .int 16) (C := RX5) (T := TX5) (N := 16) hx hb hts inX5 hown hK hP 2 rfl rfl 10 (by decide) (hts _ kw_220) (fun _ h9 => h9) rfl dX7_untouched_9 ?_
  refine lv_icmp_ge (tgt := 79) hx hb dX7_untouched_12 (by decide) (fun h => absurd h (by decide)) (fun _ => ?_)
  refine lv_iconst (v := 0) hx hb dX7_untouched_15 (by decide) ?_
  refine lv_istore_n (lv' := [(3, .int 0), (2, .int 12), (1, .int 5460), (4, .int 0), (0, .ref (q 25))]) hx hb dX7_untouched_16 rfl hl (by decide) rfl (fun ls hl => ?_)
  refine lv_iconst (v := 0) hx hb dX7_untouched_17 (by decide) ?_
  refine lv_istore (lv' := [(4, .int 0), (3, .int 0), (2, .int 12), (1, .int 5460), (0, .ref (q 25))]) hx hb dX7_untouched_18 hl (by decide) rfl (fun ls hl => ?_)
  refine lv_iload hx hb dX7_untouched_20 (lv_at hl 0 rfl) ?_
  refine lv_aload_n hx hb dX7_untouched_22 rfl (lv_at hl 4 rfl) ?_
  refine va_get (D := D) (ci := 7) (v := .ref (q 2)) (C := RX7) (T := TX7) (N := 2) hx hb hts inX7 hown hK hP 25 rfl rfl 0 (by decide) (hts _ kw_684) (fun _ h9 => h9) rfl dX7_untouched_23 ?_
  refine va_get (D := D) (ci := 5) (v := .int 0) (C := RX5) (T := TX5) (N := 16) hx hb hts inX5 hown hK hP 2 rfl rfl 3 (by decide) (hts _ kw_203) (fun _ h9 => h9) rfl dX7_untouched_26 ?_
  refine lv_icmp_ge (tgt := 58) hx hb dX7_untouched_29 (by decide) (fun _ => ?_) (fun h => absurd (by decide) h)
  refine lv_iload_n hx hb dX7_untouched_58 rfl (lv_at hl 3 rfl) ?_
  refine lv_iload_n hx hb dX7_untouched_59 rfl (lv_at hl 1 rfl) ?_
  refine lv_if_eq (tgt := 67) hx hb dX7_untouched_60 (by decide) (fun _ => ?_) (fun h => absurd (by decide) h)
  refine lv_aload_n hx hb dX7_untouched_67 rfl (lv_at hl 4 rfl) ?_
  refine rd_V (As := []) (rest := [.int 5460]) (d := 0) caV_SignalTable_Openings_48 hx hb hml hown hts hP hK (rX_X7_handsWithOneCard) (ci := 7) (q0 := 25) rfl rfl (by decide) rfl hl.1 (Nat.le_of_ble_eq_true rfl) (by decide) dX7_untouched_68 rfl ?_
  refine lv_iadd hx hb dX7_untouched_71 ?_
  refine z_i (v := 5915) (by decide) ?_
  refine lv_istore_n (lv' := [(1, .int 5915), (4, .int 0), (3, .int 0), (2, .int 12), (0, .ref (q 25))]) hx hb dX7_untouched_72 rfl hl (by decide) rfl (fun ls hl => ?_)
  refine lv_iinc (v := 13) (lv' := [(2, .int 13), (1, .int 5915), (4, .int 0), (3, .int 0), (0, .ref (q 25))]) hx hb dX7_untouched_73 hl (k := 3) rfl (by decide) (by decide) rfl (fun ls hl => ?_)
  refine lv_goto (tgt := 4) hx hb dX7_untouched_76 (by decide) ?_
  refine lv_iload_n hx hb dX7_untouched_4 rfl (lv_at hl 0 rfl) ?_
  refine lv_aload_n hx hb dX7_untouched_5 rfl (lv_at hl 4 rfl) ?_
  refine va_get (D := D) (ci := 7) (v := .ref (q 2)) (C := RX7) (T := TX7) (N := 2) hx hb hts inX7 hown hK hP 25 rfl rfl 0 (by decide) (hts _ kw_684) (fun _ h9 => h9) rfl dX7_untouched_6 ?_
  refine va_get (D := D) (ci := 5) (v := .int 16) (C := RX5) (T := TX5) (N := 16) hx hb hts inX5 hown hK hP 2 rfl rfl 10 (by decide) (hts _ kw_220) (fun _ h9 => h9) rfl dX7_untouched_9 ?_
  refine lv_icmp_ge (tgt := 79) hx hb dX7_untouched_12 (by decide) (fun h => absurd h (by decide)) (fun _ => ?_)
  refine lv_iconst (v := 0) hx hb dX7_untouched_15 (by decide) ?_
  refine lv_istore_n (lv' := [(3, .int 0), (2, .int 13), (1, .int 5915), (4, .int 0), (0, .ref (q 25))]) hx hb dX7_untouched_16 rfl hl (by decide) rfl (fun ls hl => ?_)
  refine lv_iconst (v := 0) hx hb dX7_untouched_17 (by decide) ?_
  refine lv_istore (lv' := [(4, .int 0), (3, .int 0), (2, .int 13), (1, .int 5915), (0, .ref (q 25))]) hx hb dX7_untouched_18 hl (by decide) rfl (fun ls hl => ?_)
  refine lv_iload hx hb dX7_untouched_20 (lv_at hl 0 rfl) ?_
  refine lv_aload_n hx hb dX7_untouched_22 rfl (lv_at hl 4 rfl) ?_
  refine va_get (D := D) (ci := 7) (v := .ref (q 2)) (C := RX7) (T := TX7) (N := 2) hx hb hts inX7 hown hK hP 25 rfl rfl 0 (by decide) (hts _ kw_684) (fun _ h9 => h9) rfl dX7_untouched_23 ?_
  refine va_get (D := D) (ci := 5) (v := .int 0) (C := RX5) (T := TX5) (N := 16) hx hb hts inX5 hown hK hP 2 rfl rfl 3 (by decide) (hts _ kw_203) (fun _ h9 => h9) rfl dX7_untouched_26 ?_
  refine lv_icmp_ge (tgt := 58) hx hb dX7_untouched_29 (by decide) (fun _ => ?_) (fun h => absurd (by decide) h)
  refine lv_iload_n hx hb dX7_untouched_58 rfl (lv_at hl 3 rfl) ?_
  refine lv_iload_n hx hb dX7_untouched_59 rfl (lv_at hl 1 rfl) ?_
  refine lv_if_eq (tgt := 67) hx hb dX7_untouched_60 (by decide) (fun _ => ?_) (fun h => absurd (by decide) h)
  refine lv_aload_n hx hb dX7_untouched_67 rfl (lv_at hl 4 rfl) ?_
  refine rd_V (As := []) (rest := [.int 5915]) (d := 0) caV_SignalTable_Openings_48 hx hb hml hown hts hP hK (rX_X7_handsWithOneCard) (ci := 7) (q0 := 25) rfl rfl (by decide) rfl hl.1 (Nat.le_of_ble_eq_true rfl) (by decide) dX7_untouched_68 rfl ?_
  refine lv_iadd hx hb dX7_untouched_71 ?_
  refine z_i (v := 6370) (by decide) ?_
  refine lv_istore_n (lv' := [(1, .int 6370), (4, .int 0), (3, .int 0), (2, .int 13), (0, .ref (q 25))]) hx hb dX7_untouched_72 rfl hl (by decide) rfl (fun ls hl => ?_)
  refine lv_iinc (v := 14) (lv' := [(2, .int 14), (1, .int 6370), (4, .int 0), (3, .int 0), (0, .ref (q 25))]) hx hb dX7_untouched_73 hl (k := 3) rfl (by decide) (by decide) rfl (fun ls hl => ?_)
  refine lv_goto (tgt := 4) hx hb dX7_untouched_76 (by decide) ?_
  refine lv_iload_n hx hb dX7_untouched_4 rfl (lv_at hl 0 rfl) ?_
  refine lv_aload_n hx hb dX7_untouched_5 rfl (lv_at hl 4 rfl) ?_
  refine va_get (D := D) (ci := 7) (v := .ref (q 2)) (C := RX7) (T := TX7) (N := 2) hx hb hts inX7 hown hK hP 25 rfl rfl 0 (by decide) (hts _ kw_684) (fun _ h9 => h9) rfl dX7_untouched_6 ?_
  refine va_get (D := D) (ci := 5) (v := .int 16) (C := RX5) (T := TX5) (N := 16) hx hb hts inX5 hown hK hP 2 rfl rfl 10 (by decide) (hts _ kw_220) (fun _ h9 => h9) rfl dX7_untouched_9 ?_
  refine lv_icmp_ge (tgt := 79) hx hb dX7_untouched_12 (by decide) (fun h => absurd h (by decide)) (fun _ => ?_)
  refine lv_iconst (v := 0) hx hb dX7_untouched_15 (by decide) ?_
  refine lv_istore_n (lv' := [(3, .int 0), (2, .int 14), (1, .int 6370), (4, .int 0), (0, .ref (q 25))]) hx hb dX7_untouched_16 rfl hl (by decide) rfl (fun ls hl => ?_)
  refine lv_iconst (v := 0) hx hb dX7_untouched_17 (by decide) ?_
  refine lv_istore (lv' := [(4, .int 0), (3, .int 0), (2, .int 14), (1, .int 6370), (0, .ref (q 25))]) hx hb dX7_untouched_18 hl (by decide) rfl (fun ls hl => ?_)
  refine lv_iload hx hb dX7_untouched_20 (lv_at hl 0 rfl) ?_
  refine lv_aload_n hx hb dX7_untouched_22 rfl (lv_at hl 4 rfl) ?_
  refine va_get (D := D) (ci := 7) (v := .ref (q 2)) (C := RX7) (T := TX7) (N := 2) hx hb hts inX7 hown hK hP 25 rfl rfl 0 (by decide) (hts _ kw_684) (fun _ h9 => h9) rfl dX7_untouched_23 ?_
  refine va_get (D := D) (ci := 5) (v := .int 0) (C := RX5) (T := TX5) (N := 16) hx hb hts inX5 hown hK hP 2 rfl rfl 3 (by decide) (hts _ kw_203) (fun _ h9 => h9) rfl dX7_untouched_26 ?_
  refine lv_icmp_ge (tgt := 58) hx hb dX7_untouched_29 (by decide) (fun _ => ?_) (fun h => absurd (by decide) h)
  refine lv_iload_n hx hb dX7_untouched_58 rfl (lv_at hl 3 rfl) ?_
  refine lv_iload_n hx hb dX7_untouched_59 rfl (lv_at hl 1 rfl) ?_
  refine lv_if_eq (tgt := 67) hx hb dX7_untouched_60 (by decide) (fun _ => ?_) (fun h => absurd (by decide) h)
  refine lv_aload_n hx hb dX7_untouched_67 rfl (lv_at hl 4 rfl) ?_
  refine rd_V (As := []) (rest := [.int 6370]) (d := 0) caV_SignalTable_Openings_48 hx hb hml hown hts hP hK (rX_X7_handsWithOneCard) (ci := 7) (q0 := 25) rfl rfl (by decide) rfl hl.1 (Nat.le_of_ble_eq_true rfl) (by decide) dX7_untouched_68 rfl ?_
  refine lv_iadd hx hb dX7_untouched_71 ?_
  refine z_i (v := 6825) (by decide) ?_
  refine lv_istore_n (lv' := [(1, .int 6825), (4, .int 0), (3, .int 0), (2, .int 14), (0, .ref (q 25))]) hx hb dX7_untouched_72 rfl hl (by decide) rfl (fun ls hl => ?_)
  refine lv_iinc (v := 15) (lv' := [(2, .int 15), (1, .int 6825), (4, .int 0), (3, .int 0), (0, .ref (q 25))]) hx hb dX7_untouched_73 hl (k := 3) rfl (by decide) (by decide) rfl (fun ls hl => ?_)
  refine lv_goto (tgt := 4) hx hb dX7_untouched_76 (by decide) ?_
  refine lv_iload_n hx hb dX7_untouched_4 rfl (lv_at hl 0 rfl) ?_
  refine lv_aload_n hx hb dX7_untouched_5 rfl (lv_at hl 4 rfl) ?_
  refine va_get (D := D) (ci := 7) (v := .ref (q 2)) (C := RX7) (T := TX7) (N := 2) hx hb hts inX7 hown hK hP 25 rfl rfl 0 (by decide) (hts _ kw_684) (fun _ h9 => h9) rfl dX7_untouched_6 ?_
  refine va_get (D := D) (ci := 5) (v := .int 16) (C := RX5) (T := TX5) (N := 16) hx hb hts inX5 hown hK hP 2 rfl rfl 10 (by decide) (hts _ kw_220) (fun _ h9 => h9) rfl dX7_untouched_9 ?_
  refine lv_icmp_ge (tgt := 79) hx hb dX7_untouched_12 (by decide) (fun h => absurd h (by decide)) (fun _ => ?_)
  refine lv_iconst (v := 0) hx hb dX7_untouched_15 (by decide) ?_
  refine lv_istore_n (lv' := [(3, .int 0), (2, .int 15), (1, .int 6825), (4, .int 0), (0, .ref (q 25))]) hx hb dX7_untouched_16 rfl hl (by decide) rfl (fun ls hl => ?_)
  refine lv_iconst (v := 0) hx hb dX7_untouched_17 (by decide) ?_
  refine lv_istore (lv' := [(4, .int 0), (3, .int 0), (2, .int 15), (1, .int 6825), (0, .ref (q 25))]) hx hb dX7_untouched_18 hl (by decide) rfl (fun ls hl => ?_)
  refine lv_iload hx hb dX7_untouched_20 (lv_at hl 0 rfl) ?_
  refine lv_aload_n hx hb dX7_untouched_22 rfl (lv_at hl 4 rfl) ?_
  refine va_get (D := D) (ci := 7) (v := .ref (q 2)) (C := RX7) (T := TX7) (N := 2) hx hb hts inX7 hown hK hP 25 rfl rfl 0 (by decide) (hts _ kw_684) (fun _ h9 => h9) rfl dX7_untouched_23 ?_
  refine va_get (D := D) (ci := 5) (v := .int 0) (C := RX5) (T := TX5) (N := 16) hx hb hts inX5 hown hK hP 2 rfl rfl 3 (by decide) (hts _ kw_203) (fun _ h9 => h9) rfl dX7_untouched_26 ?_
  refine lv_icmp_ge (tgt := 58) hx hb dX7_untouched_29 (by decide) (fun _ => ?_) (fun h => absurd (by decide) h)
  refine lv_iload_n hx hb dX7_untouched_58 rfl (lv_at hl 3 rfl) ?_
  refine lv_iload_n hx hb dX7_untouched_59 rfl (lv_at hl 1 rfl) ?_
  refine lv_if_eq (tgt := 67) hx hb dX7_untouched_60 (by decide) (fun _ => ?_) (fun h => absurd (by decide) h)
  refine lv_aload_n hx hb dX7_untouched_67 rfl (lv_at hl 4 rfl) ?_
  refine rd_V (As := []) (rest := [.int 6825]) (d := 0) caV_SignalTable_Openings_48 hx hb hml hown hts hP hK (rX_X7_handsWithOneCard) (ci := 7) (q0 := 25) rfl rfl (by decide) rfl hl.1 (Nat.le_of_ble_eq_true rfl) (by decide) dX7_untouched_68 rfl ?_
  refine lv_iadd hx hb dX7_untouched_71 ?_
  refine z_i (v := 7280) (by decide) ?_
  refine lv_istore_n (lv' := [(1, .int 7280), (4, .int 0), (3, .int 0), (2, .int 15), (0, .ref (q 25))]) hx hb dX7_untouched_72 rfl hl (by decide) rfl (fun ls hl => ?_)
  refine lv_iinc (v := 16) (lv' := [(2, .int 16), (1, .int 7280), (4, .int 0), (3, .int 0), (0, .ref (q 25))]) hx hb dX7_untouched_73 hl (k := 3) rfl (by decide) (by decide) rfl (fun ls hl => ?_)
  refine lv_goto (tgt := 4) hx hb dX7_untouched_76 (by decide) ?_
  refine lv_iload_n hx hb dX7_untouched_4 rfl (lv_at hl 0 rfl) ?_
  refine lv_aload_n hx hb dX7_untouched_5 rfl (lv_at hl 4 rfl) ?_
  refine va_get (D := D) (ci := 7) (v := .ref (q 2)) (C := RX7) (T := TX7) (N := 2) hx hb hts inX7 hown hK hP 25 rfl rfl 0 (by decide) (hts _ kw_684) (fun _ h9 => h9) rfl dX7_untouched_6 ?_
  refine va_get (D := D) (ci := 5) (v := .int 16) (C := RX5) (T := TX5) (N := 16) hx hb hts inX5 hown hK hP 2 rfl rfl 10 (by decide) (hts _ kw_220) (fun _ h9 => h9) rfl dX7_untouched_9 ?_
  refine lv_icmp_ge (tgt := 79) hx hb dX7_untouched_12 (by decide) (fun _ => ?_) (fun h => absurd (by decide) h)
  refine lv_iload_n hx hb dX7_untouched_79 rfl (lv_at hl 1 rfl) ?_
  exact rd_i hx hb hr hlocks (rfl) dX7_untouched_80
set_option maxHeartbeats 4000000 in
set_option maxRecDepth 100000 in
theorem rX_X11_isCustom {l : Launch} {D : va_G} {q : Nat → Nat} {k : Nat → ClassId} {g : Nat → Nat → Int32} {gl : Nat → Nat → Int64} (p1 : Int32) : Rd l yX11_isCustom cX11_isCustom 2 (some .boolean) 0 D (wX q k g gl) (tyX k) [.ref (q 0), .int p1] (.int 0) := by
  refine Rd.of (by decide) (Nat.le_of_ble_eq_true rfl) ?_
  intro p e s m below meth c ls hx hb hr hml hown hts hlocks hP hK hl
  have hown : s.vm.findClass "SignalTable" = some m.cls := hown
  have hl : lv_has ls 2 [(0, .ref (q 0)), (1, .int p1)] := hl
  refine lv_iload_n hx hb dX11_isCustom_0 rfl (lv_at hl 1 rfl) ?_
  refine lv_if_lt (tgt := 19) hx hb dX11_isCustom_1 (by decide) (fun c_1 => ?_) (fun c_1 => ?_)
  · skip
    refine lv_iconst (v := 0) hx hb dX11_isCustom_19 (by decide) ?_
    exact rd_z hx hb hr hlocks rfl (rfl) dX11_isCustom_20
  · skip
    refine lv_iload_n hx hb dX11_isCustom_4 rfl (lv_at hl 1 rfl) ?_
    refine lv_aload_n hx hb dX11_isCustom_5 rfl (lv_at hl 0 rfl) ?_
    refine va_get (D := D) (ci := 11) (v := .ref (q 2)) (C := RX11) (T := TX11) (N := 14) hx hb hts inX11 hown hK hP 0 rfl rfl 2 (by decide) (hts _ kw_709) (fun _ h9 => h9) rfl dX11_isCustom_6 ?_
    refine va_get (D := D) (ci := 5) (v := .int 0) (C := RX5) (T := TX5) (N := 16) hx hb hts inX5 hown hK hP 2 rfl rfl 3 (by decide) (hts _ kw_204) (fun _ h9 => h9) rfl dX11_isCustom_9 ?_
    refine lv_icmp_ge (tgt := 19) hx hb dX11_isCustom_12 (by decide) (fun c_2 => ?_) (fun c_2 => ?_)
    · skip
      refine lv_iconst (v := 0) hx hb dX11_isCustom_19 (by decide) ?_
      exact rd_z hx hb hr hlocks rfl (rfl) dX11_isCustom_20
    · skip
      exfalso
      simp only [Int32.lt_iff_toInt_lt, Int32.le_iff_toInt_le, ← Int32.toInt_inj, ti_m2, ti_m1, ti_0, ti_1, ti_2, ti_3, ti_4, ti_5, ti_6, ti_7, ti_8, ti_10, ti_20] at c_1 c_2 <;> omega
set_option maxHeartbeats 4000000 in
set_option maxRecDepth 100000 in
theorem rX_X11_areCustoms {l : Launch} {D : va_G} {q : Nat → Nat} {k : Nat → ClassId} {g : Nat → Nat → Int32} {gl : Nat → Nat → Int64} (p1 : Int32) : Rd l yX11_areCustoms cX11_areCustoms 2 (some .boolean) 0 D (wX q k g gl) (tyX k) [.ref (q 0), .int p1] (.int (if 0 ≤ p1 ∧ p1 ≤ 0 then 1 else 0)) := by
  refine Rd.of (by decide) (Nat.le_of_ble_eq_true rfl) ?_
  intro p e s m below meth c ls hx hb hr hml hown hts hlocks hP hK hl
  have hown : s.vm.findClass "SignalTable" = some m.cls := hown
  have hl : lv_has ls 2 [(0, .ref (q 0)), (1, .int p1)] := hl
  refine lv_iload_n hx hb dX11_areCustoms_0 rfl (lv_at hl 1 rfl) ?_
  refine lv_if_lt (tgt := 21) hx hb dX11_areCustoms_1 (by decide) (fun c_1 => ?_) (fun c_1 => ?_)
  · skip
    refine lv_iconst (v := 0) hx hb dX11_areCustoms_21 (by decide) ?_
    exact rd_z hx hb hr hlocks rfl (congrArg Value.int (by by_cases s_1 : 0 ≤ p1 ∧ p1 ≤ 0 <;> simp only [s_1, if_true, if_false, and_self, not_false_eq_true, not_true_eq_false] <;> first | rfl | (exfalso; simp only [Int32.lt_iff_toInt_lt, Int32.le_iff_toInt_le, ← Int32.toInt_inj, ti_m2, ti_m1, ti_0, ti_1, ti_2, ti_3, ti_4, ti_5, ti_6, ti_7, ti_8, ti_10, ti_20] at s_1 c_1 <;> omega))) dX11_areCustoms_22
  · skip
    refine lv_iload_n hx hb dX11_areCustoms_4 rfl (lv_at hl 1 rfl) ?_
    refine lv_iconst (v := 1) hx hb dX11_areCustoms_5 (by decide) ?_
    refine lv_aload_n hx hb dX11_areCustoms_6 rfl (lv_at hl 0 rfl) ?_
    refine va_get (D := D) (ci := 11) (v := .ref (q 2)) (C := RX11) (T := TX11) (N := 14) hx hb hts inX11 hown hK hP 0 rfl rfl 2 (by decide) (hts _ kw_709) (fun _ h9 => h9) rfl dX11_areCustoms_7 ?_
    refine va_get (D := D) (ci := 5) (v := .int 0) (C := RX5) (T := TX5) (N := 16) hx hb hts inX5 hown hK hP 2 rfl rfl 3 (by decide) (hts _ kw_204) (fun _ h9 => h9) rfl dX11_areCustoms_10 ?_
    refine lv_ishl hx hb dX11_areCustoms_13 ?_
    refine z_i (v := 1) (by decide) ?_
    refine lv_icmp_ge (tgt := 21) hx hb dX11_areCustoms_14 (by decide) (fun c_2 => ?_) (fun c_2 => ?_)
    · skip
      refine lv_iconst (v := 0) hx hb dX11_areCustoms_21 (by decide) ?_
      exact rd_z hx hb hr hlocks rfl (congrArg Value.int (by by_cases s_1 : 0 ≤ p1 ∧ p1 ≤ 0 <;> simp only [s_1, if_true, if_false, and_self, not_false_eq_true, not_true_eq_false] <;> first | rfl | (exfalso; simp only [Int32.lt_iff_toInt_lt, Int32.le_iff_toInt_le, ← Int32.toInt_inj, ti_m2, ti_m1, ti_0, ti_1, ti_2, ti_3, ti_4, ti_5, ti_6, ti_7, ti_8, ti_10, ti_20] at s_1 c_1 c_2 <;> omega))) dX11_areCustoms_22
    · skip
      refine lv_iconst (v := 1) hx hb dX11_areCustoms_17 (by decide) ?_
      refine lv_goto (tgt := 22) hx hb dX11_areCustoms_18 (by decide) ?_
      exact rd_z hx hb hr hlocks rfl (congrArg Value.int (by by_cases s_1 : 0 ≤ p1 ∧ p1 ≤ 0 <;> simp only [s_1, if_true, if_false, and_self, not_false_eq_true, not_true_eq_false] <;> first | rfl | (exfalso; simp only [Int32.lt_iff_toInt_lt, Int32.le_iff_toInt_le, ← Int32.toInt_inj, ti_m2, ti_m1, ti_0, ti_1, ti_2, ti_3, ti_4, ti_5, ti_6, ti_7, ti_8, ti_10, ti_20] at s_1 c_1 c_2 <;> omega))) dX11_areCustoms_22
set_option maxHeartbeats 4000000 in
set_option maxRecDepth 100000 in
theorem rX_X11_canSee {l : Launch} {D : va_G} {q : Nat → Nat} {k : Nat → ClassId} {g : Nat → Nat → Int32} {gl : Nat → Nat → Int64} (p1 p2 : Int32) : Rd l yX11_canSee cX11_canSee 3 (some .boolean) 0 D (wX q k g gl) (tyX k) [.ref (q 0), .int p1, .int p2] (.int 0) := by
  refine Rd.of (by decide) (Nat.le_of_ble_eq_true rfl) ?_
  intro p e s m below meth c ls hx hb hr hml hown hts hlocks hP hK hl
  have hown : s.vm.findClass "SignalTable" = some m.cls := hown
  have hl : lv_has ls 3 [(0, .ref (q 0)), (1, .int p1), (2, .int p2)] := hl
  refine lv_aload_n hx hb dX11_canSee_0 rfl (lv_at hl 0 rfl) ?_
  refine va_get (D := D) (ci := 11) (v := .ref (q 11)) (C := RX11) (T := TX11) (N := 14) hx hb hts inX11 hown hK hP 0 rfl rfl 5 (by decide) (hts _ kw_712) (fun _ h9 => h9) rfl dX11_canSee_1 ?_
  refine va_get (D := D) (ci := 3) (v := .int 0) (C := RX3) (T := TX3) (N := 18) hx hb hts inX3 hown hK hP 11 rfl rfl 2 (by decide) (hts _ kw_423) (fun _ h9 => h9) rfl dX11_canSee_4 ?_
  refine lv_if_eq (tgt := 30) hx hb dX11_canSee_7 (by decide) (fun _ => ?_) (fun h => absurd (by decide) h)
  refine lv_iconst (v := 0) hx hb dX11_canSee_30 (by decide) ?_
  exact rd_z hx hb hr hlocks rfl (rfl) dX11_canSee_31
set_option maxHeartbeats 4000000 in
set_option maxRecDepth 100000 in
theorem rX_X11_isInHand {l : Launch} {D : va_G} {q : Nat → Nat} {k : Nat → ClassId} {g : Nat → Nat → Int32} {gl : Nat → Nat → Int64} (p1 : Int32) : Rd l yX11_isInHand cX11_isInHand 2 (some .boolean) 0 D (wX q k g gl) (tyX k) [.ref (q 0), .int p1] (.int 0) := by
  refine Rd.of (by decide) (Nat.le_of_ble_eq_true rfl) ?_
  intro p e s m below meth c ls hx hb hr hml hown hts hlocks hP hK hl
  have hown : s.vm.findClass "SignalTable" = some m.cls := hown
  have hl : lv_has ls 2 [(0, .ref (q 0)), (1, .int p1)] := hl
  refine lv_aload_n hx hb dX11_isInHand_0 rfl (lv_at hl 0 rfl) ?_
  refine va_get (D := D) (ci := 11) (v := .ref (q 11)) (C := RX11) (T := TX11) (N := 14) hx hb hts inX11 hown hK hP 0 rfl rfl 5 (by decide) (hts _ kw_712) (fun _ h9 => h9) rfl dX11_isInHand_1 ?_
  refine va_get (D := D) (ci := 3) (v := .int (-2)) (C := RX3) (T := TX3) (N := 18) hx hb hts inX3 hown hK hP 11 rfl rfl 6 (by decide) (hts _ kw_437) (fun _ h9 => h9) rfl dX11_isInHand_4 ?_
  refine lv_if_lt (tgt := 44) hx hb dX11_isInHand_7 (by decide) (fun _ => ?_) (fun h => absurd (by decide) h)
  refine lv_iconst (v := 0) hx hb dX11_isInHand_44 (by decide) ?_
  exact rd_z hx hb hr hlocks rfl (rfl) dX11_isInHand_45
set_option maxHeartbeats 4000000 in
set_option maxRecDepth 100000 in
theorem rX_X11_refusal {l : Launch} {D : va_G} {q : Nat → Nat} {k : Nat → ClassId} {g : Nat → Nat → Int32} {gl : Nat → Nat → Int64} (p1 : Int32) : Rd l yX11_refusal cX11_refusal 2 (some .int) 1 D (wX q k g gl) (tyX k) [.ref (q 0), .int p1] (.int (-1)) := by
  refine Rd.of (by decide) (Nat.le_of_ble_eq_true rfl) ?_
  intro p e s m below meth c ls hx hb hr hml hown hts hlocks hP hK hl
  have hown : s.vm.findClass "SignalTable" = some m.cls := hown
  have hl : lv_has ls 2 [(0, .ref (q 0)), (1, .int p1)] := hl
  refine lv_aload_n hx hb dX11_refusal_0 rfl (lv_at hl 0 rfl) ?_
  refine lv_iload_n hx hb dX11_refusal_1 rfl (lv_at hl 1 rfl) ?_
  refine rd_V (As := [.int p1]) (rest := []) (d := 0) caV_SignalTable_222 hx hb hml hown hts hP hK (rX_X11_areCustoms p1) (ci := 11) (q0 := 0) rfl rfl (by decide) rfl hl.1 (Nat.le_of_ble_eq_true rfl) (by decide) dX11_refusal_2 rfl ?_
  refine lv_if_eq (tgt := 18) hx hb dX11_refusal_5 (by decide) (fun c_1 => ?_) (fun c_1 => ?_)
  · skip
    have c_1 := z_if0 c_1
    refine lv_iconst (v := (-1)) hx hb dX11_refusal_18 (by decide) ?_
    exact rd_i hx hb hr hlocks (rfl) dX11_refusal_19
  · skip
    have c_1 := z_ifn c_1
    refine lv_aload_n hx hb dX11_refusal_8 rfl (lv_at hl 0 rfl) ?_
    refine va_get (D := D) (ci := 11) (v := .ref (q 11)) (C := RX11) (T := TX11) (N := 14) hx hb hts inX11 hown hK hP 0 rfl rfl 5 (by decide) (hts _ kw_712) (fun _ h9 => h9) rfl dX11_refusal_9 ?_
    refine va_get (D := D) (ci := 3) (v := .int (-2)) (C := RX3) (T := TX3) (N := 18) hx hb hts inX3 hown hK hP 11 rfl rfl 6 (by decide) (hts _ kw_437) (fun _ h9 => h9) rfl dX11_refusal_12 ?_
    refine lv_if_ge (tgt := 20) hx hb dX11_refusal_15 (by decide) (fun h => absurd h (by decide)) (fun _ => ?_)
    refine lv_iconst (v := (-1)) hx hb dX11_refusal_18 (by decide) ?_
    exact rd_i hx hb hr hlocks (rfl) dX11_refusal_19
set_option maxHeartbeats 4000000 in
set_option maxRecDepth 100000 in
theorem rX_X11_canGain {l : Launch} {D : va_G} {q : Nat → Nat} {k : Nat → ClassId} {g : Nat → Nat → Int32} {gl : Nat → Nat → Int64} (p1 : Int32) : Rd l yX11_canGain cX11_canGain 2 (some .boolean) 0 D (wX q k g gl) (tyX k) [.ref (q 0), .int p1] (.int 0) := by
  refine Rd.of (by decide) (Nat.le_of_ble_eq_true rfl) ?_
  intro p e s m below meth c ls hx hb hr hml hown hts hlocks hP hK hl
  have hown : s.vm.findClass "SignalTable" = some m.cls := hown
  have hl : lv_has ls 2 [(0, .ref (q 0)), (1, .int p1)] := hl
  refine lv_iload_n hx hb dX11_canGain_0 rfl (lv_at hl 1 rfl) ?_
  refine lv_iconst (v := 1) hx hb dX11_canGain_1 (by decide) ?_
  refine lv_icmp_lt (tgt := 27) hx hb dX11_canGain_2 (by decide) (fun c_1 => ?_) (fun c_1 => ?_)
  · skip
    refine lv_iconst (v := 0) hx hb dX11_canGain_27 (by decide) ?_
    exact rd_z hx hb hr hlocks rfl (rfl) dX11_canGain_28
  · skip
    refine lv_iload_n hx hb dX11_canGain_5 rfl (lv_at hl 1 rfl) ?_
    refine lv_bipush (v := 20) hx hb dX11_canGain_6 (by decide) ?_
    refine lv_icmp_gt (tgt := 27) hx hb dX11_canGain_8 (by decide) (fun c_2 => ?_) (fun c_2 => ?_)
    · skip
      refine lv_iconst (v := 0) hx hb dX11_canGain_27 (by decide) ?_
      exact rd_z hx hb hr hlocks rfl (rfl) dX11_canGain_28
    · skip
      refine lv_aload_n hx hb dX11_canGain_11 rfl (lv_at hl 0 rfl) ?_
      refine va_get (D := D) (ci := 11) (v := .ref (q 2)) (C := RX11) (T := TX11) (N := 14) hx hb hts inX11 hown hK hP 0 rfl rfl 2 (by decide) (hts _ kw_709) (fun _ h9 => h9) rfl dX11_canGain_12 ?_
      refine va_get (D := D) (ci := 5) (v := .int 16) (C := RX5) (T := TX5) (N := 16) hx hb hts inX5 hown hK hP 2 rfl rfl 10 (by decide) (hts _ kw_225) (fun _ h9 => h9) rfl dX11_canGain_15 ?_
      refine lv_bipush (v := 8) hx hb dX11_canGain_18 (by decide) ?_
      refine lv_icmp_ne (tgt := 27) hx hb dX11_canGain_20 (by decide) (fun _ => ?_) (fun h => absurd h (by decide))
      refine lv_iconst (v := 0) hx hb dX11_canGain_27 (by decide) ?_
      exact rd_z hx hb hr hlocks rfl (rfl) dX11_canGain_28
set_option maxHeartbeats 4000000 in
set_option maxRecDepth 100000 in
theorem rX_X11_slotsInUse {l : Launch} {D : va_G} {q : Nat → Nat} {k : Nat → ClassId} {g : Nat → Nat → Int32} {gl : Nat → Nat → Int64} : Rd l yX11_slotsInUse cX11_slotsInUse 3 (some .int) 0 D (wX q k g gl) (tyX k) [.ref (q 0)] (.int 0) := by
  refine Rd.of (by decide) (Nat.le_of_ble_eq_true rfl) ?_
  intro p e s m below meth c ls hx hb hr hml hown hts hlocks hP hK hl
  have hown : s.vm.findClass "SignalTable" = some m.cls := hown
  have hl : lv_has ls 3 [(0, .ref (q 0))] := hl
  refine lv_iconst (v := 0) hx hb dX11_slotsInUse_0 (by decide) ?_
  refine lv_istore_n (lv' := [(1, .int 0), (0, .ref (q 0))]) hx hb dX11_slotsInUse_1 rfl hl (by decide) rfl (fun ls hl => ?_)
  refine lv_iconst (v := 0) hx hb dX11_slotsInUse_2 (by decide) ?_
  refine lv_istore_n (lv' := [(2, .int 0), (1, .int 0), (0, .ref (q 0))]) hx hb dX11_slotsInUse_3 rfl hl (by decide) rfl (fun ls hl => ?_)
  refine lv_iload_n hx hb dX11_slotsInUse_4 rfl (lv_at hl 0 rfl) ?_
  refine lv_iconst (v := 2) hx hb dX11_slotsInUse_5 (by decide) ?_
  refine lv_icmp_ge (tgt := 35) hx hb dX11_slotsInUse_6 (by decide) (fun h => absurd h (by decide)) (fun _ => ?_)
  refine lv_iload_n hx hb dX11_slotsInUse_9 rfl (lv_at hl 1 rfl) ?_
  refine lv_aload_n hx hb dX11_slotsInUse_10 rfl (lv_at hl 2 rfl) ?_
  refine va_get (D := D) (ci := 11) (v := .ref (q 16)) (C := RX11) (T := TX11) (N := 14) hx hb hts inX11 hown hK hP 0 rfl rfl 7 (by decide) (hts _ kw_714) (fun _ h9 => h9) rfl dX11_slotsInUse_11 ?_
  refine lv_iload_n hx hb dX11_slotsInUse_14 rfl (lv_at hl 0 rfl) ?_
  refine va_aldq hx hb hK hP 16 10 rfl rfl (z_in (by decide)) dX11_slotsInUse_15 ?_
  refine z_v (v := .ref (q 17)) (by rfl) ?_
  refine va_get (D := D) (ci := 3) (v := .int 0) (C := RX3) (T := TX3) (N := 18) hx hb hts inX3 hown hK hP 17 rfl rfl 2 (by decide) (hts _ kw_423) (fun _ h9 => h9) rfl dX11_slotsInUse_16 ?_
  refine lv_if_eq (tgt := 26) hx hb dX11_slotsInUse_19 (by decide) (fun _ => ?_) (fun h => absurd (by decide) h)
  refine lv_iconst (v := 0) hx hb dX11_slotsInUse_26 (by decide) ?_
  refine lv_iadd hx hb dX11_slotsInUse_27 ?_
  refine z_i (v := 0) (by decide) ?_
  refine lv_istore_n (lv' := [(1, .int 0), (2, .int 0), (0, .ref (q 0))]) hx hb dX11_slotsInUse_28 rfl hl (by decide) rfl (fun ls hl => ?_)
  refine lv_iinc (v := 1) (lv' := [(2, .int 1), (1, .int 0), (0, .ref (q 0))]) hx hb dX11_slotsInUse_29 hl (k := 1) rfl (by decide) (by decide) rfl (fun ls hl => ?_)
  refine lv_goto (tgt := 4) hx hb dX11_slotsInUse_32 (by decide) ?_
  refine lv_iload_n hx hb dX11_slotsInUse_4 rfl (lv_at hl 0 rfl) ?_
  refine lv_iconst (v := 2) hx hb dX11_slotsInUse_5 (by decide) ?_
  refine lv_icmp_ge (tgt := 35) hx hb dX11_slotsInUse_6 (by decide) (fun h => absurd h (by decide)) (fun _ => ?_)
  refine lv_iload_n hx hb dX11_slotsInUse_9 rfl (lv_at hl 1 rfl) ?_
  refine lv_aload_n hx hb dX11_slotsInUse_10 rfl (lv_at hl 2 rfl) ?_
  refine va_get (D := D) (ci := 11) (v := .ref (q 16)) (C := RX11) (T := TX11) (N := 14) hx hb hts inX11 hown hK hP 0 rfl rfl 7 (by decide) (hts _ kw_714) (fun _ h9 => h9) rfl dX11_slotsInUse_11 ?_
  refine lv_iload_n hx hb dX11_slotsInUse_14 rfl (lv_at hl 0 rfl) ?_
  refine va_aldq hx hb hK hP 16 10 rfl rfl (z_in (by decide)) dX11_slotsInUse_15 ?_
  refine z_v (v := .ref (q 18)) (by rfl) ?_
  refine va_get (D := D) (ci := 3) (v := .int 0) (C := RX3) (T := TX3) (N := 18) hx hb hts inX3 hown hK hP 18 rfl rfl 2 (by decide) (hts _ kw_423) (fun _ h9 => h9) rfl dX11_slotsInUse_16 ?_
  refine lv_if_eq (tgt := 26) hx hb dX11_slotsInUse_19 (by decide) (fun _ => ?_) (fun h => absurd (by decide) h)
  refine lv_iconst (v := 0) hx hb dX11_slotsInUse_26 (by decide) ?_
  refine lv_iadd hx hb dX11_slotsInUse_27 ?_
  refine z_i (v := 0) (by decide) ?_
  refine lv_istore_n (lv' := [(1, .int 0), (2, .int 1), (0, .ref (q 0))]) hx hb dX11_slotsInUse_28 rfl hl (by decide) rfl (fun ls hl => ?_)
  refine lv_iinc (v := 2) (lv' := [(2, .int 2), (1, .int 0), (0, .ref (q 0))]) hx hb dX11_slotsInUse_29 hl (k := 1) rfl (by decide) (by decide) rfl (fun ls hl => ?_)
  refine lv_goto (tgt := 4) hx hb dX11_slotsInUse_32 (by decide) ?_
  refine lv_iload_n hx hb dX11_slotsInUse_4 rfl (lv_at hl 0 rfl) ?_
  refine lv_iconst (v := 2) hx hb dX11_slotsInUse_5 (by decide) ?_
  refine lv_icmp_ge (tgt := 35) hx hb dX11_slotsInUse_6 (by decide) (fun _ => ?_) (fun h => absurd (by decide) h)
  refine lv_iload_n hx hb dX11_slotsInUse_35 rfl (lv_at hl 1 rfl) ?_
  exact rd_i hx hb hr hlocks (rfl) dX11_slotsInUse_36
set_option maxHeartbeats 4000000 in
set_option maxRecDepth 100000 in
theorem rX_X11_place {l : Launch} {D : va_G} {q : Nat → Nat} {k : Nat → ClassId} {g : Nat → Nat → Int32} {gl : Nat → Nat → Int64} : Rd l yX11_place cX11_place 1 (some .int) 0 D (wX q k g gl) (tyX k) [.ref (q 0)] (.int (-1)) := by
  refine Rd.of (by decide) (Nat.le_of_ble_eq_true rfl) ?_
  intro p e s m below meth c ls hx hb hr hml hown hts hlocks hP hK hl
  have hown : s.vm.findClass "SignalTable" = some m.cls := hown
  have hl : lv_has ls 1 [(0, .ref (q 0))] := hl
  refine lv_aload_n hx hb dX11_place_0 rfl (lv_at hl 0 rfl) ?_
  refine va_get (D := D) (ci := 11) (v := .ref (q 6)) (C := RX11) (T := TX11) (N := 14) hx hb hts inX11 hown hK hP 0 rfl rfl 4 (by decide) (hts _ kw_711) (fun _ h9 => h9) rfl dX11_place_1 ?_
  refine va_get (D := D) (ci := 8) (v := .int (-1)) (C := RX8) (T := TX8) (N := 11) hx hb hts inX8 hown hK hP 6 rfl rfl 8 (by decide) (hts _ kw_388) (fun _ h9 => h9) rfl dX11_place_4 ?_
  exact rd_i hx hb hr hlocks (rfl) dX11_place_7
set_option maxHeartbeats 4000000 in
set_option maxRecDepth 100000 in
theorem rX_X11_lead {l : Launch} {D : va_G} {q : Nat → Nat} {k : Nat → ClassId} {g : Nat → Nat → Int32} {gl : Nat → Nat → Int64} (p1 : Int32) : Rd l yX11_lead cX11_lead 2 (some .boolean) 0 D (wX q k g gl) (tyX k) [.ref (q 0), .int p1] (.int 0) := by
  refine Rd.of (by decide) (Nat.le_of_ble_eq_true rfl) ?_
  intro p e s m below meth c ls hx hb hr hml hown hts hlocks hP hK hl
  have hown : s.vm.findClass "SignalTable" = some m.cls := hown
  have hl : lv_has ls 2 [(0, .ref (q 0)), (1, .int p1)] := hl
  refine lv_aload_n hx hb dX11_lead_0 rfl (lv_at hl 0 rfl) ?_
  refine va_get (D := D) (ci := 11) (v := .ref (q 11)) (C := RX11) (T := TX11) (N := 14) hx hb hts inX11 hown hK hP 0 rfl rfl 5 (by decide) (hts _ kw_712) (fun _ h9 => h9) rfl dX11_lead_1 ?_
  refine va_get (D := D) (ci := 3) (v := .int 0) (C := RX3) (T := TX3) (N := 18) hx hb hts inX3 hown hK hP 11 rfl rfl 2 (by decide) (hts _ kw_423) (fun _ h9 => h9) rfl dX11_lead_4 ?_
  refine lv_if_eq (tgt := 28) hx hb dX11_lead_7 (by decide) (fun _ => ?_) (fun h => absurd (by decide) h)
  refine lv_iconst (v := 0) hx hb dX11_lead_28 (by decide) ?_
  exact rd_z hx hb hr hlocks rfl (rfl) dX11_lead_29
set_option maxHeartbeats 4000000 in
set_option maxRecDepth 100000 in
theorem rX_X11_hand {l : Launch} {D : va_G} {q : Nat → Nat} {k : Nat → ClassId} {g : Nat → Nat → Int32} {gl : Nat → Nat → Int64} (p1 p2 : Int32) : Rd l yX11_hand cX11_hand 3 (some .int) 0 D (wX q k g gl) (tyX k) [.ref (q 0), .int p1, .int p2] (.int (-1)) := by
  refine Rd.of (by decide) (Nat.le_of_ble_eq_true rfl) ?_
  intro p e s m below meth c ls hx hb hr hml hown hts hlocks hP hK hl
  have hown : s.vm.findClass "SignalTable" = some m.cls := hown
  have hl : lv_has ls 3 [(0, .ref (q 0)), (1, .int p1), (2, .int p2)] := hl
  refine lv_aload_n hx hb dX11_hand_0 rfl (lv_at hl 0 rfl) ?_
  refine va_get (D := D) (ci := 11) (v := .ref (q 11)) (C := RX11) (T := TX11) (N := 14) hx hb hts inX11 hown hK hP 0 rfl rfl 5 (by decide) (hts _ kw_712) (fun _ h9 => h9) rfl dX11_hand_1 ?_
  refine va_get (D := D) (ci := 3) (v := .int 0) (C := RX3) (T := TX3) (N := 18) hx hb hts inX3 hown hK hP 11 rfl rfl 2 (by decide) (hts _ kw_423) (fun _ h9 => h9) rfl dX11_hand_4 ?_
  refine lv_if_eq (tgt := 18) hx hb dX11_hand_7 (by decide) (fun _ => ?_) (fun h => absurd (by decide) h)
  refine lv_iconst (v := (-1)) hx hb dX11_hand_18 (by decide) ?_
  exact rd_i hx hb hr hlocks (rfl) dX11_hand_19
set_option maxHeartbeats 4000000 in
set_option maxRecDepth 100000 in
theorem rX_X11_turn {l : Launch} {D : va_G} {q : Nat → Nat} {k : Nat → ClassId} {g : Nat → Nat → Int32} {gl : Nat → Nat → Int64} : Rd l yX11_turn cX11_turn 1 (some .int) 0 D (wX q k g gl) (tyX k) [.ref (q 0)] (.int (-2)) := by
  refine Rd.of (by decide) (Nat.le_of_ble_eq_true rfl) ?_
  intro p e s m below meth c ls hx hb hr hml hown hts hlocks hP hK hl
  have hown : s.vm.findClass "SignalTable" = some m.cls := hown
  have hl : lv_has ls 1 [(0, .ref (q 0))] := hl
  refine lv_aload_n hx hb dX11_turn_0 rfl (lv_at hl 0 rfl) ?_
  refine va_get (D := D) (ci := 11) (v := .ref (q 11)) (C := RX11) (T := TX11) (N := 14) hx hb hts inX11 hown hK hP 0 rfl rfl 5 (by decide) (hts _ kw_712) (fun _ h9 => h9) rfl dX11_turn_1 ?_
  refine va_get (D := D) (ci := 3) (v := .int (-2)) (C := RX3) (T := TX3) (N := 18) hx hb hts inX3 hown hK hP 11 rfl rfl 6 (by decide) (hts _ kw_437) (fun _ h9 => h9) rfl dX11_turn_4 ?_
  exact rd_i hx hb hr hlocks (rfl) dX11_turn_7
set_option maxHeartbeats 4000000 in
set_option maxRecDepth 100000 in
theorem rX_X11_may {l : Launch} {D : va_G} {q : Nat → Nat} {k : Nat → ClassId} {g : Nat → Nat → Int32} {gl : Nat → Nat → Int64} : Rd l yX11_may cX11_may 1 (some .int) 1 D (wX q k g gl) (tyX k) [.ref (q 0)] (.int 0) := by
  refine Rd.of (by decide) (Nat.le_of_ble_eq_true rfl) ?_
  intro p e s m below meth c ls hx hb hr hml hown hts hlocks hP hK hl
  have hown : s.vm.findClass "SignalTable" = some m.cls := hown
  have hl : lv_has ls 1 [(0, .ref (q 0))] := hl
  refine lv_aload_n hx hb dX11_may_0 rfl (lv_at hl 0 rfl) ?_
  refine va_get (D := D) (ci := 11) (v := .ref (q 11)) (C := RX11) (T := TX11) (N := 14) hx hb hts inX11 hown hK hP 0 rfl rfl 5 (by decide) (hts _ kw_712) (fun _ h9 => h9) rfl dX11_may_1 ?_
  refine rd_V (As := []) (rest := []) (d := 0) caV_SignalTable_180 hx hb hml hown hts hP hK (rX_X3_legal) (ci := 3) (q0 := 11) rfl rfl (by decide) rfl hl.1 (Nat.le_of_ble_eq_true rfl) (by decide) dX11_may_4 rfl ?_
  exact rd_i hx hb hr hlocks (rfl) dX11_may_7
set_option maxHeartbeats 4000000 in
set_option maxRecDepth 100000 in
theorem rX_X11_play {l : Launch} {D : va_G} {q : Nat → Nat} {k : Nat → ClassId} {g : Nat → Nat → Int32} {gl : Nat → Nat → Int64} (p1 : Int32) : Rd l yX11_play cX11_play 2 (some .int) 1 D (wX q k g gl) (tyX k) [.ref (q 0), .int p1] (.int (-1)) := by
  refine Rd.of (by decide) (Nat.le_of_ble_eq_true rfl) ?_
  intro p e s m below meth c ls hx hb hr hml hown hts hlocks hP hK hl
  have hown : s.vm.findClass "SignalTable" = some m.cls := hown
  have hl : lv_has ls 2 [(0, .ref (q 0)), (1, .int p1)] := hl
  refine lv_aload_n hx hb dX11_play_0 rfl (lv_at hl 0 rfl) ?_
  refine lv_iload_n hx hb dX11_play_1 rfl (lv_at hl 1 rfl) ?_
  refine rd_V (As := [.int p1]) (rest := []) (d := 0) caV_SignalTable_183 hx hb hml hown hts hP hK (rX_X11_isInHand p1) (ci := 11) (q0 := 0) rfl rfl (by decide) rfl hl.1 (Nat.le_of_ble_eq_true rfl) (by decide) dX11_play_2 rfl ?_
  refine lv_if_ne (tgt := 10) hx hb dX11_play_5 (by decide) (fun h => absurd (by decide) h) (fun _ => ?_)
  refine lv_iconst (v := (-1)) hx hb dX11_play_8 (by decide) ?_
  exact rd_i hx hb hr hlocks (rfl) dX11_play_9
set_option maxHeartbeats 4000000 in
set_option maxRecDepth 100000 in
theorem rX_X11_revoke {l : Launch} {D : va_G} {q : Nat → Nat} {k : Nat → ClassId} {g : Nat → Nat → Int32} {gl : Nat → Nat → Int64} (p1 : Int32) : Rd l yX11_revoke cX11_revoke 2 (some .int) 1 D (wX q k g gl) (tyX k) [.ref (q 0), .int p1] (.int (-1)) := by
  refine Rd.of (by decide) (Nat.le_of_ble_eq_true rfl) ?_
  intro p e s m below meth c ls hx hb hr hml hown hts hlocks hP hK hl
  have hown : s.vm.findClass "SignalTable" = some m.cls := hown
  have hl : lv_has ls 2 [(0, .ref (q 0)), (1, .int p1)] := hl
  refine lv_aload_n hx hb dX11_revoke_0 rfl (lv_at hl 0 rfl) ?_
  refine lv_iload_n hx hb dX11_revoke_1 rfl (lv_at hl 1 rfl) ?_
  refine rd_V (As := [.int p1]) (rest := []) (d := 0) caV_SignalTable_183 hx hb hml hown hts hP hK (rX_X11_isInHand p1) (ci := 11) (q0 := 0) rfl rfl (by decide) rfl hl.1 (Nat.le_of_ble_eq_true rfl) (by decide) dX11_revoke_2 rfl ?_
  refine lv_if_ne (tgt := 10) hx hb dX11_revoke_5 (by decide) (fun h => absurd (by decide) h) (fun _ => ?_)
  refine lv_iconst (v := (-1)) hx hb dX11_revoke_8 (by decide) ?_
  exact rd_i hx hb hr hlocks (rfl) dX11_revoke_9
set_option maxHeartbeats 4000000 in
set_option maxRecDepth 100000 in
theorem rX_X11_undo {l : Launch} {D : va_G} {q : Nat → Nat} {k : Nat → ClassId} {g : Nat → Nat → Int32} {gl : Nat → Nat → Int64} : Rd l yX11_undo cX11_undo 1 (some .int) 0 D (wX q k g gl) (tyX k) [.ref (q 0)] (.int (-1)) := by
  refine Rd.of (by decide) (Nat.le_of_ble_eq_true rfl) ?_
  intro p e s m below meth c ls hx hb hr hml hown hts hlocks hP hK hl
  have hown : s.vm.findClass "SignalTable" = some m.cls := hown
  have hl : lv_has ls 1 [(0, .ref (q 0))] := hl
  refine lv_aload_n hx hb dX11_undo_0 rfl (lv_at hl 0 rfl) ?_
  refine va_get (D := D) (ci := 11) (v := .ref (q 11)) (C := RX11) (T := TX11) (N := 14) hx hb hts inX11 hown hK hP 0 rfl rfl 5 (by decide) (hts _ kw_712) (fun _ h9 => h9) rfl dX11_undo_1 ?_
  refine va_get (D := D) (ci := 3) (v := .int 0) (C := RX3) (T := TX3) (N := 18) hx hb hts inX3 hown hK hP 11 rfl rfl 7 (by decide) (hts _ kw_443) (fun _ h9 => h9) rfl dX11_undo_4 ?_
  refine lv_if_ne (tgt := 12) hx hb dX11_undo_7 (by decide) (fun h => absurd (by decide) h) (fun _ => ?_)
  refine lv_iconst (v := (-1)) hx hb dX11_undo_10 (by decide) ?_
  exact rd_i hx hb hr hlocks (rfl) dX11_undo_11
set_option maxHeartbeats 4000000 in
set_option maxRecDepth 100000 in
theorem rX_X11_card {l : Launch} {D : va_G} {q : Nat → Nat} {k : Nat → ClassId} {g : Nat → Nat → Int32} {gl : Nat → Nat → Int64} (p1 p2 : Int32) : Rd l yX11_card cX11_card 3 (some .int) 0 D (wX q k g gl) (tyX k) [.ref (q 0), .int p1, .int p2] (.int (-1)) := by
  refine Rd.of (by decide) (Nat.le_of_ble_eq_true rfl) ?_
  intro p e s m below meth c ls hx hb hr hml hown hts hlocks hP hK hl
  have hown : s.vm.findClass "SignalTable" = some m.cls := hown
  have hl : lv_has ls 3 [(0, .ref (q 0)), (1, .int p1), (2, .int p2)] := hl
  refine lv_iload_n hx hb dX11_card_0 rfl (lv_at hl 1 rfl) ?_
  refine lv_if_lt (tgt := 15) hx hb dX11_card_1 (by decide) (fun c_1 => ?_) (fun c_1 => ?_)
  · skip
    refine lv_iconst (v := (-1)) hx hb dX11_card_15 (by decide) ?_
    exact rd_i hx hb hr hlocks (rfl) dX11_card_16
  · skip
    refine lv_iload_n hx hb dX11_card_4 rfl (lv_at hl 1 rfl) ?_
    refine lv_aload_n hx hb dX11_card_5 rfl (lv_at hl 0 rfl) ?_
    refine va_get (D := D) (ci := 11) (v := .ref (q 11)) (C := RX11) (T := TX11) (N := 14) hx hb hts inX11 hown hK hP 0 rfl rfl 5 (by decide) (hts _ kw_712) (fun _ h9 => h9) rfl dX11_card_6 ?_
    refine va_get (D := D) (ci := 3) (v := .int 0) (C := RX3) (T := TX3) (N := 18) hx hb hts inX3 hown hK hP 11 rfl rfl 7 (by decide) (hts _ kw_443) (fun _ h9 => h9) rfl dX11_card_9 ?_
    refine lv_icmp_lt (tgt := 17) hx hb dX11_card_12 (by decide) (fun c_2 => ?_) (fun c_2 => ?_)
    · skip
      exfalso
      simp only [Int32.lt_iff_toInt_lt, Int32.le_iff_toInt_le, ← Int32.toInt_inj, ti_m2, ti_m1, ti_0, ti_1, ti_2, ti_3, ti_4, ti_5, ti_6, ti_7, ti_8, ti_10, ti_20] at c_1 c_2 <;> omega
    · skip
      refine lv_iconst (v := (-1)) hx hb dX11_card_15 (by decide) ?_
      exact rd_i hx hb hr hlocks (rfl) dX11_card_16
set_option maxHeartbeats 4000000 in
set_option maxRecDepth 100000 in
theorem rX_X11_tricks {l : Launch} {D : va_G} {q : Nat → Nat} {k : Nat → ClassId} {g : Nat → Nat → Int32} {gl : Nat → Nat → Int64} (p1 : Int32) : Rd l yX11_tricks cX11_tricks 2 (some .int) 1 D (wX q k g gl) (tyX k) [.ref (q 0), .int p1] (.int (if 0 ≤ p1 ∧ p1 ≤ 1 then 0 else (-1))) := by
  refine Rd.of (by decide) (Nat.le_of_ble_eq_true rfl) ?_
  intro p e s m below meth c ls hx hb hr hml hown hts hlocks hP hK hl
  have hown : s.vm.findClass "SignalTable" = some m.cls := hown
  have hl : lv_has ls 2 [(0, .ref (q 0)), (1, .int p1)] := hl
  refine lv_iload_n hx hb dX11_tricks_0 rfl (lv_at hl 1 rfl) ?_
  refine lv_if_lt (tgt := 9) hx hb dX11_tricks_1 (by decide) (fun c_1 => ?_) (fun c_1 => ?_)
  · skip
    refine lv_iconst (v := (-1)) hx hb dX11_tricks_9 (by decide) ?_
    refine lv_goto (tgt := 21) hx hb dX11_tricks_10 (by decide) ?_
    exact rd_i hx hb hr hlocks (congrArg Value.int (by by_cases s_1 : 0 ≤ p1 ∧ p1 ≤ 1 <;> simp only [s_1, if_true, if_false, and_self, not_false_eq_true, not_true_eq_false] <;> first | rfl | (exfalso; simp only [Int32.lt_iff_toInt_lt, Int32.le_iff_toInt_le, ← Int32.toInt_inj, ti_m2, ti_m1, ti_0, ti_1, ti_2, ti_3, ti_4, ti_5, ti_6, ti_7, ti_8, ti_10, ti_20] at s_1 c_1 <;> omega))) dX11_tricks_21
  · skip
    refine lv_iload_n hx hb dX11_tricks_4 rfl (lv_at hl 1 rfl) ?_
    refine lv_iconst (v := 1) hx hb dX11_tricks_5 (by decide) ?_
    refine lv_icmp_le (tgt := 13) hx hb dX11_tricks_6 (by decide) (fun c_2 => ?_) (fun c_2 => ?_)
    · skip
      refine lv_aload_n hx hb dX11_tricks_13 rfl (lv_at hl 0 rfl) ?_
      refine va_get (D := D) (ci := 11) (v := .ref (q 11)) (C := RX11) (T := TX11) (N := 14) hx hb hts inX11 hown hK hP 0 rfl rfl 5 (by decide) (hts _ kw_712) (fun _ h9 => h9) rfl dX11_tricks_14 ?_
      refine lv_iload_n hx hb dX11_tricks_17 rfl (lv_at hl 1 rfl) ?_
      refine rd_V (As := [.int p1]) (rest := []) (d := 0) caV_SignalTable_210 hx hb hml hown hts hP hK (rX_X3_wonBy p1) (ci := 3) (q0 := 11) rfl rfl (by decide) rfl hl.1 (Nat.le_of_ble_eq_true rfl) (by decide) dX11_tricks_18 rfl ?_
      exact rd_i hx hb hr hlocks (congrArg Value.int (by by_cases s_1 : 0 ≤ p1 ∧ p1 ≤ 1 <;> simp only [s_1, if_true, if_false, and_self, not_false_eq_true, not_true_eq_false] <;> first | rfl | (exfalso; simp only [Int32.lt_iff_toInt_lt, Int32.le_iff_toInt_le, ← Int32.toInt_inj, ti_m2, ti_m1, ti_0, ti_1, ti_2, ti_3, ti_4, ti_5, ti_6, ti_7, ti_8, ti_10, ti_20] at s_1 c_1 c_2 <;> omega))) dX11_tricks_21
    · skip
      refine lv_iconst (v := (-1)) hx hb dX11_tricks_9 (by decide) ?_
      refine lv_goto (tgt := 21) hx hb dX11_tricks_10 (by decide) ?_
      exact rd_i hx hb hr hlocks (congrArg Value.int (by by_cases s_1 : 0 ≤ p1 ∧ p1 ≤ 1 <;> simp only [s_1, if_true, if_false, and_self, not_false_eq_true, not_true_eq_false] <;> first | rfl | (exfalso; simp only [Int32.lt_iff_toInt_lt, Int32.le_iff_toInt_le, ← Int32.toInt_inj, ti_m2, ti_m1, ti_0, ti_1, ti_2, ti_3, ti_4, ti_5, ti_6, ti_7, ti_8, ti_10, ti_20] at s_1 c_1 c_2 <;> omega))) dX11_tricks_21
set_option maxHeartbeats 4000000 in
set_option maxRecDepth 100000 in
theorem rX_X11_winner {l : Launch} {D : va_G} {q : Nat → Nat} {k : Nat → ClassId} {g : Nat → Nat → Int32} {gl : Nat → Nat → Int64} (p1 : Int32) : Rd l yX11_winner cX11_winner 2 (some .int) 0 D (wX q k g gl) (tyX k) [.ref (q 0), .int p1] (.int (-1)) := by
  refine Rd.of (by decide) (Nat.le_of_ble_eq_true rfl) ?_
  intro p e s m below meth c ls hx hb hr hml hown hts hlocks hP hK hl
  have hown : s.vm.findClass "SignalTable" = some m.cls := hown
  have hl : lv_has ls 2 [(0, .ref (q 0)), (1, .int p1)] := hl
  refine lv_iload_n hx hb dX11_winner_0 rfl (lv_at hl 1 rfl) ?_
  refine lv_if_lt (tgt := 17) hx hb dX11_winner_1 (by decide) (fun c_1 => ?_) (fun c_1 => ?_)
  · skip
    refine lv_iconst (v := (-1)) hx hb dX11_winner_17 (by decide) ?_
    refine lv_goto (tgt := 30) hx hb dX11_winner_18 (by decide) ?_
    exact rd_i hx hb hr hlocks (rfl) dX11_winner_30
  · skip
    refine lv_iload_n hx hb dX11_winner_4 rfl (lv_at hl 1 rfl) ?_
    refine lv_aload_n hx hb dX11_winner_5 rfl (lv_at hl 0 rfl) ?_
    refine va_get (D := D) (ci := 11) (v := .ref (q 11)) (C := RX11) (T := TX11) (N := 14) hx hb hts inX11 hown hK hP 0 rfl rfl 5 (by decide) (hts _ kw_712) (fun _ h9 => h9) rfl dX11_winner_6 ?_
    refine va_get (D := D) (ci := 3) (v := .int 0) (C := RX3) (T := TX3) (N := 18) hx hb hts inX3 hown hK hP 11 rfl rfl 7 (by decide) (hts _ kw_443) (fun _ h9 => h9) rfl dX11_winner_9 ?_
    refine lv_iconst (v := 4) hx hb dX11_winner_12 (by decide) ?_
    refine lv_idiv hx hb dX11_winner_13 (by decide) ?_
    refine z_i (v := 0) (by decide) ?_
    refine lv_icmp_lt (tgt := 21) hx hb dX11_winner_14 (by decide) (fun c_2 => ?_) (fun c_2 => ?_)
    · skip
      exfalso
      simp only [Int32.lt_iff_toInt_lt, Int32.le_iff_toInt_le, ← Int32.toInt_inj, ti_m2, ti_m1, ti_0, ti_1, ti_2, ti_3, ti_4, ti_5, ti_6, ti_7, ti_8, ti_10, ti_20] at c_1 c_2 <;> omega
    · skip
      refine lv_iconst (v := (-1)) hx hb dX11_winner_17 (by decide) ?_
      refine lv_goto (tgt := 30) hx hb dX11_winner_18 (by decide) ?_
      exact rd_i hx hb hr hlocks (rfl) dX11_winner_30
set_option maxHeartbeats 4000000 in
set_option maxRecDepth 100000 in
theorem rX_X11_revokes {l : Launch} {D : va_G} {q : Nat → Nat} {k : Nat → ClassId} {g : Nat → Nat → Int32} {gl : Nat → Nat → Int64} (p1 : Int32) : Rd l yX11_revokes cX11_revokes 7 (some .int) 0 D (wX q k g gl) (tyX k) [.ref (q 0), .int p1] (.int (if 0 ≤ p1 ∧ p1 ≤ 1 then 0 else if p1 = 2 then -2 else -1)) := by
  refine Rd.of (by decide) (Nat.le_of_ble_eq_true rfl) ?_
  intro p e s m below meth c ls hx hb hr hml hown hts hlocks hP hK hl
  have hown : s.vm.findClass "SignalTable" = some m.cls := hown
  have hl : lv_has ls 7 [(0, .ref (q 0)), (1, .int p1)] := hl
  refine lv_iload_n hx hb dX11_revokes_0 rfl (lv_at hl 1 rfl) ?_
  refine lv_if_lt (tgt := 9) hx hb dX11_revokes_1 (by decide) (fun c_1 => ?_) (fun c_1 => ?_)
  · skip
    refine lv_iconst (v := (-1)) hx hb dX11_revokes_9 (by decide) ?_
    exact rd_i hx hb hr hlocks (congrArg Value.int (by by_cases s_1 : 0 ≤ p1 ∧ p1 ≤ 1 <;> by_cases s_2 : p1 = 2 <;> simp only [s_1, s_2, if_true, if_false, and_self, not_false_eq_true, not_true_eq_false] <;> first | rfl | (exfalso; simp only [Int32.lt_iff_toInt_lt, Int32.le_iff_toInt_le, ← Int32.toInt_inj, ti_m2, ti_m1, ti_0, ti_1, ti_2, ti_3, ti_4, ti_5, ti_6, ti_7, ti_8, ti_10, ti_20] at s_1 s_2 c_1 <;> omega))) dX11_revokes_10
  · skip
    refine lv_iload_n hx hb dX11_revokes_4 rfl (lv_at hl 1 rfl) ?_
    refine lv_iconst (v := 2) hx hb dX11_revokes_5 (by decide) ?_
    refine lv_icmp_le (tgt := 11) hx hb dX11_revokes_6 (by decide) (fun c_2 => ?_) (fun c_2 => ?_)
    · skip
      refine lv_iconst (v := 0) hx hb dX11_revokes_11 (by decide) ?_
      refine lv_istore_n (lv' := [(2, .int 0), (0, .ref (q 0)), (1, .int p1)]) hx hb dX11_revokes_12 rfl hl (by decide) rfl (fun ls hl => ?_)
      refine lv_iconst (v := 0) hx hb dX11_revokes_13 (by decide) ?_
      refine lv_istore_n (lv' := [(3, .int 0), (2, .int 0), (0, .ref (q 0)), (1, .int p1)]) hx hb dX11_revokes_14 rfl hl (by decide) rfl (fun ls hl => ?_)
      refine lv_bipush (v := 16) hx hb dX11_revokes_15 (by decide) ?_
      refine lv_istore (lv' := [(4, .int 16), (3, .int 0), (2, .int 0), (0, .ref (q 0)), (1, .int p1)]) hx hb dX11_revokes_17 hl (by decide) rfl (fun ls hl => ?_)
      refine lv_iconst (v := 0) hx hb dX11_revokes_19 (by decide) ?_
      refine lv_istore (lv' := [(5, .int 0), (4, .int 16), (3, .int 0), (2, .int 0), (0, .ref (q 0)), (1, .int p1)]) hx hb dX11_revokes_20 hl (by decide) rfl (fun ls hl => ?_)
      refine lv_iload hx hb dX11_revokes_22 (lv_at hl 0 rfl) ?_
      refine lv_aload_n hx hb dX11_revokes_24 rfl (lv_at hl 4 rfl) ?_
      refine va_get (D := D) (ci := 11) (v := .ref (q 11)) (C := RX11) (T := TX11) (N := 14) hx hb hts inX11 hown hK hP 0 rfl rfl 5 (by decide) (hts _ kw_712) (fun _ h9 => h9) rfl dX11_revokes_25 ?_
      refine va_get (D := D) (ci := 3) (v := .int 0) (C := RX3) (T := TX3) (N := 18) hx hb hts inX3 hown hK hP 11 rfl rfl 7 (by decide) (hts _ kw_443) (fun _ h9 => h9) rfl dX11_revokes_28 ?_
      refine lv_icmp_ge (tgt := 83) hx hb dX11_revokes_31 (by decide) (fun _ => ?_) (fun h => absurd (by decide) h)
      refine lv_iload_n hx hb dX11_revokes_83 rfl (lv_at hl 5 rfl) ?_
      refine lv_if_ne (tgt := 89) hx hb dX11_revokes_84 (by decide) (fun c_3 => ?_) (fun c_3 => ?_)
      · skip
        refine lv_iload_n hx hb dX11_revokes_89 rfl (lv_at hl 5 rfl) ?_
        refine lv_iconst (v := 1) hx hb dX11_revokes_90 (by decide) ?_
        refine lv_icmp_ne (tgt := 96) hx hb dX11_revokes_91 (by decide) (fun c_4 => ?_) (fun c_4 => ?_)
        · skip
          refine lv_iload_n hx hb dX11_revokes_96 rfl (lv_at hl 2 rfl) ?_
          refine lv_if_ne (tgt := 105) hx hb dX11_revokes_97 (by decide) (fun h => absurd (by decide) h) (fun _ => ?_)
          refine lv_bipush (v := (-2)) hx hb dX11_revokes_100 (by decide) ?_
          refine lv_goto (tgt := 107) hx hb dX11_revokes_102 (by decide) ?_
          exact rd_i hx hb hr hlocks (congrArg Value.int (by by_cases s_1 : 0 ≤ p1 ∧ p1 ≤ 1 <;> by_cases s_2 : p1 = 2 <;> simp only [s_1, s_2, if_true, if_false, and_self, not_false_eq_true, not_true_eq_false] <;> first | rfl | (exfalso; simp only [Int32.lt_iff_toInt_lt, Int32.le_iff_toInt_le, ← Int32.toInt_inj, ti_m2, ti_m1, ti_0, ti_1, ti_2, ti_3, ti_4, ti_5, ti_6, ti_7, ti_8, ti_10, ti_20] at s_1 s_2 c_1 c_2 c_3 c_4 <;> omega))) dX11_revokes_107
        · skip
          refine lv_iload_n hx hb dX11_revokes_94 rfl (lv_at hl 2 rfl) ?_
          exact rd_i hx hb hr hlocks (congrArg Value.int (by by_cases s_1 : 0 ≤ p1 ∧ p1 ≤ 1 <;> by_cases s_2 : p1 = 2 <;> simp only [s_1, s_2, if_true, if_false, and_self, not_false_eq_true, not_true_eq_false] <;> first | rfl | (exfalso; simp only [Int32.lt_iff_toInt_lt, Int32.le_iff_toInt_le, ← Int32.toInt_inj, ti_m2, ti_m1, ti_0, ti_1, ti_2, ti_3, ti_4, ti_5, ti_6, ti_7, ti_8, ti_10, ti_20] at s_1 s_2 c_1 c_2 c_3 c_4 <;> omega))) dX11_revokes_95
      · skip
        refine lv_iload_n hx hb dX11_revokes_87 rfl (lv_at hl 3 rfl) ?_
        exact rd_i hx hb hr hlocks (congrArg Value.int (by by_cases s_1 : 0 ≤ p1 ∧ p1 ≤ 1 <;> by_cases s_2 : p1 = 2 <;> simp only [s_1, s_2, if_true, if_false, and_self, not_false_eq_true, not_true_eq_false] <;> first | rfl | (exfalso; simp only [Int32.lt_iff_toInt_lt, Int32.le_iff_toInt_le, ← Int32.toInt_inj, ti_m2, ti_m1, ti_0, ti_1, ti_2, ti_3, ti_4, ti_5, ti_6, ti_7, ti_8, ti_10, ti_20] at s_1 s_2 c_1 c_2 c_3 <;> omega))) dX11_revokes_88
    · skip
      refine lv_iconst (v := (-1)) hx hb dX11_revokes_9 (by decide) ?_
      exact rd_i hx hb hr hlocks (congrArg Value.int (by by_cases s_1 : 0 ≤ p1 ∧ p1 ≤ 1 <;> by_cases s_2 : p1 = 2 <;> simp only [s_1, s_2, if_true, if_false, and_self, not_false_eq_true, not_true_eq_false] <;> first | rfl | (exfalso; simp only [Int32.lt_iff_toInt_lt, Int32.le_iff_toInt_le, ← Int32.toInt_inj, ti_m2, ti_m1, ti_0, ti_1, ti_2, ti_3, ti_4, ti_5, ti_6, ti_7, ti_8, ti_10, ti_20] at s_1 s_2 c_1 c_2 <;> omega))) dX11_revokes_10
set_option maxHeartbeats 4000000 in
set_option maxRecDepth 100000 in
theorem rX_X11_says {l : Launch} {D : va_G} {q : Nat → Nat} {k : Nat → ClassId} {g : Nat → Nat → Int32} {gl : Nat → Nat → Int64} (p1 p2 p3 : Int32) : Rd l yX11_says cX11_says 4 (some .int) 0 D (wX q k g gl) (tyX k) [.ref (q 0), .int p1, .int p2, .int p3] (.int (-1)) := by
  refine Rd.of (by decide) (Nat.le_of_ble_eq_true rfl) ?_
  intro p e s m below meth c ls hx hb hr hml hown hts hlocks hP hK hl
  have hown : s.vm.findClass "SignalTable" = some m.cls := hown
  have hl : lv_has ls 4 [(0, .ref (q 0)), (1, .int p1), (2, .int p2), (3, .int p3)] := hl
  refine lv_iload_n hx hb dX11_says_0 rfl (lv_at hl 1 rfl) ?_
  refine lv_if_lt (tgt := 32) hx hb dX11_says_1 (by decide) (fun c_1 => ?_) (fun c_1 => ?_)
  · skip
    refine lv_iconst (v := (-1)) hx hb dX11_says_32 (by decide) ?_
    exact rd_i hx hb hr hlocks (rfl) dX11_says_33
  · skip
    refine lv_iload_n hx hb dX11_says_4 rfl (lv_at hl 1 rfl) ?_
    refine lv_aload_n hx hb dX11_says_5 rfl (lv_at hl 0 rfl) ?_
    refine va_get (D := D) (ci := 11) (v := .ref (q 11)) (C := RX11) (T := TX11) (N := 14) hx hb hts inX11 hown hK hP 0 rfl rfl 5 (by decide) (hts _ kw_712) (fun _ h9 => h9) rfl dX11_says_6 ?_
    refine va_get (D := D) (ci := 3) (v := .int 0) (C := RX3) (T := TX3) (N := 18) hx hb hts inX3 hown hK hP 11 rfl rfl 7 (by decide) (hts _ kw_443) (fun _ h9 => h9) rfl dX11_says_9 ?_
    refine lv_icmp_ge (tgt := 32) hx hb dX11_says_12 (by decide) (fun c_2 => ?_) (fun c_2 => ?_)
    · skip
      refine lv_iconst (v := (-1)) hx hb dX11_says_32 (by decide) ?_
      exact rd_i hx hb hr hlocks (rfl) dX11_says_33
    · skip
      exfalso
      simp only [Int32.lt_iff_toInt_lt, Int32.le_iff_toInt_le, ← Int32.toInt_inj, ti_m2, ti_m1, ti_0, ti_1, ti_2, ti_3, ti_4, ti_5, ti_6, ti_7, ti_8, ti_10, ti_20] at c_1 c_2 <;> omega
set_option maxHeartbeats 4000000 in
set_option maxRecDepth 100000 in
theorem rX_X11_canBe {l : Launch} {D : va_G} {q : Nat → Nat} {k : Nat → ClassId} {g : Nat → Nat → Int32} {gl : Nat → Nat → Int64} (p1 p2 : Int32) : Rd l yX11_canBe cX11_canBe 3 (some .int) 1 D (wX q k g gl) (tyX k) [.ref (q 0), .int p1, .int p2] (.int (-1)) := by
  refine Rd.of (by decide) (Nat.le_of_ble_eq_true rfl) ?_
  intro p e s m below meth c ls hx hb hr hml hown hts hlocks hP hK hl
  have hown : s.vm.findClass "SignalTable" = some m.cls := hown
  have hl : lv_has ls 3 [(0, .ref (q 0)), (1, .int p1), (2, .int p2)] := hl
  refine lv_aload_n hx hb dX11_canBe_0 rfl (lv_at hl 0 rfl) ?_
  refine lv_iload_n hx hb dX11_canBe_1 rfl (lv_at hl 1 rfl) ?_
  refine lv_iload_n hx hb dX11_canBe_2 rfl (lv_at hl 2 rfl) ?_
  refine rd_V (As := [.int p1, .int p2]) (rest := []) (d := 0) caV_SignalTable_231 hx hb hml hown hts hP hK (rX_X11_canSee p1 p2) (ci := 11) (q0 := 0) rfl rfl (by decide) rfl hl.1 (Nat.le_of_ble_eq_true rfl) (by decide) dX11_canBe_3 rfl ?_
  refine lv_if_ne (tgt := 11) hx hb dX11_canBe_6 (by decide) (fun h => absurd (by decide) h) (fun _ => ?_)
  refine lv_iconst (v := (-1)) hx hb dX11_canBe_9 (by decide) ?_
  exact rd_i hx hb hr hlocks (rfl) dX11_canBe_10
set_option maxHeartbeats 4000000 in
set_option maxRecDepth 100000 in
theorem rX_X11_after {l : Launch} {D : va_G} {q : Nat → Nat} {k : Nat → ClassId} {g : Nat → Nat → Int32} {gl : Nat → Nat → Int64} (p1 p2 p3 : Int32) : Rd l yX11_after cX11_after 4 (some .int) 1 D (wX q k g gl) (tyX k) [.ref (q 0), .int p1, .int p2, .int p3] (.int (-1)) := by
  refine Rd.of (by decide) (Nat.le_of_ble_eq_true rfl) ?_
  intro p e s m below meth c ls hx hb hr hml hown hts hlocks hP hK hl
  have hown : s.vm.findClass "SignalTable" = some m.cls := hown
  have hl : lv_has ls 4 [(0, .ref (q 0)), (1, .int p1), (2, .int p2), (3, .int p3)] := hl
  refine lv_aload_n hx hb dX11_after_0 rfl (lv_at hl 0 rfl) ?_
  refine lv_iload_n hx hb dX11_after_1 rfl (lv_at hl 1 rfl) ?_
  refine lv_iload_n hx hb dX11_after_2 rfl (lv_at hl 3 rfl) ?_
  refine rd_V (As := [.int p1, .int p3]) (rest := []) (d := 0) caV_SignalTable_231 hx hb hml hown hts hP hK (rX_X11_canSee p1 p3) (ci := 11) (q0 := 0) rfl rfl (by decide) rfl hl.1 (Nat.le_of_ble_eq_true rfl) (by decide) dX11_after_3 rfl ?_
  refine lv_if_eq (tgt := 24) hx hb dX11_after_6 (by decide) (fun _ => ?_) (fun h => absurd (by decide) h)
  refine lv_iconst (v := (-1)) hx hb dX11_after_24 (by decide) ?_
  exact rd_i hx hb hr hlocks (rfl) dX11_after_25
set_option maxHeartbeats 4000000 in
set_option maxRecDepth 100000 in
theorem rX_X11_had {l : Launch} {D : va_G} {q : Nat → Nat} {k : Nat → ClassId} {g : Nat → Nat → Int32} {gl : Nat → Nat → Int64} (p1 p2 p3 p4 : Int32) : Rd l yX11_had cX11_had 5 (some .int) 1 D (wX q k g gl) (tyX k) [.ref (q 0), .int p1, .int p2, .int p3, .int p4] (.int (-1)) := by
  refine Rd.of (by decide) (Nat.le_of_ble_eq_true rfl) ?_
  intro p e s m below meth c ls hx hb hr hml hown hts hlocks hP hK hl
  have hown : s.vm.findClass "SignalTable" = some m.cls := hown
  have hl : lv_has ls 5 [(0, .ref (q 0)), (1, .int p1), (2, .int p2), (3, .int p3), (4, .int p4)] := hl
  refine lv_aload_n hx hb dX11_had_0 rfl (lv_at hl 0 rfl) ?_
  refine lv_iload_n hx hb dX11_had_1 rfl (lv_at hl 1 rfl) ?_
  refine lv_iload hx hb dX11_had_2 (lv_at hl 4 rfl) ?_
  refine rd_V (As := [.int p1, .int p4]) (rest := []) (d := 0) caV_SignalTable_231 hx hb hml hown hts hP hK (rX_X11_canSee p1 p4) (ci := 11) (q0 := 0) rfl rfl (by decide) rfl hl.1 (Nat.le_of_ble_eq_true rfl) (by decide) dX11_had_4 rfl ?_
  refine lv_if_eq (tgt := 31) hx hb dX11_had_7 (by decide) (fun _ => ?_) (fun h => absurd (by decide) h)
  refine lv_iconst (v := (-1)) hx hb dX11_had_31 (by decide) ?_
  exact rd_i hx hb hr hlocks (rfl) dX11_had_32
set_option maxHeartbeats 4000000 in
set_option maxRecDepth 100000 in
theorem rX_X11_sure {l : Launch} {D : va_G} {q : Nat → Nat} {k : Nat → ClassId} {g : Nat → Nat → Int32} {gl : Nat → Nat → Int64} (p1 p2 : Int32) : Rd l yX11_sure cX11_sure 3 (some .int) 1 D (wX q k g gl) (tyX k) [.ref (q 0), .int p1, .int p2] (.int (-1)) := by
  refine Rd.of (by decide) (Nat.le_of_ble_eq_true rfl) ?_
  intro p e s m below meth c ls hx hb hr hml hown hts hlocks hP hK hl
  have hown : s.vm.findClass "SignalTable" = some m.cls := hown
  have hl : lv_has ls 3 [(0, .ref (q 0)), (1, .int p1), (2, .int p2)] := hl
  refine lv_aload_n hx hb dX11_sure_0 rfl (lv_at hl 0 rfl) ?_
  refine lv_iload_n hx hb dX11_sure_1 rfl (lv_at hl 1 rfl) ?_
  refine lv_iload_n hx hb dX11_sure_2 rfl (lv_at hl 2 rfl) ?_
  refine rd_V (As := [.int p1, .int p2]) (rest := []) (d := 0) caV_SignalTable_231 hx hb hml hown hts hP hK (rX_X11_canSee p1 p2) (ci := 11) (q0 := 0) rfl rfl (by decide) rfl hl.1 (Nat.le_of_ble_eq_true rfl) (by decide) dX11_sure_3 rfl ?_
  refine lv_if_ne (tgt := 11) hx hb dX11_sure_6 (by decide) (fun h => absurd (by decide) h) (fun _ => ?_)
  refine lv_iconst (v := (-1)) hx hb dX11_sure_9 (by decide) ?_
  exact rd_i hx hb hr hlocks (rfl) dX11_sure_10
set_option maxHeartbeats 4000000 in
set_option maxRecDepth 100000 in
theorem rX_X11_knows {l : Launch} {D : va_G} {q : Nat → Nat} {k : Nat → ClassId} {g : Nat → Nat → Int32} {gl : Nat → Nat → Int64} (p1 p2 p3 p4 : Int32) : Rd l yX11_knows cX11_knows 6 (some .int) 1 D (wX q k g gl) (tyX k) [.ref (q 0), .int p1, .int p2, .int p3, .int p4] (.int (-1)) := by
  refine Rd.of (by decide) (Nat.le_of_ble_eq_true rfl) ?_
  intro p e s m below meth c ls hx hb hr hml hown hts hlocks hP hK hl
  have hown : s.vm.findClass "SignalTable" = some m.cls := hown
  have hl : lv_has ls 6 [(0, .ref (q 0)), (1, .int p1), (2, .int p2), (3, .int p3), (4, .int p4)] := hl
  refine lv_aload_n hx hb dX11_knows_0 rfl (lv_at hl 0 rfl) ?_
  refine lv_iload_n hx hb dX11_knows_1 rfl (lv_at hl 1 rfl) ?_
  refine lv_iload hx hb dX11_knows_2 (lv_at hl 4 rfl) ?_
  refine rd_V (As := [.int p1, .int p4]) (rest := []) (d := 0) caV_SignalTable_231 hx hb hml hown hts hP hK (rX_X11_canSee p1 p4) (ci := 11) (q0 := 0) rfl rfl (by decide) rfl hl.1 (Nat.le_of_ble_eq_true rfl) (by decide) dX11_knows_4 rfl ?_
  refine lv_if_eq (tgt := 31) hx hb dX11_knows_7 (by decide) (fun _ => ?_) (fun h => absurd (by decide) h)
  refine lv_iconst (v := (-1)) hx hb dX11_knows_31 (by decide) ?_
  exact rd_i hx hb hr hlocks (rfl) dX11_knows_32
set_option maxHeartbeats 4000000 in
set_option maxRecDepth 100000 in
theorem rX_X11_open {l : Launch} {D : va_G} {q : Nat → Nat} {k : Nat → ClassId} {g : Nat → Nat → Int32} {gl : Nat → Nat → Int64} : Rd l yX11_open cX11_open 1 (some .int) 0 D (wX q k g gl) (tyX k) [.ref (q 0)] (.int (-2)) := by
  refine Rd.of (by decide) (Nat.le_of_ble_eq_true rfl) ?_
  intro p e s m below meth c ls hx hb hr hml hown hts hlocks hP hK hl
  have hown : s.vm.findClass "SignalTable" = some m.cls := hown
  have hl : lv_has ls 1 [(0, .ref (q 0))] := hl
  refine lv_aload_n hx hb dX11_open_0 rfl (lv_at hl 0 rfl) ?_
  refine va_get (D := D) (ci := 11) (v := .ref (q 11)) (C := RX11) (T := TX11) (N := 14) hx hb hts inX11 hown hK hP 0 rfl rfl 5 (by decide) (hts _ kw_712) (fun _ h9 => h9) rfl dX11_open_1 ?_
  refine va_get (D := D) (ci := 3) (v := .int 0) (C := RX3) (T := TX3) (N := 18) hx hb hts inX3 hown hK hP 11 rfl rfl 2 (by decide) (hts _ kw_423) (fun _ h9 => h9) rfl dX11_open_4 ?_
  refine lv_if_eq (tgt := 24) hx hb dX11_open_7 (by decide) (fun _ => ?_) (fun h => absurd (by decide) h)
  refine lv_bipush (v := (-2)) hx hb dX11_open_24 (by decide) ?_
  exact rd_i hx hb hr hlocks (rfl) dX11_open_26
set_option maxHeartbeats 4000000 in
set_option maxRecDepth 100000 in
theorem rX_X11_line {l : Launch} {D : va_G} {q : Nat → Nat} {k : Nat → ClassId} {g : Nat → Nat → Int32} {gl : Nat → Nat → Int64} (p1 : Int32) : Rd l yX11_line cX11_line 2 (some .int) 0 D (wX q k g gl) (tyX k) [.ref (q 0), .int p1] (.int (-1)) := by
  refine Rd.of (by decide) (Nat.le_of_ble_eq_true rfl) ?_
  intro p e s m below meth c ls hx hb hr hml hown hts hlocks hP hK hl
  have hown : s.vm.findClass "SignalTable" = some m.cls := hown
  have hl : lv_has ls 2 [(0, .ref (q 0)), (1, .int p1)] := hl
  refine lv_iload_n hx hb dX11_line_0 rfl (lv_at hl 1 rfl) ?_
  refine lv_if_lt (tgt := 33) hx hb dX11_line_1 (by decide) (fun c_1 => ?_) (fun c_1 => ?_)
  · skip
    refine lv_iconst (v := (-1)) hx hb dX11_line_33 (by decide) ?_
    exact rd_i hx hb hr hlocks (rfl) dX11_line_34
  · skip
    refine lv_aload_n hx hb dX11_line_4 rfl (lv_at hl 0 rfl) ?_
    refine va_get (D := D) (ci := 11) (v := .ref (q 11)) (C := RX11) (T := TX11) (N := 14) hx hb hts inX11 hown hK hP 0 rfl rfl 5 (by decide) (hts _ kw_712) (fun _ h9 => h9) rfl dX11_line_5 ?_
    refine va_get (D := D) (ci := 3) (v := .int 0) (C := RX3) (T := TX3) (N := 18) hx hb hts inX3 hown hK hP 11 rfl rfl 2 (by decide) (hts _ kw_423) (fun _ h9 => h9) rfl dX11_line_8 ?_
    refine lv_if_eq (tgt := 33) hx hb dX11_line_11 (by decide) (fun _ => ?_) (fun h => absurd (by decide) h)
    refine lv_iconst (v := (-1)) hx hb dX11_line_33 (by decide) ?_
    exact rd_i hx hb hr hlocks (rfl) dX11_line_34
set_option maxHeartbeats 4000000 in
set_option maxRecDepth 100000 in
theorem rX_X11_mean {l : Launch} {D : va_G} {q : Nat → Nat} {k : Nat → ClassId} {g : Nat → Nat → Int32} {gl : Nat → Nat → Int64} (p1 p2 : Int32) : Rd l yX11_mean cX11_mean 4 (some .long) 2 D (wX q k g gl) (tyX k) [.ref (q 0), .int p1, .int p2] (.long (-1)) := by
  refine Rd.of (by decide) (Nat.le_of_ble_eq_true rfl) ?_
  intro p e s m below meth c ls hx hb hr hml hown hts hlocks hP hK hl
  have hown : s.vm.findClass "SignalTable" = some m.cls := hown
  have hl : lv_has ls 4 [(0, .ref (q 0)), (1, .int p1), (2, .int p2)] := hl
  refine lv_aload_n hx hb dX11_mean_0 rfl (lv_at hl 0 rfl) ?_
  refine lv_iload_n hx hb dX11_mean_1 rfl (lv_at hl 2 rfl) ?_
  refine rd_V (As := [.int p2]) (rest := []) (d := 1) caV_SignalTable_273 hx hb hml hown hts hP hK (rX_X11_refusal p2) (ci := 11) (q0 := 0) rfl rfl (by decide) rfl hl.1 (Nat.le_of_ble_eq_true rfl) (by decide) dX11_mean_2 rfl ?_
  refine lv_istore_n (lv' := [(3, .int (-1)), (0, .ref (q 0)), (1, .int p1), (2, .int p2)]) hx hb dX11_mean_5 rfl hl (by decide) rfl (fun ls hl => ?_)
  refine lv_iload_n hx hb dX11_mean_6 rfl (lv_at hl 0 rfl) ?_
  refine lv_if_eq (tgt := 13) hx hb dX11_mean_7 (by decide) (fun h => absurd h (by decide)) (fun _ => ?_)
  refine lv_iload_n hx hb dX11_mean_10 rfl (lv_at hl 0 rfl) ?_
  refine lv_i2l (v := (-1)) hx hb dX11_mean_11 (by decide) ?_
  exact rd_l hx hb hr hlocks (rfl) dX11_mean_12
set_option maxHeartbeats 4000000 in
set_option maxRecDepth 100000 in
theorem rX_X11_choice {l : Launch} {D : va_G} {q : Nat → Nat} {k : Nat → ClassId} {g : Nat → Nat → Int32} {gl : Nat → Nat → Int64} (p1 : Int32) : Rd l yX11_choice cX11_choice 3 (some .int) 2 D (wX q k g gl) (tyX k) [.ref (q 0), .int p1] (.int (-1)) := by
  refine Rd.of (by decide) (Nat.le_of_ble_eq_true rfl) ?_
  intro p e s m below meth c ls hx hb hr hml hown hts hlocks hP hK hl
  have hown : s.vm.findClass "SignalTable" = some m.cls := hown
  have hl : lv_has ls 3 [(0, .ref (q 0)), (1, .int p1)] := hl
  refine lv_aload_n hx hb dX11_choice_0 rfl (lv_at hl 0 rfl) ?_
  refine lv_iload_n hx hb dX11_choice_1 rfl (lv_at hl 1 rfl) ?_
  refine rd_V (As := [.int p1]) (rest := []) (d := 1) caV_SignalTable_273 hx hb hml hown hts hP hK (rX_X11_refusal p1) (ci := 11) (q0 := 0) rfl rfl (by decide) rfl hl.1 (Nat.le_of_ble_eq_true rfl) (by decide) dX11_choice_2 rfl ?_
  refine lv_istore_n (lv' := [(2, .int (-1)), (0, .ref (q 0)), (1, .int p1)]) hx hb dX11_choice_5 rfl hl (by decide) rfl (fun ls hl => ?_)
  refine lv_iload_n hx hb dX11_choice_6 rfl (lv_at hl 0 rfl) ?_
  refine lv_if_eq (tgt := 14) hx hb dX11_choice_7 (by decide) (fun h => absurd h (by decide)) (fun _ => ?_)
  refine lv_iload_n hx hb dX11_choice_10 rfl (lv_at hl 0 rfl) ?_
  refine lv_goto (tgt := 33) hx hb dX11_choice_11 (by decide) ?_
  exact rd_i hx hb hr hlocks (rfl) dX11_choice_33
set_option maxHeartbeats 4000000 in
set_option maxRecDepth 100000 in
theorem rX_X11_spread {l : Launch} {D : va_G} {q : Nat → Nat} {k : Nat → ClassId} {g : Nat → Nat → Int32} {gl : Nat → Nat → Int64} (p1 p2 p3 : Int32) : Rd l yX11_spread cX11_spread 5 (some .int) 2 D (wX q k g gl) (tyX k) [.ref (q 0), .int p1, .int p2, .int p3] (.int (-1)) := by
  refine Rd.of (by decide) (Nat.le_of_ble_eq_true rfl) ?_
  intro p e s m below meth c ls hx hb hr hml hown hts hlocks hP hK hl
  have hown : s.vm.findClass "SignalTable" = some m.cls := hown
  have hl : lv_has ls 5 [(0, .ref (q 0)), (1, .int p1), (2, .int p2), (3, .int p3)] := hl
  refine lv_aload_n hx hb dX11_spread_0 rfl (lv_at hl 0 rfl) ?_
  refine lv_iload_n hx hb dX11_spread_1 rfl (lv_at hl 2 rfl) ?_
  refine rd_V (As := [.int p2]) (rest := []) (d := 1) caV_SignalTable_273 hx hb hml hown hts hP hK (rX_X11_refusal p2) (ci := 11) (q0 := 0) rfl rfl (by decide) rfl hl.1 (Nat.le_of_ble_eq_true rfl) (by decide) dX11_spread_2 rfl ?_
  refine lv_istore (lv' := [(4, .int (-1)), (0, .ref (q 0)), (1, .int p1), (2, .int p2), (3, .int p3)]) hx hb dX11_spread_5 hl (by decide) rfl (fun ls hl => ?_)
  refine lv_iload hx hb dX11_spread_7 (lv_at hl 0 rfl) ?_
  refine lv_if_eq (tgt := 15) hx hb dX11_spread_9 (by decide) (fun h => absurd h (by decide)) (fun _ => ?_)
  refine lv_iload hx hb dX11_spread_12 (lv_at hl 0 rfl) ?_
  exact rd_i hx hb hr hlocks (rfl) dX11_spread_14
set_option maxHeartbeats 4000000 in
set_option maxRecDepth 100000 in
theorem rX_X11_safe {l : Launch} {D : va_G} {q : Nat → Nat} {k : Nat → ClassId} {g : Nat → Nat → Int32} {gl : Nat → Nat → Int64} (p1 p2 : Int32) : Rd l yX11_safe cX11_safe 5 (some .int) 2 D (wX q k g gl) (tyX k) [.ref (q 0), .int p1, .int p2] (.int (-1)) := by
  refine Rd.of (by decide) (Nat.le_of_ble_eq_true rfl) ?_
  intro p e s m below meth c ls hx hb hr hml hown hts hlocks hP hK hl
  have hown : s.vm.findClass "SignalTable" = some m.cls := hown
  have hl : lv_has ls 5 [(0, .ref (q 0)), (1, .int p1), (2, .int p2)] := hl
  refine lv_iload_n hx hb dX11_safe_0 rfl (lv_at hl 2 rfl) ?_
  refine lv_if_lt (tgt := 9) hx hb dX11_safe_1 (by decide) (fun c_1 => ?_) (fun c_1 => ?_)
  · skip
    refine lv_iconst (v := (-1)) hx hb dX11_safe_9 (by decide) ?_
    exact rd_i hx hb hr hlocks (rfl) dX11_safe_10
  · skip
    refine lv_iload_n hx hb dX11_safe_4 rfl (lv_at hl 2 rfl) ?_
    refine lv_iconst (v := 1) hx hb dX11_safe_5 (by decide) ?_
    refine lv_icmp_le (tgt := 11) hx hb dX11_safe_6 (by decide) (fun c_2 => ?_) (fun c_2 => ?_)
    · skip
      refine lv_aload_n hx hb dX11_safe_11 rfl (lv_at hl 0 rfl) ?_
      refine lv_iload_n hx hb dX11_safe_12 rfl (lv_at hl 1 rfl) ?_
      refine rd_V (As := [.int p1]) (rest := []) (d := 1) caV_SignalTable_273 hx hb hml hown hts hP hK (rX_X11_refusal p1) (ci := 11) (q0 := 0) rfl rfl (by decide) rfl hl.1 (Nat.le_of_ble_eq_true rfl) (by decide) dX11_safe_13 rfl ?_
      refine lv_istore_n (lv' := [(3, .int (-1)), (0, .ref (q 0)), (1, .int p1), (2, .int p2)]) hx hb dX11_safe_16 rfl hl (by decide) rfl (fun ls hl => ?_)
      refine lv_iload_n hx hb dX11_safe_17 rfl (lv_at hl 0 rfl) ?_
      refine lv_if_eq (tgt := 23) hx hb dX11_safe_18 (by decide) (fun h => absurd h (by decide)) (fun _ => ?_)
      refine lv_iload_n hx hb dX11_safe_21 rfl (lv_at hl 0 rfl) ?_
      exact rd_i hx hb hr hlocks (rfl) dX11_safe_22
    · skip
      refine lv_iconst (v := (-1)) hx hb dX11_safe_9 (by decide) ?_
      exact rd_i hx hb hr hlocks (rfl) dX11_safe_10
set_option maxHeartbeats 4000000 in
set_option maxRecDepth 100000 in
theorem rX_X11_loss {l : Launch} {D : va_G} {q : Nat → Nat} {k : Nat → ClassId} {g : Nat → Nat → Int32} {gl : Nat → Nat → Int64} (p1 : Int32) : Rd l yX11_loss cX11_loss 3 (some .int) 2 D (wX q k g gl) (tyX k) [.ref (q 0), .int p1] (.int (-1)) := by
  refine Rd.of (by decide) (Nat.le_of_ble_eq_true rfl) ?_
  intro p e s m below meth c ls hx hb hr hml hown hts hlocks hP hK hl
  have hown : s.vm.findClass "SignalTable" = some m.cls := hown
  have hl : lv_has ls 3 [(0, .ref (q 0)), (1, .int p1)] := hl
  refine lv_aload_n hx hb dX11_loss_0 rfl (lv_at hl 0 rfl) ?_
  refine lv_iload_n hx hb dX11_loss_1 rfl (lv_at hl 1 rfl) ?_
  refine rd_V (As := [.int p1]) (rest := []) (d := 1) caV_SignalTable_273 hx hb hml hown hts hP hK (rX_X11_refusal p1) (ci := 11) (q0 := 0) rfl rfl (by decide) rfl hl.1 (Nat.le_of_ble_eq_true rfl) (by decide) dX11_loss_2 rfl ?_
  refine lv_istore_n (lv' := [(2, .int (-1)), (0, .ref (q 0)), (1, .int p1)]) hx hb dX11_loss_5 rfl hl (by decide) rfl (fun ls hl => ?_)
  refine lv_iload_n hx hb dX11_loss_6 rfl (lv_at hl 0 rfl) ?_
  refine lv_if_eq (tgt := 12) hx hb dX11_loss_7 (by decide) (fun h => absurd h (by decide)) (fun _ => ?_)
  refine lv_iload_n hx hb dX11_loss_10 rfl (lv_at hl 0 rfl) ?_
  exact rd_i hx hb hr hlocks (rfl) dX11_loss_11
set_option maxHeartbeats 4000000 in
set_option maxRecDepth 100000 in
theorem rX_X11_differs {l : Launch} {D : va_G} {q : Nat → Nat} {k : Nat → ClassId} {g : Nat → Nat → Int32} {gl : Nat → Nat → Int64} (p1 : Int32) : Rd l yX11_differs cX11_differs 5 (some .int) 2 D (wX q k g gl) (tyX k) [.ref (q 0), .int p1] (.int (-1)) := by
  refine Rd.of (by decide) (Nat.le_of_ble_eq_true rfl) ?_
  intro p e s m below meth c ls hx hb hr hml hown hts hlocks hP hK hl
  have hown : s.vm.findClass "SignalTable" = some m.cls := hown
  have hl : lv_has ls 5 [(0, .ref (q 0)), (1, .int p1)] := hl
  refine lv_aload_n hx hb dX11_differs_0 rfl (lv_at hl 0 rfl) ?_
  refine lv_iload_n hx hb dX11_differs_1 rfl (lv_at hl 1 rfl) ?_
  refine rd_V (As := [.int p1]) (rest := []) (d := 1) caV_SignalTable_273 hx hb hml hown hts hP hK (rX_X11_refusal p1) (ci := 11) (q0 := 0) rfl rfl (by decide) rfl hl.1 (Nat.le_of_ble_eq_true rfl) (by decide) dX11_differs_2 rfl ?_
  refine lv_istore_n (lv' := [(2, .int (-1)), (0, .ref (q 0)), (1, .int p1)]) hx hb dX11_differs_5 rfl hl (by decide) rfl (fun ls hl => ?_)
  refine lv_iload_n hx hb dX11_differs_6 rfl (lv_at hl 0 rfl) ?_
  refine lv_if_eq (tgt := 12) hx hb dX11_differs_7 (by decide) (fun h => absurd h (by decide)) (fun _ => ?_)
  refine lv_iload_n hx hb dX11_differs_10 rfl (lv_at hl 0 rfl) ?_
  exact rd_i hx hb hr hlocks (rfl) dX11_differs_11
set_option maxHeartbeats 4000000 in
set_option maxRecDepth 100000 in
theorem rX_X11_lies {l : Launch} {D : va_G} {q : Nat → Nat} {k : Nat → ClassId} {g : Nat → Nat → Int32} {gl : Nat → Nat → Int64} (p1 : Int32) : Rd l yX11_lies cX11_lies 2 (some .int) 0 D (wX q k g gl) (tyX k) [.ref (q 0), .int p1] (.int (-1)) := by
  refine Rd.of (by decide) (Nat.le_of_ble_eq_true rfl) ?_
  intro p e s m below meth c ls hx hb hr hml hown hts hlocks hP hK hl
  have hown : s.vm.findClass "SignalTable" = some m.cls := hown
  have hl : lv_has ls 2 [(0, .ref (q 0)), (1, .int p1)] := hl
  refine lv_aload_n hx hb dX11_lies_0 rfl (lv_at hl 0 rfl) ?_
  refine va_get (D := D) (ci := 11) (v := .ref (q 11)) (C := RX11) (T := TX11) (N := 14) hx hb hts inX11 hown hK hP 0 rfl rfl 5 (by decide) (hts _ kw_712) (fun _ h9 => h9) rfl dX11_lies_1 ?_
  refine va_get (D := D) (ci := 3) (v := .int (-2)) (C := RX3) (T := TX3) (N := 18) hx hb hts inX3 hown hK hP 11 rfl rfl 6 (by decide) (hts _ kw_437) (fun _ h9 => h9) rfl dX11_lies_4 ?_
  refine lv_if_lt (tgt := 18) hx hb dX11_lies_7 (by decide) (fun _ => ?_) (fun h => absurd (by decide) h)
  refine lv_iconst (v := (-1)) hx hb dX11_lies_18 (by decide) ?_
  refine lv_goto (tgt := 30) hx hb dX11_lies_19 (by decide) ?_
  exact rd_i hx hb hr hlocks (rfl) dX11_lies_30
set_option maxHeartbeats 4000000 in
set_option maxRecDepth 100000 in
theorem rX_X11_worth {l : Launch} {D : va_G} {q : Nat → Nat} {k : Nat → ClassId} {g : Nat → Nat → Int32} {gl : Nat → Nat → Int64} (p1 : Int32) : Rd l yX11_worth cX11_worth 5 (some .long) 2 D (wX q k g gl) (tyX k) [.ref (q 0), .int p1] (.long (-1000000)) := by
  refine Rd.of (by decide) (Nat.le_of_ble_eq_true rfl) ?_
  intro p e s m below meth c ls hx hb hr hml hown hts hlocks hP hK hl
  have hown : s.vm.findClass "SignalTable" = some m.cls := hown
  have hl : lv_has ls 5 [(0, .ref (q 0)), (1, .int p1)] := hl
  refine lv_aload_n hx hb dX11_worth_0 rfl (lv_at hl 0 rfl) ?_
  refine lv_iload_n hx hb dX11_worth_1 rfl (lv_at hl 1 rfl) ?_
  refine rd_V (As := [.int p1]) (rest := []) (d := 1) caV_SignalTable_273 hx hb hml hown hts hP hK (rX_X11_refusal p1) (ci := 11) (q0 := 0) rfl rfl (by decide) rfl hl.1 (Nat.le_of_ble_eq_true rfl) (by decide) dX11_worth_2 rfl ?_
  refine lv_if_eq (tgt := 12) hx hb dX11_worth_5 (by decide) (fun h => absurd h (by decide)) (fun _ => ?_)
  refine lv_ldc2 (v := (-1000000)) hx hb hown (hts _ kw_1368) dX11_worth_8 ?_
  exact rd_l hx hb hr hlocks (rfl) dX11_worth_11
set_option maxHeartbeats 4000000 in
set_option maxRecDepth 100000 in
theorem rX_X11_gain {l : Launch} {D : va_G} {q : Nat → Nat} {k : Nat → ClassId} {g : Nat → Nat → Int32} {gl : Nat → Nat → Int64} (p1 p2 p3 : Int32) : Rd l yX11_gain cX11_gain 4 (some .int) 1 D (wX q k g gl) (tyX k) [.ref (q 0), .int p1, .int p2, .int p3] (.int (-1000)) := by
  refine Rd.of (by decide) (Nat.le_of_ble_eq_true rfl) ?_
  intro p e s m below meth c ls hx hb hr hml hown hts hlocks hP hK hl
  have hown : s.vm.findClass "SignalTable" = some m.cls := hown
  have hl : lv_has ls 4 [(0, .ref (q 0)), (1, .int p1), (2, .int p2), (3, .int p3)] := hl
  refine lv_aload_n hx hb dX11_gain_0 rfl (lv_at hl 0 rfl) ?_
  refine lv_iload_n hx hb dX11_gain_1 rfl (lv_at hl 1 rfl) ?_
  refine rd_V (As := [.int p1]) (rest := []) (d := 0) caV_SignalTable_222 hx hb hml hown hts hP hK (rX_X11_areCustoms p1) (ci := 11) (q0 := 0) rfl rfl (by decide) rfl hl.1 (Nat.le_of_ble_eq_true rfl) (by decide) dX11_gain_2 rfl ?_
  refine lv_if_eq (tgt := 16) hx hb dX11_gain_5 (by decide) (fun c_1 => ?_) (fun c_1 => ?_)
  · skip
    have c_1 := z_if0 c_1
    refine lv_sipush (v := (-1000)) hx hb dX11_gain_16 (by decide) ?_
    exact rd_i hx hb hr hlocks (rfl) dX11_gain_19
  · skip
    have c_1 := z_ifn c_1
    refine lv_aload_n hx hb dX11_gain_8 rfl (lv_at hl 0 rfl) ?_
    refine lv_iload_n hx hb dX11_gain_9 rfl (lv_at hl 3 rfl) ?_
    refine rd_V (As := [.int p3]) (rest := []) (d := 0) caV_SignalTable_319 hx hb hml hown hts hP hK (rX_X11_canGain p3) (ci := 11) (q0 := 0) rfl rfl (by decide) rfl hl.1 (Nat.le_of_ble_eq_true rfl) (by decide) dX11_gain_10 rfl ?_
    refine lv_if_ne (tgt := 20) hx hb dX11_gain_13 (by decide) (fun h => absurd (by decide) h) (fun _ => ?_)
    refine lv_sipush (v := (-1000)) hx hb dX11_gain_16 (by decide) ?_
    exact rd_i hx hb hr hlocks (rfl) dX11_gain_19
set_option maxHeartbeats 4000000 in
set_option maxRecDepth 100000 in
theorem rX_X11_bestSet {l : Launch} {D : va_G} {q : Nat → Nat} {k : Nat → ClassId} {g : Nat → Nat → Int32} {gl : Nat → Nat → Int64} (p1 p2 p3 : Int32) : Rd l yX11_bestSet cX11_bestSet 9 (some .int) 1 D (wX q k g gl) (tyX k) [.ref (q 0), .int p1, .int p2, .int p3] (.int (-1000)) := by
  refine Rd.of (by decide) (Nat.le_of_ble_eq_true rfl) ?_
  intro p e s m below meth c ls hx hb hr hml hown hts hlocks hP hK hl
  have hown : s.vm.findClass "SignalTable" = some m.cls := hown
  have hl : lv_has ls 9 [(0, .ref (q 0)), (1, .int p1), (2, .int p2), (3, .int p3)] := hl
  refine lv_iload_n hx hb dX11_bestSet_0 rfl (lv_at hl 3 rfl) ?_
  refine lv_if_lt (tgt := 17) hx hb dX11_bestSet_1 (by decide) (fun c_1 => ?_) (fun c_1 => ?_)
  · skip
    refine lv_sipush (v := (-1000)) hx hb dX11_bestSet_17 (by decide) ?_
    exact rd_i hx hb hr hlocks (rfl) dX11_bestSet_20
  · skip
    refine lv_iload_n hx hb dX11_bestSet_4 rfl (lv_at hl 3 rfl) ?_
    refine lv_iconst (v := 1) hx hb dX11_bestSet_5 (by decide) ?_
    refine lv_icmp_gt (tgt := 17) hx hb dX11_bestSet_6 (by decide) (fun c_2 => ?_) (fun c_2 => ?_)
    · skip
      refine lv_sipush (v := (-1000)) hx hb dX11_bestSet_17 (by decide) ?_
      exact rd_i hx hb hr hlocks (rfl) dX11_bestSet_20
    · skip
      refine lv_aload_n hx hb dX11_bestSet_9 rfl (lv_at hl 0 rfl) ?_
      refine lv_iload_n hx hb dX11_bestSet_10 rfl (lv_at hl 2 rfl) ?_
      refine rd_V (As := [.int p2]) (rest := []) (d := 0) caV_SignalTable_319 hx hb hml hown hts hP hK (rX_X11_canGain p2) (ci := 11) (q0 := 0) rfl rfl (by decide) rfl hl.1 (Nat.le_of_ble_eq_true rfl) (by decide) dX11_bestSet_11 rfl ?_
      refine lv_if_ne (tgt := 21) hx hb dX11_bestSet_14 (by decide) (fun h => absurd (by decide) h) (fun _ => ?_)
      refine lv_sipush (v := (-1000)) hx hb dX11_bestSet_17 (by decide) ?_
      exact rd_i hx hb hr hlocks (rfl) dX11_bestSet_20
set_option maxHeartbeats 4000000 in
set_option maxRecDepth 100000 in
theorem rX_X11_book {l : Launch} {D : va_G} {q : Nat → Nat} {k : Nat → ClassId} {g : Nat → Nat → Int32} {gl : Nat → Nat → Int64} : Rd l yX11_book cX11_book 1 (some .int) 1 D (wX q k g gl) (tyX k) [.ref (q 0)] (.int (-1)) := by
  refine Rd.of (by decide) (Nat.le_of_ble_eq_true rfl) ?_
  intro p e s m below meth c ls hx hb hr hml hown hts hlocks hP hK hl
  have hown : s.vm.findClass "SignalTable" = some m.cls := hown
  have hl : lv_has ls 1 [(0, .ref (q 0))] := hl
  refine lv_aload_n hx hb dX11_book_0 rfl (lv_at hl 0 rfl) ?_
  refine va_get (D := D) (ci := 11) (v := .ref (q 11)) (C := RX11) (T := TX11) (N := 14) hx hb hts inX11 hown hK hP 0 rfl rfl 5 (by decide) (hts _ kw_712) (fun _ h9 => h9) rfl dX11_book_1 ?_
  refine rd_V (As := []) (rest := []) (d := 0) caV_SignalTable_329 hx hb hml hown hts hP hK (rX_X3_isOver) (ci := 3) (q0 := 11) rfl rfl (by decide) rfl hl.1 (Nat.le_of_ble_eq_true rfl) (by decide) dX11_book_4 rfl ?_
  refine lv_if_eq (tgt := 22) hx hb dX11_book_7 (by decide) (fun _ => ?_) (fun h => absurd (by decide) h)
  refine lv_iconst (v := (-1)) hx hb dX11_book_22 (by decide) ?_
  exact rd_i hx hb hr hlocks (rfl) dX11_book_23
set_option maxHeartbeats 4000000 in
set_option maxRecDepth 100000 in
theorem rX_X11_kept {l : Launch} {D : va_G} {q : Nat → Nat} {k : Nat → ClassId} {g : Nat → Nat → Int32} {gl : Nat → Nat → Int64} (p1 : Int32) : Rd l yX11_kept cX11_kept 4 (some .int) 0 D (wX q k g gl) (tyX k) [.ref (q 0), .int p1] (.int (if p1 = 0 then 0 else (-1))) := by
  refine Rd.of (by decide) (Nat.le_of_ble_eq_true rfl) ?_
  intro p e s m below meth c ls hx hb hr hml hown hts hlocks hP hK hl
  have hown : s.vm.findClass "SignalTable" = some m.cls := hown
  have hl : lv_has ls 4 [(0, .ref (q 0)), (1, .int p1)] := hl
  refine lv_iload_n hx hb dX11_kept_0 rfl (lv_at hl 1 rfl) ?_
  refine lv_if_lt (tgt := 15) hx hb dX11_kept_1 (by decide) (fun c_1 => ?_) (fun c_1 => ?_)
  · skip
    refine lv_iconst (v := (-1)) hx hb dX11_kept_15 (by decide) ?_
    exact rd_i hx hb hr hlocks (congrArg Value.int (by by_cases s_1 : p1 = 0 <;> simp only [s_1, if_true, if_false, and_self, not_false_eq_true, not_true_eq_false] <;> first | rfl | (exfalso; simp only [Int32.lt_iff_toInt_lt, Int32.le_iff_toInt_le, ← Int32.toInt_inj, ti_m2, ti_m1, ti_0, ti_1, ti_2, ti_3, ti_4, ti_5, ti_6, ti_7, ti_8, ti_10, ti_20] at s_1 c_1 <;> omega))) dX11_kept_16
  · skip
    refine lv_iload_n hx hb dX11_kept_4 rfl (lv_at hl 1 rfl) ?_
    refine lv_aload_n hx hb dX11_kept_5 rfl (lv_at hl 0 rfl) ?_
    refine va_get (D := D) (ci := 11) (v := .ref (q 24)) (C := RX11) (T := TX11) (N := 14) hx hb hts inX11 hown hK hP 0 rfl rfl 12 (by decide) (hts _ kw_719) (fun _ h9 => h9) rfl dX11_kept_6 ?_
    refine va_get (D := D) (ci := 0) (v := .int 0) (C := RX0) (T := TX0) (N := 3) hx hb hts inX0 hown hK hP 24 rfl rfl 2 (by decide) (hts _ kw_670) (fun _ h9 => h9) rfl dX11_kept_9 ?_
    refine lv_icmp_le (tgt := 17) hx hb dX11_kept_12 (by decide) (fun c_2 => ?_) (fun c_2 => ?_)
    · skip
      refine lv_iconst (v := 0) hx hb dX11_kept_17 (by decide) ?_
      refine lv_istore_n (lv' := [(2, .int 0), (0, .ref (q 0)), (1, .int p1)]) hx hb dX11_kept_18 rfl hl (by decide) rfl (fun ls hl => ?_)
      refine lv_iconst (v := 0) hx hb dX11_kept_19 (by decide) ?_
      refine lv_istore_n (lv' := [(3, .int 0), (2, .int 0), (0, .ref (q 0)), (1, .int p1)]) hx hb dX11_kept_20 rfl hl (by decide) rfl (fun ls hl => ?_)
      refine lv_iload_n hx hb dX11_kept_21 rfl (lv_at hl 0 rfl) ?_
      refine lv_aload_n hx hb dX11_kept_22 rfl (lv_at hl 2 rfl) ?_
      refine va_get (D := D) (ci := 11) (v := .ref (q 2)) (C := RX11) (T := TX11) (N := 14) hx hb hts inX11 hown hK hP 0 rfl rfl 2 (by decide) (hts _ kw_709) (fun _ h9 => h9) rfl dX11_kept_23 ?_
      refine va_get (D := D) (ci := 5) (v := .int 0) (C := RX5) (T := TX5) (N := 16) hx hb hts inX5 hown hK hP 2 rfl rfl 3 (by decide) (hts _ kw_204) (fun _ h9 => h9) rfl dX11_kept_26 ?_
      refine lv_icmp_ge (tgt := 56) hx hb dX11_kept_29 (by decide) (fun _ => ?_) (fun h => absurd (by decide) h)
      refine lv_iload_n hx hb dX11_kept_56 rfl (lv_at hl 1 rfl) ?_
      exact rd_i hx hb hr hlocks (congrArg Value.int (by by_cases s_1 : p1 = 0 <;> simp only [s_1, if_true, if_false, and_self, not_false_eq_true, not_true_eq_false] <;> first | rfl | (exfalso; simp only [Int32.lt_iff_toInt_lt, Int32.le_iff_toInt_le, ← Int32.toInt_inj, ti_m2, ti_m1, ti_0, ti_1, ti_2, ti_3, ti_4, ti_5, ti_6, ti_7, ti_8, ti_10, ti_20] at s_1 c_1 c_2 <;> omega))) dX11_kept_57
    · skip
      refine lv_iconst (v := (-1)) hx hb dX11_kept_15 (by decide) ?_
      exact rd_i hx hb hr hlocks (congrArg Value.int (by by_cases s_1 : p1 = 0 <;> simp only [s_1, if_true, if_false, and_self, not_false_eq_true, not_true_eq_false] <;> first | rfl | (exfalso; simp only [Int32.lt_iff_toInt_lt, Int32.le_iff_toInt_le, ← Int32.toInt_inj, ti_m2, ti_m1, ti_0, ti_1, ti_2, ti_3, ti_4, ti_5, ti_6, ti_7, ti_8, ti_10, ti_20] at s_1 c_1 c_2 <;> omega))) dX11_kept_16
set_option maxHeartbeats 4000000 in
set_option maxRecDepth 100000 in
theorem rX_X11_told {l : Launch} {D : va_G} {q : Nat → Nat} {k : Nat → ClassId} {g : Nat → Nat → Int32} {gl : Nat → Nat → Int64} (p1 p2 p3 : Int32) : Rd l yX11_told cX11_told 4 (some .int) 1 D (wX q k g gl) (tyX k) [.ref (q 0), .int p1, .int p2, .int p3] (.int (-1)) := by
  refine Rd.of (by decide) (Nat.le_of_ble_eq_true rfl) ?_
  intro p e s m below meth c ls hx hb hr hml hown hts hlocks hP hK hl
  have hown : s.vm.findClass "SignalTable" = some m.cls := hown
  have hl : lv_has ls 4 [(0, .ref (q 0)), (1, .int p1), (2, .int p2), (3, .int p3)] := hl
  refine lv_aload_n hx hb dX11_told_0 rfl (lv_at hl 0 rfl) ?_
  refine lv_iload_n hx hb dX11_told_1 rfl (lv_at hl 1 rfl) ?_
  refine rd_V (As := [.int p1]) (rest := []) (d := 0) caV_SignalTable_340 hx hb hml hown hts hP hK (rX_X11_isCustom p1) (ci := 11) (q0 := 0) rfl rfl (by decide) rfl hl.1 (Nat.le_of_ble_eq_true rfl) (by decide) dX11_told_2 rfl ?_
  refine lv_if_eq (tgt := 32) hx hb dX11_told_5 (by decide) (fun _ => ?_) (fun h => absurd (by decide) h)
  refine lv_iconst (v := (-1)) hx hb dX11_told_32 (by decide) ?_
  exact rd_i hx hb hr hlocks (rfl) dX11_told_33
set_option maxHeartbeats 4000000 in
set_option maxRecDepth 100000 in
theorem rX_X11_openings {l : Launch} {D : va_G} {q : Nat → Nat} {k : Nat → ClassId} {g : Nat → Nat → Int32} {gl : Nat → Nat → Int64} (p1 p2 : Int32) : Rd l yX11_openings cX11_openings 3 (some .int) 1 D (wX q k g gl) (tyX k) [.ref (q 0), .int p1, .int p2] (.int (-1)) := by
  refine Rd.of (by decide) (Nat.le_of_ble_eq_true rfl) ?_
  intro p e s m below meth c ls hx hb hr hml hown hts hlocks hP hK hl
  have hown : s.vm.findClass "SignalTable" = some m.cls := hown
  have hl : lv_has ls 3 [(0, .ref (q 0)), (1, .int p1), (2, .int p2)] := hl
  refine lv_aload_n hx hb dX11_openings_0 rfl (lv_at hl 0 rfl) ?_
  refine lv_iload_n hx hb dX11_openings_1 rfl (lv_at hl 1 rfl) ?_
  refine rd_V (As := [.int p1]) (rest := []) (d := 0) caV_SignalTable_340 hx hb hml hown hts hP hK (rX_X11_isCustom p1) (ci := 11) (q0 := 0) rfl rfl (by decide) rfl hl.1 (Nat.le_of_ble_eq_true rfl) (by decide) dX11_openings_2 rfl ?_
  refine lv_if_eq (tgt := 17) hx hb dX11_openings_5 (by decide) (fun _ => ?_) (fun h => absurd (by decide) h)
  refine lv_iconst (v := (-1)) hx hb dX11_openings_17 (by decide) ?_
  exact rd_i hx hb hr hlocks (rfl) dX11_openings_18
set_option maxHeartbeats 4000000 in
set_option maxRecDepth 100000 in
theorem rX_X11_quarrel {l : Launch} {D : va_G} {q : Nat → Nat} {k : Nat → ClassId} {g : Nat → Nat → Int32} {gl : Nat → Nat → Int64} (p1 p2 : Int32) : Rd l yX11_quarrel cX11_quarrel 3 (some .int) 1 D (wX q k g gl) (tyX k) [.ref (q 0), .int p1, .int p2] (.int (-1)) := by
  refine Rd.of (by decide) (Nat.le_of_ble_eq_true rfl) ?_
  intro p e s m below meth c ls hx hb hr hml hown hts hlocks hP hK hl
  have hown : s.vm.findClass "SignalTable" = some m.cls := hown
  have hl : lv_has ls 3 [(0, .ref (q 0)), (1, .int p1), (2, .int p2)] := hl
  refine lv_aload_n hx hb dX11_quarrel_0 rfl (lv_at hl 0 rfl) ?_
  refine lv_iload_n hx hb dX11_quarrel_1 rfl (lv_at hl 1 rfl) ?_
  refine rd_V (As := [.int p1]) (rest := []) (d := 0) caV_SignalTable_340 hx hb hml hown hts hP hK (rX_X11_isCustom p1) (ci := 11) (q0 := 0) rfl rfl (by decide) rfl hl.1 (Nat.le_of_ble_eq_true rfl) (by decide) dX11_quarrel_2 rfl ?_
  refine lv_if_eq (tgt := 21) hx hb dX11_quarrel_5 (by decide) (fun _ => ?_) (fun h => absurd (by decide) h)
  refine lv_iconst (v := (-1)) hx hb dX11_quarrel_21 (by decide) ?_
  exact rd_i hx hb hr hlocks (rfl) dX11_quarrel_22
set_option maxHeartbeats 4000000 in
set_option maxRecDepth 100000 in
theorem rX_X11_gap {l : Launch} {D : va_G} {q : Nat → Nat} {k : Nat → ClassId} {g : Nat → Nat → Int32} {gl : Nat → Nat → Int64} : Rd l yX11_gap cX11_gap 1 (some .int) 2 D (wX q k g gl) (tyX k) [.ref (q 0)] (.int 7280) := by
  refine Rd.of (by decide) (Nat.le_of_ble_eq_true rfl) ?_
  intro p e s m below meth c ls hx hb hr hml hown hts hlocks hP hK hl
  have hown : s.vm.findClass "SignalTable" = some m.cls := hown
  have hl : lv_has ls 1 [(0, .ref (q 0))] := hl
  refine lv_aload_n hx hb dX11_gap_0 rfl (lv_at hl 0 rfl) ?_
  refine va_get (D := D) (ci := 11) (v := .ref (q 25)) (C := RX11) (T := TX11) (N := 14) hx hb hts inX11 hown hK hP 0 rfl rfl 13 (by decide) (hts _ kw_720) (fun _ h9 => h9) rfl dX11_gap_1 ?_
  refine rd_V (As := []) (rest := []) (d := 1) caV_SignalTable_355 hx hb hml hown hts hP hK (rX_X7_untouched) (ci := 7) (q0 := 25) rfl rfl (by decide) rfl hl.1 (Nat.le_of_ble_eq_true rfl) (by decide) dX11_gap_4 rfl ?_
  exact rd_i hx hb hr hlocks (rfl) dX11_gap_7
set_option maxHeartbeats 4000000 in
set_option maxRecDepth 100000 in
theorem rX_X11_hold {l : Launch} {D : va_G} {q : Nat → Nat} {k : Nat → ClassId} {g : Nat → Nat → Int32} {gl : Nat → Nat → Int64} (p1 : Int32) : Rd l yX11_hold cX11_hold 2 (some .boolean) 0 D (wX q k g gl) (tyX k) [.ref (q 0), .int p1] (.int 0) := by
  refine Rd.of (by decide) (Nat.le_of_ble_eq_true rfl) ?_
  intro p e s m below meth c ls hx hb hr hml hown hts hlocks hP hK hl
  have hown : s.vm.findClass "SignalTable" = some m.cls := hown
  have hl : lv_has ls 2 [(0, .ref (q 0)), (1, .int p1)] := hl
  refine lv_iload_n hx hb dX11_hold_0 rfl (lv_at hl 1 rfl) ?_
  refine lv_if_lt (tgt := 19) hx hb dX11_hold_1 (by decide) (fun c_1 => ?_) (fun c_1 => ?_)
  · skip
    refine lv_iconst (v := 0) hx hb dX11_hold_19 (by decide) ?_
    exact rd_z hx hb hr hlocks rfl (rfl) dX11_hold_20
  · skip
    refine lv_iload_n hx hb dX11_hold_4 rfl (lv_at hl 1 rfl) ?_
    refine lv_iconst (v := 2) hx hb dX11_hold_5 (by decide) ?_
    refine lv_icmp_ge (tgt := 19) hx hb dX11_hold_6 (by decide) (fun c_2 => ?_) (fun c_2 => ?_)
    · skip
      refine lv_iconst (v := 0) hx hb dX11_hold_19 (by decide) ?_
      exact rd_z hx hb hr hlocks rfl (rfl) dX11_hold_20
    · skip
      refine lv_aload_n hx hb dX11_hold_9 rfl (lv_at hl 0 rfl) ?_
      refine va_get (D := D) (ci := 11) (v := .ref (q 11)) (C := RX11) (T := TX11) (N := 14) hx hb hts inX11 hown hK hP 0 rfl rfl 5 (by decide) (hts _ kw_712) (fun _ h9 => h9) rfl dX11_hold_10 ?_
      refine va_get (D := D) (ci := 3) (v := .int 0) (C := RX3) (T := TX3) (N := 18) hx hb hts inX3 hown hK hP 11 rfl rfl 2 (by decide) (hts _ kw_423) (fun _ h9 => h9) rfl dX11_hold_13 ?_
      refine lv_if_ne (tgt := 21) hx hb dX11_hold_16 (by decide) (fun h => absurd (by decide) h) (fun _ => ?_)
      refine lv_iconst (v := 0) hx hb dX11_hold_19 (by decide) ?_
      exact rd_z hx hb hr hlocks rfl (rfl) dX11_hold_20
set_option maxHeartbeats 4000000 in
set_option maxRecDepth 100000 in
theorem rX_X11_restore {l : Launch} {D : va_G} {q : Nat → Nat} {k : Nat → ClassId} {g : Nat → Nat → Int32} {gl : Nat → Nat → Int64} (p1 : Int32) : Rd l yX11_restore cX11_restore 2 (some .boolean) 0 D (wX q k g gl) (tyX k) [.ref (q 0), .int p1] (.int 0) := by
  refine Rd.of (by decide) (Nat.le_of_ble_eq_true rfl) ?_
  intro p e s m below meth c ls hx hb hr hml hown hts hlocks hP hK hl
  have hown : s.vm.findClass "SignalTable" = some m.cls := hown
  have hl : lv_has ls 2 [(0, .ref (q 0)), (1, .int p1)] := hl
  refine lv_iload_n hx hb dX11_restore_0 rfl (lv_at hl 1 rfl) ?_
  refine lv_if_lt (tgt := 21) hx hb dX11_restore_1 (by decide) (fun c_1 => ?_) (fun c_1 => ?_)
  · skip
    refine lv_iconst (v := 0) hx hb dX11_restore_21 (by decide) ?_
    exact rd_z hx hb hr hlocks rfl (rfl) dX11_restore_22
  · skip
    refine lv_iload_n hx hb dX11_restore_4 rfl (lv_at hl 1 rfl) ?_
    refine lv_iconst (v := 2) hx hb dX11_restore_5 (by decide) ?_
    refine lv_icmp_ge (tgt := 21) hx hb dX11_restore_6 (by decide) (fun c_2 => ?_) (fun c_2 => ?_)
    · skip
      refine lv_iconst (v := 0) hx hb dX11_restore_21 (by decide) ?_
      exact rd_z hx hb hr hlocks rfl (rfl) dX11_restore_22
    · skip
      refine lv_aload_n hx hb dX11_restore_9 rfl (lv_at hl 0 rfl) ?_
      refine va_get (D := D) (ci := 11) (v := .ref (q 16)) (C := RX11) (T := TX11) (N := 14) hx hb hts inX11 hown hK hP 0 rfl rfl 7 (by decide) (hts _ kw_714) (fun _ h9 => h9) rfl dX11_restore_10 ?_
      refine lv_iload_n hx hb dX11_restore_13 rfl (lv_at hl 1 rfl) ?_
      by_cases c_3 : p1 = 0
      · subst c_3
        refine va_aldq hx hb hK hP 16 10 rfl rfl (z_in (by decide)) dX11_restore_14 ?_
        refine z_v (v := .ref (q 17)) (by rfl) ?_
        refine va_get (D := D) (ci := 3) (v := .int 0) (C := RX3) (T := TX3) (N := 18) hx hb hts inX3 hown hK hP 17 rfl rfl 2 (by decide) (hts _ kw_423) (fun _ h9 => h9) rfl dX11_restore_15 ?_
        refine lv_if_ne (tgt := 23) hx hb dX11_restore_18 (by decide) (fun h => absurd (by decide) h) (fun _ => ?_)
        refine lv_iconst (v := 0) hx hb dX11_restore_21 (by decide) ?_
        exact rd_z hx hb hr hlocks rfl (rfl) dX11_restore_22
      by_cases c_4 : p1 = 1
      · subst c_4
        refine va_aldq hx hb hK hP 16 10 rfl rfl (z_in (by decide)) dX11_restore_14 ?_
        refine z_v (v := .ref (q 18)) (by rfl) ?_
        refine va_get (D := D) (ci := 3) (v := .int 0) (C := RX3) (T := TX3) (N := 18) hx hb hts inX3 hown hK hP 18 rfl rfl 2 (by decide) (hts _ kw_423) (fun _ h9 => h9) rfl dX11_restore_15 ?_
        refine lv_if_ne (tgt := 23) hx hb dX11_restore_18 (by decide) (fun h => absurd (by decide) h) (fun _ => ?_)
        refine lv_iconst (v := 0) hx hb dX11_restore_21 (by decide) ?_
        exact rd_z hx hb hr hlocks rfl (rfl) dX11_restore_22
      exfalso
      simp only [Int32.lt_iff_toInt_lt, Int32.le_iff_toInt_le, ← Int32.toInt_inj, ti_m2, ti_m1, ti_0, ti_1, ti_2, ti_3, ti_4, ti_5, ti_6, ti_7, ti_8, ti_10, ti_20] at c_1 c_2 c_3 c_4 <;> omega
set_option maxHeartbeats 4000000 in
set_option maxRecDepth 100000 in
theorem rX_X11_count {l : Launch} {D : va_G} {q : Nat → Nat} {k : Nat → ClassId} {g : Nat → Nat → Int32} {gl : Nat → Nat → Int64} (p1 : Int32) : Rd l yX11_count cX11_count 2 (some .int) 1 D (wX q k g gl) (tyX k) [.ref (q 0), .int p1] (.int (sp_count p1)) := by
  refine Rd.of (by decide) (Nat.le_of_ble_eq_true rfl) ?_
  intro p e s m below meth c ls hx hb hr hml hown hts hlocks hP hK hl
  have hown : s.vm.findClass "SignalTable" = some m.cls := hown
  have hl : lv_has ls 2 [(0, .ref (q 0)), (1, .int p1)] := hl
  refine lv_iload_n hx hb dX11_count_0 rfl (lv_at hl 1 rfl) ?_
  by_cases c_1 : p1 = 0
  · subst c_1
    refine lv_tableIn (off := 51) (tgt := 52) hx hb dX11_count_1 (by decide) (by decide) rfl (by decide) ?_
    refine lv_aload_n hx hb dX11_count_52 rfl (lv_at hl 0 rfl) ?_
    refine va_get (D := D) (ci := 11) (v := .ref (q 2)) (C := RX11) (T := TX11) (N := 14) hx hb hts inX11 hown hK hP 0 rfl rfl 2 (by decide) (hts _ kw_709) (fun _ h9 => h9) rfl dX11_count_53 ?_
    refine va_get (D := D) (ci := 5) (v := .int 4) (C := RX5) (T := TX5) (N := 16) hx hb hts inX5 hown hK hP 2 rfl rfl 0 (by decide) (hts _ kw_191) (fun _ h9 => h9) rfl dX11_count_56 ?_
    exact rd_i hx hb hr hlocks (rfl) dX11_count_59
  by_cases c_2 : p1 = 1
  · subst c_2
    refine lv_tableIn (off := 59) (tgt := 60) hx hb dX11_count_1 (by decide) (by decide) rfl (by decide) ?_
    refine lv_aload_n hx hb dX11_count_60 rfl (lv_at hl 0 rfl) ?_
    refine va_get (D := D) (ci := 11) (v := .ref (q 2)) (C := RX11) (T := TX11) (N := 14) hx hb hts inX11 hown hK hP 0 rfl rfl 2 (by decide) (hts _ kw_709) (fun _ h9 => h9) rfl dX11_count_61 ?_
    refine va_get (D := D) (ci := 5) (v := .int 4) (C := RX5) (T := TX5) (N := 16) hx hb hts inX5 hown hK hP 2 rfl rfl 1 (by decide) (hts _ kw_194) (fun _ h9 => h9) rfl dX11_count_64 ?_
    exact rd_i hx hb hr hlocks (rfl) dX11_count_67
  by_cases c_3 : p1 = 2
  · subst c_3
    refine lv_tableIn (off := 67) (tgt := 68) hx hb dX11_count_1 (by decide) (by decide) rfl (by decide) ?_
    refine lv_aload_n hx hb dX11_count_68 rfl (lv_at hl 0 rfl) ?_
    refine va_get (D := D) (ci := 11) (v := .ref (q 2)) (C := RX11) (T := TX11) (N := 14) hx hb hts inX11 hown hK hP 0 rfl rfl 2 (by decide) (hts _ kw_709) (fun _ h9 => h9) rfl dX11_count_69 ?_
    refine va_get (D := D) (ci := 5) (v := .int 4) (C := RX5) (T := TX5) (N := 16) hx hb hts inX5 hown hK hP 2 rfl rfl 11 (by decide) (hts _ kw_230) (fun _ h9 => h9) rfl dX11_count_72 ?_
    exact rd_i hx hb hr hlocks (rfl) dX11_count_75
  by_cases c_4 : p1 = 3
  · subst c_4
    refine lv_tableIn (off := 75) (tgt := 76) hx hb dX11_count_1 (by decide) (by decide) rfl (by decide) ?_
    refine lv_aload_n hx hb dX11_count_76 rfl (lv_at hl 0 rfl) ?_
    refine va_get (D := D) (ci := 11) (v := .ref (q 2)) (C := RX11) (T := TX11) (N := 14) hx hb hts inX11 hown hK hP 0 rfl rfl 2 (by decide) (hts _ kw_709) (fun _ h9 => h9) rfl dX11_count_77 ?_
    refine va_get (D := D) (ci := 5) (v := .int (-1)) (C := RX5) (T := TX5) (N := 16) hx hb hts inX5 hown hK hP 2 rfl rfl 2 (by decide) (hts _ kw_200) (fun _ h9 => h9) rfl dX11_count_80 ?_
    refine lv_if_ge (tgt := 91) hx hb dX11_count_83 (by decide) (fun h => absurd h (by decide)) (fun _ => ?_)
    refine lv_bipush (v := (-2)) hx hb dX11_count_86 (by decide) ?_
    refine lv_goto (tgt := 98) hx hb dX11_count_88 (by decide) ?_
    exact rd_i hx hb hr hlocks (rfl) dX11_count_98
  by_cases c_5 : p1 = 4
  · subst c_5
    refine lv_tableIn (off := 98) (tgt := 99) hx hb dX11_count_1 (by decide) (by decide) rfl (by decide) ?_
    refine lv_aload_n hx hb dX11_count_99 rfl (lv_at hl 0 rfl) ?_
    refine va_get (D := D) (ci := 11) (v := .ref (q 2)) (C := RX11) (T := TX11) (N := 14) hx hb hts inX11 hown hK hP 0 rfl rfl 2 (by decide) (hts _ kw_709) (fun _ h9 => h9) rfl dX11_count_100 ?_
    refine va_get (D := D) (ci := 5) (v := .int 0) (C := RX5) (T := TX5) (N := 16) hx hb hts inX5 hown hK hP 2 rfl rfl 3 (by decide) (hts _ kw_204) (fun _ h9 => h9) rfl dX11_count_103 ?_
    exact rd_i hx hb hr hlocks (rfl) dX11_count_106
  by_cases c_6 : p1 = 5
  · subst c_6
    refine lv_tableIn (off := 106) (tgt := 107) hx hb dX11_count_1 (by decide) (by decide) rfl (by decide) ?_
    refine lv_aload_n hx hb dX11_count_107 rfl (lv_at hl 0 rfl) ?_
    refine va_get (D := D) (ci := 11) (v := .ref (q 11)) (C := RX11) (T := TX11) (N := 14) hx hb hts inX11 hown hK hP 0 rfl rfl 5 (by decide) (hts _ kw_712) (fun _ h9 => h9) rfl dX11_count_108 ?_
    refine va_get (D := D) (ci := 3) (v := .int 0) (C := RX3) (T := TX3) (N := 18) hx hb hts inX3 hown hK hP 11 rfl rfl 2 (by decide) (hts _ kw_423) (fun _ h9 => h9) rfl dX11_count_111 ?_
    refine lv_if_eq (tgt := 127) hx hb dX11_count_114 (by decide) (fun _ => ?_) (fun h => absurd (by decide) h)
    refine lv_bipush (v := (-2)) hx hb dX11_count_127 (by decide) ?_
    exact rd_i hx hb hr hlocks (rfl) dX11_count_129
  by_cases c_7 : p1 = 6
  · subst c_7
    refine lv_tableIn (off := 129) (tgt := 130) hx hb dX11_count_1 (by decide) (by decide) rfl (by decide) ?_
    refine lv_aload_n hx hb dX11_count_130 rfl (lv_at hl 0 rfl) ?_
    refine va_get (D := D) (ci := 11) (v := .ref (q 24)) (C := RX11) (T := TX11) (N := 14) hx hb hts inX11 hown hK hP 0 rfl rfl 12 (by decide) (hts _ kw_719) (fun _ h9 => h9) rfl dX11_count_131 ?_
    refine va_get (D := D) (ci := 0) (v := .int 0) (C := RX0) (T := TX0) (N := 3) hx hb hts inX0 hown hK hP 24 rfl rfl 2 (by decide) (hts _ kw_670) (fun _ h9 => h9) rfl dX11_count_134 ?_
    exact rd_i hx hb hr hlocks (rfl) dX11_count_137
  by_cases c_8 : p1 = 7
  · subst c_8
    refine lv_tableIn (off := 137) (tgt := 138) hx hb dX11_count_1 (by decide) (by decide) rfl (by decide) ?_
    refine lv_aload_n hx hb dX11_count_138 rfl (lv_at hl 0 rfl) ?_
    refine va_get (D := D) (ci := 11) (v := .int 0) (C := RX11) (T := TX11) (N := 14) hx hb hts inX11 hown hK hP 0 rfl rfl 1 (by decide) (hts _ kw_708) (fun _ h9 => h9) rfl dX11_count_139 ?_
    exact rd_i hx hb hr hlocks (rfl) dX11_count_142
  by_cases c_9 : p1 = 8
  · subst c_9
    refine lv_tableIn (off := 142) (tgt := 143) hx hb dX11_count_1 (by decide) (by decide) rfl (by decide) ?_
    refine lv_aload_n hx hb dX11_count_143 rfl (lv_at hl 0 rfl) ?_
    refine rd_V (As := []) (rest := []) (d := 0) caV_SignalTable_367 hx hb hml hown hts hP hK (rX_X11_slotsInUse) (ci := 11) (q0 := 0) rfl rfl (by decide) rfl hl.1 (Nat.le_of_ble_eq_true rfl) (by decide) dX11_count_144 rfl ?_
    exact rd_i hx hb hr hlocks (rfl) dX11_count_147
  have c_10 : p1.toInt < 0 ∨ 8 < p1.toInt := by
    simp only [Int32.lt_iff_toInt_lt, Int32.le_iff_toInt_le, ← Int32.toInt_inj, ti_m2, ti_m1, ti_0, ti_1, ti_2, ti_3, ti_4, ti_5, ti_6, ti_7, ti_8, ti_10, ti_20] at c_1 c_2 c_3 c_4 c_5 c_6 c_7 c_8 c_9
    omega
  refine lv_tableOut (tgt := 148) hx hb dX11_count_1 c_10 (by decide) ?_
  refine lv_iload_n hx hb dX11_count_148 rfl (lv_at hl 1 rfl) ?_
  refine lv_bipush (v := 10) hx hb dX11_count_149 (by decide) ?_
  refine lv_icmp_lt (tgt := 196) hx hb dX11_count_151 (by decide) (fun c_11 => ?_) (fun c_11 => ?_)
  · skip
    refine lv_iconst (v := (-1)) hx hb dX11_count_196 (by decide) ?_
    exact rd_i hx hb hr hlocks (congrArg Value.int (by simp [sp_count, c_1, c_2, c_3, c_4, c_5, c_6, c_7, c_8, c_9, c_11])) dX11_count_197
  · skip
    refine lv_aload_n hx hb dX11_count_154 rfl (lv_at hl 0 rfl) ?_
    refine lv_iload_n hx hb dX11_count_155 rfl (lv_at hl 1 rfl) ?_
    refine lv_bipush (v := 10) hx hb dX11_count_156 (by decide) ?_
    refine lv_isub hx hb dX11_count_158 ?_
    refine rd_V (As := [.int (p1 - 10)]) (rest := []) (d := 0) caV_SignalTable_340 hx hb hml hown hts hP hK (rX_X11_isCustom (p1 - 10)) (ci := 11) (q0 := 0) rfl rfl (by decide) rfl hl.1 (Nat.le_of_ble_eq_true rfl) (by decide) dX11_count_159 rfl ?_
    refine lv_if_eq (tgt := 196) hx hb dX11_count_162 (by decide) (fun _ => ?_) (fun h => absurd (by decide) h)
    refine lv_iconst (v := (-1)) hx hb dX11_count_196 (by decide) ?_
    exact rd_i hx hb hr hlocks (congrArg Value.int (by simp [sp_count, c_1, c_2, c_3, c_4, c_5, c_6, c_7, c_8, c_9, c_11])) dX11_count_197
