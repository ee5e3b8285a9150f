set_option maxHeartbeats 4000000 in
set_option maxRecDepth 100000 in
theorem law_fin {p : Program} {l : Launch} {e : Env} {s : State} {m : MethodId} {below : List Frame} {meth : Method} {c : Code} {b : Nat} {xs : Nat → Int32} {H : Heap} {locs : List Loc} {ls : Array Slot} (hx : p.tables.exec = Jvm.exec) (hb : c.code = code) (hr : meth.sig.returnType = ret) (hX : va_X b 6 xs s s.heap) (hbl : b < s.heap.size) (hlocks : meth.locks = false) (hS : va_S (fun a : Nat => s.heap.size ≤ a) s.heap H locs) (hl : lv_has ls 4 [(3, .int 0), (0, .ref b)]) : W p l e room_1 s m #[Value.ref b] below meth c H locs 158 353581 (lw_Z below #[Value.ref b] s) (F0 m 1494 ls []) := by
  have hbA : ¬ (fun a : Nat => s.heap.size ≤ a) b := Nat.not_le.mpr hbl
  refine lv_iinc (v := 6) (lv' := [(3, .int 6), (0, .ref b)]) hx hb dL_law_1494 hl (k := 0) rfl (by decide) (by decide) rfl (fun ls hl => ?_)
  refine lv_goto (tgt := 18) hx hb dL_law_1497 (by decide) ?_
  refine lv_iload_n hx hb dL_law_18 rfl (lv_at hl 0 rfl) ?_
  refine lv_aload_n hx hb dL_law_19 rfl (lv_at hl 1 rfl) ?_
  refine va_slen hx hb hX hbl hbA hS dL_law_20 ?_
  refine lv_bipush (v := 6) hx hb dL_law_21 (by decide) ?_
  refine lv_isub hx hb dL_law_23 ?_
  refine lv_icmp_gt (tgt := 1500) hx hb dL_law_24 (by decide) (fun _ => ?_) (fun h => absurd (by decide) h)
  refine lv_iconst (v := 1) hx hb dL_law_1500 (by decide) ?_
  refine va_forget (fun q hq => hS.2.2 q hq) ?_
  refine W.widen (k := 600000) (n := 7302250) (by decide) (by decide) ?_
  exact lw_ret hx hb hr hlocks dL_law_1501
theorem law_out {v : Int32} (s_0 : ¬ v = 0) (s_1 : ¬ v = 1) (s_2 : ¬ v = 2) (s_3 : ¬ v = 3) (s_4 : ¬ v = 4) (s_5 : ¬ v = 5) (s_6 : ¬ v = 6) (s_7 : ¬ v = 7) (s_8 : ¬ v = 8) (s_9 : ¬ v = 9) (s_10 : ¬ v = 10) (s_11 : ¬ v = 11) (s_12 : ¬ v = 12) (s_13 : ¬ v = 13) (s_14 : ¬ v = 14) (s_15 : ¬ v = 15) (s_16 : ¬ v = 16) (s_17 : ¬ v = 17) (s_18 : ¬ v = 18) (s_19 : ¬ v = 19) (s_20 : ¬ v = 20) (s_21 : ¬ v = 21) (s_22 : ¬ v = 22) (s_23 : ¬ v = 23) (s_24 : ¬ v = 24) (s_25 : ¬ v = 25) (s_26 : ¬ v = 26) (s_27 : ¬ v = 27) (s_28 : ¬ v = 28) (s_29 : ¬ v = 29) (s_30 : ¬ v = 30) (s_31 : ¬ v = 31) (s_32 : ¬ v = 32) (s_33 : ¬ v = 33) (s_34 : ¬ v = 34) (s_35 : ¬ v = 35) (s_36 : ¬ v = 36) (s_37 : ¬ v = 37) (s_38 : ¬ v = 38) (s_39 : ¬ v = 39) (s_40 : ¬ v = 40) (s_41 : ¬ v = 41) (s_42 : ¬ v = 42) (s_43 : ¬ v = 43) : v.toInt < 0 ∨ 43 < v.toInt := by
  by_cases h1 : v < 0
  · left
    have := Int32.lt_iff_toInt_lt.mp h1
    rw [ti_0] at this
    exact this
  · by_cases h2 : v ≤ 43
    · exfalso
      obtain ⟨j, hj, ej⟩ := nI_of2 (x := v) (M := 43) (n := 43) (by decide) h1 h2
      rcases (show j = 0 ∨ j = 1 ∨ j = 2 ∨ j = 3 ∨ j = 4 ∨ j = 5 ∨ j = 6 ∨ j = 7 ∨ j = 8 ∨ j = 9 ∨ j = 10 ∨ j = 11 ∨ j = 12 ∨ j = 13 ∨ j = 14 ∨ j = 15 ∨ j = 16 ∨ j = 17 ∨ j = 18 ∨ j = 19 ∨ j = 20 ∨ j = 21 ∨ j = 22 ∨ j = 23 ∨ j = 24 ∨ j = 25 ∨ j = 26 ∨ j = 27 ∨ j = 28 ∨ j = 29 ∨ j = 30 ∨ j = 31 ∨ j = 32 ∨ j = 33 ∨ j = 34 ∨ j = 35 ∨ j = 36 ∨ j = 37 ∨ j = 38 ∨ j = 39 ∨ j = 40 ∨ j = 41 ∨ j = 42 ∨ j = 43 by omega) with rfl | rfl | rfl | rfl | rfl | rfl | rfl | rfl | rfl | rfl | rfl | rfl | rfl | rfl | rfl | rfl | rfl | rfl | rfl | rfl | rfl | rfl | rfl | rfl | rfl | rfl | rfl | rfl | rfl | rfl | rfl | rfl | rfl | rfl | rfl | rfl | rfl | rfl | rfl | rfl | rfl | rfl | rfl | rfl
      · exact s_0 ej
      · exact s_1 ej
      · exact s_2 ej
      · exact s_3 ej
      · exact s_4 ej
      · exact s_5 ej
      · exact s_6 ej
      · exact s_7 ej
      · exact s_8 ej
      · exact s_9 ej
      · exact s_10 ej
      · exact s_11 ej
      · exact s_12 ej
      · exact s_13 ej
      · exact s_14 ej
      · exact s_15 ej
      · exact s_16 ej
      · exact s_17 ej
      · exact s_18 ej
      · exact s_19 ej
      · exact s_20 ej
      · exact s_21 ej
      · exact s_22 ej
      · exact s_23 ej
      · exact s_24 ej
      · exact s_25 ej
      · exact s_26 ej
      · exact s_27 ej
      · exact s_28 ej
      · exact s_29 ej
      · exact s_30 ej
      · exact s_31 ej
      · exact s_32 ej
      · exact s_33 ej
      · exact s_34 ej
      · exact s_35 ej
      · exact s_36 ej
      · exact s_37 ej
      · exact s_38 ej
      · exact s_39 ej
      · exact s_40 ej
      · exact s_41 ej
      · exact s_42 ej
      · exact s_43 ej
    · right
      have := Int32.lt_iff_toInt_lt.mp (Int32.not_le.mp h2)
      rw [ti_43] at this
      exact this
set_option maxHeartbeats 4000000 in
set_option maxRecDepth 100000 in
theorem law_sw {p : Program} {l : Launch} {e : Env} {s : State} {m : MethodId} {below : List Frame} {meth : Method} {c : Code} {D : va_G} {b : Nat} {xs : Nat → Int32} {H : Heap} {locs : List Loc} {ls : Array Slot} {q : Nat → Nat} {k : Nat → ClassId} {g : Nat → Nat → Int32} {gl : Nat → Nat → Int64} {q2 : Nat → Nat} {k2 : Nat → ClassId} {g2 : Nat → Nat → Int32} {gl2 : Nat → Nat → Int64} {v : Int32} (hx : p.tables.exec = Jvm.exec) (hb : c.code = code) (hr : meth.sig.returnType = ret) (hml : c.maxLocals = 4) (hown : s.vm.findClass "SignalTableLaw" = some m.cls) (hts : ∀ w ∈ lwg, w.before #[Value.ref b] s = true) (hX : va_X b 6 xs s s.heap) (hbl : b < s.heap.size) (hlocks : meth.locks = false) (hPx : va_P D vwCl (wX q k g gl) H) (hPm : va_P D vwCl (wM q2 k2 g2 gl2) H) (hKx : va_K D vwCl (tyX k) s) (hKm : va_K D vwCl (tyM k2) s) (hD : va_D (fun a : Nat => s.heap.size ≤ a) (wX q k g gl ++ wM q2 k2 g2 gl2)) (hS : va_S (fun a : Nat => s.heap.size ≤ a) s.heap H locs) (hl : lv_has ls 4 [(3, .int 0), (2, .ref (q2 0)), (1, .ref (q 0)), (0, .ref b)]) : W p l e room_1 s m #[Value.ref b] below meth c H locs 158 353581 (lw_Z below #[Value.ref b] s) (F0 m 33 ls [.int v]) := by
  have fin : ∀ (H : Heap) (locs : List Loc) (ls : Array Slot), va_S (fun a : Nat => s.heap.size ≤ a) s.heap H locs → lv_has ls 4 [(3, .int 0), (0, .ref b)] → W p l e room_1 s m #[Value.ref b] below meth c H locs 158 353581 (lw_Z below #[Value.ref b] s) (F0 m 1494 ls []) := fun H locs ls hS hl => law_fin hx hb hr hX hbl hlocks hS hl
  by_cases s_0 : v = 0
  · subst s_0
    refine lv_tableIn (off := 191) (tgt := 224) hx hb dL_law_33 (by decide) (by decide) rfl (by decide) ?_
    exact lc_0 hx hb hml hown hts hX hbl hPx hPm hKx hKm hD hS hl fin
  by_cases s_1 : v = 1
  · subst s_1
    refine lv_tableIn (off := 254) (tgt := 287) hx hb dL_law_33 (by decide) (by decide) rfl (by decide) ?_
    exact lc_1 hx hb hml hown hts hX hbl hPx hPm hKx hKm hD hS hl fin
  by_cases s_2 : v = 2
  · subst s_2
    refine lv_tableIn (off := 277) (tgt := 310) hx hb dL_law_33 (by decide) (by decide) rfl (by decide) ?_
    exact lc_2 hx hb hml hown hts hX hbl hPx hPm hKx hKm hD hS hl fin
  by_cases s_3 : v = 3
  · subst s_3
    refine lv_tableIn (off := 290) (tgt := 323) hx hb dL_law_33 (by decide) (by decide) rfl (by decide) ?_
    exact lc_3 hx hb hml hown hts hX hbl hPx hPm hKx hKm hD hS hl fin
  by_cases s_4 : v = 4
  · subst s_4
    refine lv_tableIn (off := 303) (tgt := 336) hx hb dL_law_33 (by decide) (by decide) rfl (by decide) ?_
    exact lc_4 hx hb hml hown hts hX hbl hPx hPm hKx hKm hD hS hl fin
  by_cases s_5 : v = 5
  · subst s_5
    refine lv_tableIn (off := 326) (tgt := 359) hx hb dL_law_33 (by decide) (by decide) rfl (by decide) ?_
    exact lc_5 hx hb hml hown hts hX hbl hPx hPm hKx hKm hD hS hl fin
  by_cases s_6 : v = 6
  · subst s_6
    refine lv_tableIn (off := 369) (tgt := 402) hx hb dL_law_33 (by decide) (by decide) rfl (by decide) ?_
    exact lc_6 hx hb hml hown hts hX hbl hPx hPm hKx hKm hD hS hl fin
  by_cases s_7 : v = 7
  · subst s_7
    refine lv_tableIn (off := 392) (tgt := 425) hx hb dL_law_33 (by decide) (by decide) rfl (by decide) ?_
    exact lc_7 hx hb hml hown hts hX hbl hPx hPm hKx hKm hD hS hl fin
  by_cases s_8 : v = 8
  · subst s_8
    refine lv_tableIn (off := 441) (tgt := 474) hx hb dL_law_33 (by decide) (by decide) rfl (by decide) ?_
    exact lc_8 hx hb hml hown hts hX hbl hPx hPm hKx hKm hD hS hl fin
  by_cases s_9 : v = 9
  · subst s_9
    refine lv_tableIn (off := 454) (tgt := 487) hx hb dL_law_33 (by decide) (by decide) rfl (by decide) ?_
    exact lc_9 hx hb hml hown hts hX hbl hPx hPm hKx hKm hD hS hl fin
  by_cases s_10 : v = 10
  · subst s_10
    refine lv_tableIn (off := 467) (tgt := 500) hx hb dL_law_33 (by decide) (by decide) rfl (by decide) ?_
    exact lc_10 hx hb hml hown hts hX hbl hPx hPm hKx hKm hD hS hl fin
  by_cases s_11 : v = 11
  · subst s_11
    refine lv_tableIn (off := 490) (tgt := 523) hx hb dL_law_33 (by decide) (by decide) rfl (by decide) ?_
    exact lc_11 hx hb hml hown hts hX hbl hPx hPm hKx hKm hD hS hl fin
  by_cases s_12 : v = 12
  · subst s_12
    refine lv_tableIn (off := 513) (tgt := 546) hx hb dL_law_33 (by decide) (by decide) rfl (by decide) ?_
    exact lc_12 hx hb hml hown hts hX hbl hPx hPm hKx hKm hD hS hl fin
  by_cases s_13 : v = 13
  · subst s_13
    refine lv_tableIn (off := 526) (tgt := 559) hx hb dL_law_33 (by decide) (by decide) rfl (by decide) ?_
    exact lc_13 hx hb hml hown hts hX hbl hPx hPm hKx hKm hD hS hl fin
  by_cases s_14 : v = 14
  · subst s_14
    refine lv_tableIn (off := 559) (tgt := 592) hx hb dL_law_33 (by decide) (by decide) rfl (by decide) ?_
    exact lc_14 hx hb hml hown hts hX hbl hPx hPm hKx hKm hD hS hl fin
  by_cases s_15 : v = 15
  · subst s_15
    refine lv_tableIn (off := 582) (tgt := 615) hx hb dL_law_33 (by decide) (by decide) rfl (by decide) ?_
    exact lc_15 hx hb hml hown hts hX hbl hPx hPm hKx hKm hD hS hl fin
  by_cases s_16 : v = 16
  · subst s_16
    refine lv_tableIn (off := 605) (tgt := 638) hx hb dL_law_33 (by decide) (by decide) rfl (by decide) ?_
    exact lc_16 hx hb hml hown hts hX hbl hPx hPm hKx hKm hD hS hl fin
  by_cases s_17 : v = 17
  · subst s_17
    refine lv_tableIn (off := 648) (tgt := 681) hx hb dL_law_33 (by decide) (by decide) rfl (by decide) ?_
    exact lc_17 hx hb hml hown hts hX hbl hPx hPm hKx hKm hD hS hl fin
  by_cases s_18 : v = 18
  · subst s_18
    refine lv_tableIn (off := 681) (tgt := 714) hx hb dL_law_33 (by decide) (by decide) rfl (by decide) ?_
    exact lc_18 hx hb hml hown hts hX hbl hPx hPm hKx hKm hD hS hl fin
  by_cases s_19 : v = 19
  · subst s_19
    refine lv_tableIn (off := 734) (tgt := 767) hx hb dL_law_33 (by decide) (by decide) rfl (by decide) ?_
    exact lc_19 hx hb hml hown hts hX hbl hPx hPm hKx hKm hD hS hl fin
  by_cases s_20 : v = 20
  · subst s_20
    refine lv_tableIn (off := 767) (tgt := 800) hx hb dL_law_33 (by decide) (by decide) rfl (by decide) ?_
    exact lc_20 hx hb hml hown hts hX hbl hPx hPm hKx hKm hD hS hl fin
  by_cases s_21 : v = 21
  · subst s_21
    refine lv_tableIn (off := 810) (tgt := 843) hx hb dL_law_33 (by decide) (by decide) rfl (by decide) ?_
    exact lc_21 hx hb hml hown hts hX hbl hPx hPm hKx hKm hD hS hl fin
  by_cases s_22 : v = 22
  · subst s_22
    refine lv_tableIn (off := 863) (tgt := 896) hx hb dL_law_33 (by decide) (by decide) rfl (by decide) ?_
    exact lc_22 hx hb hml hown hts hX hbl hPx hPm hKx hKm hD hS hl fin
  by_cases s_23 : v = 23
  · subst s_23
    refine lv_tableIn (off := 886) (tgt := 919) hx hb dL_law_33 (by decide) (by decide) rfl (by decide) ?_
    exact lc_23 hx hb hml hown hts hX hbl hPx hPm hKx hKm hD hS hl fin
  by_cases s_24 : v = 24
  · subst s_24
    refine lv_tableIn (off := 899) (tgt := 932) hx hb dL_law_33 (by decide) (by decide) rfl (by decide) ?_
    exact lc_24 hx hb hml hown hts hX hbl hPx hPm hKx hKm hD hS hl fin
  by_cases s_25 : v = 25
  · subst s_25
    refine lv_tableIn (off := 922) (tgt := 955) hx hb dL_law_33 (by decide) (by decide) rfl (by decide) ?_
    exact lc_25 hx hb hml hown hts hX hbl hPx hPm hKx hKm hD hS hl fin
  by_cases s_26 : v = 26
  · subst s_26
    refine lv_tableIn (off := 956) (tgt := 989) hx hb dL_law_33 (by decide) (by decide) rfl (by decide) ?_
    exact lc_26 hx hb hml hown hts hX hbl hPx hPm hKx hKm hD hS hl fin
  by_cases s_27 : v = 27
  · subst s_27
    refine lv_tableIn (off := 979) (tgt := 1012) hx hb dL_law_33 (by decide) (by decide) rfl (by decide) ?_
    exact lc_27 hx hb hml hown hts hX hbl hPx hPm hKx hKm hD hS hl fin
  by_cases s_28 : v = 28
  · subst s_28
    refine lv_tableIn (off := 1022) (tgt := 1055) hx hb dL_law_33 (by decide) (by decide) rfl (by decide) ?_
    exact lc_28 hx hb hml hown hts hX hbl hPx hPm hKx hKm hD hS hl fin
  by_cases s_29 : v = 29
  · subst s_29
    refine lv_tableIn (off := 1055) (tgt := 1088) hx hb dL_law_33 (by decide) (by decide) rfl (by decide) ?_
    exact lc_29 hx hb hml hown hts hX hbl hPx hPm hKx hKm hD hS hl fin
  by_cases s_30 : v = 30
  · subst s_30
    refine lv_tableIn (off := 1078) (tgt := 1111) hx hb dL_law_33 (by decide) (by decide) rfl (by decide) ?_
    exact lc_30 hx hb hml hown hts hX hbl hPx hPm hKx hKm hD hS hl fin
  by_cases s_31 : v = 31
  · subst s_31
    refine lv_tableIn (off := 1101) (tgt := 1134) hx hb dL_law_33 (by decide) (by decide) rfl (by decide) ?_
    exact lc_31 hx hb hml hown hts hX hbl hPx hPm hKx hKm hD hS hl fin
  by_cases s_32 : v = 32
  · subst s_32
    refine lv_tableIn (off := 1124) (tgt := 1157) hx hb dL_law_33 (by decide) (by decide) rfl (by decide) ?_
    exact lc_32 hx hb hml hown hts hX hbl hPx hPm hKx hKm hD hS hl fin
  by_cases s_33 : v = 33
  · subst s_33
    refine lv_tableIn (off := 1148) (tgt := 1181) hx hb dL_law_33 (by decide) (by decide) rfl (by decide) ?_
    exact lc_33 hx hb hml hown hts hX hbl hPx hPm hKx hKm hD hS hl fin
  by_cases s_34 : v = 34
  · subst s_34
    refine lv_tableIn (off := 1191) (tgt := 1224) hx hb dL_law_33 (by decide) (by decide) rfl (by decide) ?_
    exact lc_34 hx hb hml hown hts hX hbl hPx hPm hKx hKm hD hS hl fin
  by_cases s_35 : v = 35
  · subst s_35
    refine lv_tableIn (off := 1234) (tgt := 1267) hx hb dL_law_33 (by decide) (by decide) rfl (by decide) ?_
    exact lc_35 hx hb hml hown hts hX hbl hPx hPm hKx hKm hD hS hl fin
  by_cases s_36 : v = 36
  · subst s_36
    refine lv_tableIn (off := 1247) (tgt := 1280) hx hb dL_law_33 (by decide) (by decide) rfl (by decide) ?_
    exact lc_36 hx hb hml hown hts hX hbl hPx hPm hKx hKm hD hS hl fin
  by_cases s_37 : v = 37
  · subst s_37
    refine lv_tableIn (off := 1270) (tgt := 1303) hx hb dL_law_33 (by decide) (by decide) rfl (by decide) ?_
    exact lc_37 hx hb hml hown hts hX hbl hPx hPm hKx hKm hD hS hl fin
  by_cases s_38 : v = 38
  · subst s_38
    refine lv_tableIn (off := 1313) (tgt := 1346) hx hb dL_law_33 (by decide) (by decide) rfl (by decide) ?_
    exact lc_38 hx hb hml hown hts hX hbl hPx hPm hKx hKm hD hS hl fin
  by_cases s_39 : v = 39
  · subst s_39
    refine lv_tableIn (off := 1346) (tgt := 1379) hx hb dL_law_33 (by decide) (by decide) rfl (by decide) ?_
    exact lc_39 hx hb hml hown hts hX hbl hPx hPm hKx hKm hD hS hl fin
  by_cases s_40 : v = 40
  · subst s_40
    refine lv_tableIn (off := 1379) (tgt := 1412) hx hb dL_law_33 (by decide) (by decide) rfl (by decide) ?_
    exact lc_40 hx hb hml hown hts hX hbl hPx hPm hKx hKm hD hS hl fin
  by_cases s_41 : v = 41
  · subst s_41
    refine lv_tableIn (off := 1392) (tgt := 1425) hx hb dL_law_33 (by decide) (by decide) rfl (by decide) ?_
    exact lc_41 hx hb hml hown hts hX hbl hPx hPm hKx hKm hD hS hl fin
  by_cases s_42 : v = 42
  · subst s_42
    refine lv_tableIn (off := 1415) (tgt := 1448) hx hb dL_law_33 (by decide) (by decide) rfl (by decide) ?_
    exact lc_42 hx hb hml hown hts hX hbl hPx hPm hKx hKm hD hS hl fin
  by_cases s_43 : v = 43
  · subst s_43
    refine lv_tableIn (off := 1438) (tgt := 1471) hx hb dL_law_33 (by decide) (by decide) rfl (by decide) ?_
    exact lc_43 hx hb hml hown hts hX hbl hPx hPm hKx hKm hD hS hl fin
  refine lv_tableOut (tgt := 1494) hx hb dL_law_33 (law_out s_0 s_1 s_2 s_3 s_4 s_5 s_6 s_7 s_8 s_9 s_10 s_11 s_12 s_13 s_14 s_15 s_16 s_17 s_18 s_19 s_20 s_21 s_22 s_23 s_24 s_25 s_26 s_27 s_28 s_29 s_30 s_31 s_32 s_33 s_34 s_35 s_36 s_37 s_38 s_39 s_40 s_41 s_42 s_43) (by decide) ?_
  exact fin _ _ _ hS (lv_sub hl [0, 3] rfl)
set_option maxHeartbeats 4000000 in
set_option maxRecDepth 100000 in
theorem law_head {p : Program} {l : Launch} {e : Env} {s : State} {m : MethodId} {below : List Frame} {meth : Method} {c : Code} {D : va_G} {b : Nat} {xs : Nat → Int32} {H : Heap} {locs : List Loc} {ls : Array Slot} {q : Nat → Nat} {k : Nat → ClassId} {g : Nat → Nat → Int32} {gl : Nat → Nat → Int64} {q2 : Nat → Nat} {k2 : Nat → ClassId} {g2 : Nat → Nat → Int32} {gl2 : Nat → Nat → Int64} {L : Nat} (hL : L ≤ 6) (hx : p.tables.exec = Jvm.exec) (hb : c.code = code) (hr : meth.sig.returnType = ret) (hml : c.maxLocals = 4) (hown : s.vm.findClass "SignalTableLaw" = some m.cls) (hts : ∀ w ∈ lwg, w.before #[Value.ref b] s = true) (hX : va_X b L xs s s.heap) (hbl : b < s.heap.size) (hlocks : meth.locks = false) (hPx : va_P D vwCl (wX q k g gl) H) (hPm : va_P D vwCl (wM q2 k2 g2 gl2) H) (hKx : va_K D vwCl (tyX k) s) (hKm : va_K D vwCl (tyM k2) s) (hD : va_D (fun a : Nat => s.heap.size ≤ a) (wX q k g gl ++ wM q2 k2 g2 gl2)) (hS : va_S (fun a : Nat => s.heap.size ≤ a) s.heap H locs) (hl : lv_has ls 4 [(3, .int 0), (2, .ref (q2 0)), (1, .ref (q 0)), (0, .ref b)]) : W p l e room_1 s m #[Value.ref b] below meth c H locs 158 353581 (lw_Z below #[Value.ref b] s) (F0 m 18 ls []) := by
  have hbA : ¬ (fun a : Nat => s.heap.size ≤ a) b := Nat.not_le.mpr hbl
  have hneg : ∀ L : Nat, L < 6 → Int32.ofNat L - 6 < 0 := by decide
  refine lv_iload_n hx hb dL_law_18 rfl (lv_at hl 0 rfl) ?_
  refine lv_aload_n hx hb dL_law_19 rfl (lv_at hl 3 rfl) ?_
  refine va_slen hx hb hX hbl hbA hS dL_law_20 ?_
  refine lv_bipush (v := 6) hx hb dL_law_21 (by decide) ?_
  refine lv_isub hx hb dL_law_23 ?_
  rcases Nat.lt_or_ge L 6 with hlt | hge
  · refine lv_icmp_gt (tgt := 1500) hx hb dL_law_24 (by decide) (fun _ => ?_) (fun h => absurd (hneg L hlt) h)
    refine lv_iconst (v := 1) hx hb dL_law_1500 (by decide) ?_
    refine va_forget (fun q hq => hS.2.2 q hq) ?_
    refine W.widen (k := 600000) (n := 7302250) (by decide) (by decide) ?_
    exact lw_ret hx hb hr hlocks dL_law_1501
  · obtain rfl : L = 6 := by omega
    refine lv_icmp_gt (tgt := 1500) hx hb dL_law_24 (by decide) (fun h => absurd h (by decide)) (fun _ => ?_)
    refine lv_aload_n hx hb dL_law_27 rfl (lv_at hl 3 rfl) ?_
    refine lv_iload_n hx hb dL_law_28 rfl (lv_at hl 0 rfl) ?_
    refine va_sld hx hb hX hbl hbA hS (z_in (by decide)) dL_law_29 ?_
    refine lv_bipush (v := 63) hx hb dL_law_30 (by decide) ?_
    refine lv_iand hx hb dL_law_32 ?_
    exact law_sw hx hb hr hml hown hts hX hbl hlocks hPx hPm hKx hKm hD hS hl
