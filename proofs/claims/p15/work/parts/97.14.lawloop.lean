theorem ti_0 : (0 : Int32).toInt = 0 := by decide
theorem ti_1 : (1 : Int32).toInt = 1 := by decide
theorem ti_2 : (2 : Int32).toInt = 2 := by decide
theorem ti_3 : (3 : Int32).toInt = 3 := by decide
theorem ti_4 : (4 : Int32).toInt = 4 := by decide
theorem ti_5 : (5 : Int32).toInt = 5 := by decide
theorem ti_6 : (6 : Int32).toInt = 6 := by decide
theorem ti_7 : (7 : Int32).toInt = 7 := by decide
theorem ti_8 : (8 : Int32).toInt = 8 := by decide
theorem ti_9 : (9 : Int32).toInt = 9 := by decide
theorem ti_10 : (10 : Int32).toInt = 10 := by decide
theorem ti_11 : (11 : Int32).toInt = 11 := by decide
theorem ti_12 : (12 : Int32).toInt = 12 := by decide
theorem ti_13 : (13 : Int32).toInt = 13 := by decide
theorem ti_14 : (14 : Int32).toInt = 14 := by decide
theorem ti_15 : (15 : Int32).toInt = 15 := by decide
theorem ti_16 : (16 : Int32).toInt = 16 := by decide
theorem ti_17 : (17 : Int32).toInt = 17 := by decide
theorem ti_18 : (18 : Int32).toInt = 18 := by decide
theorem ti_19 : (19 : Int32).toInt = 19 := by decide
theorem ti_20 : (20 : Int32).toInt = 20 := by decide
theorem ti_21 : (21 : Int32).toInt = 21 := by decide
theorem ti_22 : (22 : Int32).toInt = 22 := by decide
theorem ti_23 : (23 : Int32).toInt = 23 := by decide
theorem ti_24 : (24 : Int32).toInt = 24 := by decide
theorem ti_25 : (25 : Int32).toInt = 25 := by decide
theorem ti_26 : (26 : Int32).toInt = 26 := by decide
theorem ti_27 : (27 : Int32).toInt = 27 := by decide
theorem ti_28 : (28 : Int32).toInt = 28 := by decide
theorem ti_29 : (29 : Int32).toInt = 29 := by decide
theorem ti_30 : (30 : Int32).toInt = 30 := by decide
theorem ti_31 : (31 : Int32).toInt = 31 := by decide
theorem ti_32 : (32 : Int32).toInt = 32 := by decide
theorem ti_33 : (33 : Int32).toInt = 33 := by decide
theorem ti_34 : (34 : Int32).toInt = 34 := by decide
theorem ti_35 : (35 : Int32).toInt = 35 := by decide
theorem ti_36 : (36 : Int32).toInt = 36 := by decide
theorem ti_37 : (37 : Int32).toInt = 37 := by decide
theorem ti_38 : (38 : Int32).toInt = 38 := by decide
theorem ti_39 : (39 : Int32).toInt = 39 := by decide
theorem ti_40 : (40 : Int32).toInt = 40 := by decide
theorem ti_41 : (41 : Int32).toInt = 41 := by decide
theorem ti_42 : (42 : Int32).toInt = 42 := by decide
theorem ti_43 : (43 : Int32).toInt = 43 := by decide
theorem law_out {v : Int32} (s_0 : ¬ v = 0) (s_1 : ¬ v = 1) (s_2 : ¬ v = 2) (s_3 : ¬ v = 3) (s_4 : ¬ v = 4) (s_5 : ¬ v = 5) (s_6 : ¬ v = 6) (s_7 : ¬ v = 7) (s_8 : ¬ v = 8) (s_9 : ¬ v = 9) (s_10 : ¬ v = 10) (s_11 : ¬ v = 11) (s_12 : ¬ v = 12) (s_13 : ¬ v = 13) (s_14 : ¬ v = 14) (s_15 : ¬ v = 15) (s_16 : ¬ v = 16) (s_17 : ¬ v = 17) (s_18 : ¬ v = 18) (s_19 : ¬ v = 19) (s_20 : ¬ v = 20) (s_21 : ¬ v = 21) (s_22 : ¬ v = 22) (s_23 : ¬ v = 23) (s_24 : ¬ v = 24) (s_25 : ¬ v = 25) (s_26 : ¬ v = 26) (s_27 : ¬ v = 27) (s_28 : ¬ v = 28) (s_29 : ¬ v = 29) (s_30 : ¬ v = 30) (s_31 : ¬ v = 31) (s_32 : ¬ v = 32) (s_33 : ¬ v = 33) (s_34 : ¬ v = 34) (s_35 : ¬ v = 35) (s_36 : ¬ v = 36) (s_37 : ¬ v = 37) (s_38 : ¬ v = 38) (s_39 : ¬ v = 39) (s_40 : ¬ v = 40) (s_41 : ¬ v = 41) (s_42 : ¬ v = 42) (s_43 : ¬ v = 43) : v.toInt < 0 ∨ 43 < v.toInt := by
  by_cases h1 : v < 0
  · left
    have := Int32.lt_iff_toInt_lt.mp h1
    rw [ti_0] at this
    exact this
  · by_cases h2 : v ≤ 43
    · exfalso
      obtain ⟨j, hj, ej⟩ := nI_of2 (x := v) (M := 43) (n := 43) (by decide) h1 h2
      rcases (show j = 0 ∨ j = 1 ∨ j = 2 ∨ j = 3 ∨ j = 4 ∨ j = 5 ∨ j = 6 ∨ j = 7 ∨ j = 8 ∨ j = 9 ∨ j = 10 ∨ j = 11 ∨ j = 12 ∨ j = 13 ∨ j = 14 ∨ j = 15 ∨ j = 16 ∨ j = 17 ∨ j = 18 ∨ j = 19 ∨ j = 20 ∨ j = 21 ∨ j = 22 ∨ j = 23 ∨ j = 24 ∨ j = 25 ∨ j = 26 ∨ j = 27 ∨ j = 28 ∨ j = 29 ∨ j = 30 ∨ j = 31 ∨ j = 32 ∨ j = 33 ∨ j = 34 ∨ j = 35 ∨ j = 36 ∨ j = 37 ∨ j = 38 ∨ j = 39 ∨ j = 40 ∨ j = 41 ∨ j = 42 ∨ j = 43 by omega) with rfl | rfl | rfl | rfl | rfl | rfl | rfl | rfl | rfl | rfl | rfl | rfl | rfl | rfl | rfl | rfl | rfl | rfl | rfl | rfl | rfl | rfl | rfl | rfl | rfl | rfl | rfl | rfl | rfl | rfl | rfl | rfl | rfl | rfl | rfl | rfl | rfl | rfl | rfl | rfl | rfl | rfl | rfl | rfl
      · exact s_0 ej
      · exact s_1 ej
      · exact s_2 ej
      · exact s_3 ej
      · exact s_4 ej
      · exact s_5 ej
      · exact s_6 ej
      · exact s_7 ej
      · exact s_8 ej
      · exact s_9 ej
      · exact s_10 ej
      · exact s_11 ej
      · exact s_12 ej
      · exact s_13 ej
      · exact s_14 ej
      · exact s_15 ej
      · exact s_16 ej
      · exact s_17 ej
      · exact s_18 ej
      · exact s_19 ej
      · exact s_20 ej
      · exact s_21 ej
      · exact s_22 ej
      · exact s_23 ej
      · exact s_24 ej
      · exact s_25 ej
      · exact s_26 ej
      · exact s_27 ej
      · exact s_28 ej
      · exact s_29 ej
      · exact s_30 ej
      · exact s_31 ej
      · exact s_32 ej
      · exact s_33 ej
      · exact s_34 ej
      · exact s_35 ej
      · exact s_36 ej
      · exact s_37 ej
      · exact s_38 ej
      · exact s_39 ej
      · exact s_40 ej
      · exact s_41 ej
      · exact s_42 ej
      · exact s_43 ej
    · right
      have := Int32.lt_iff_toInt_lt.mp (Int32.not_le.mp h2)
      rw [ti_43] at this
      exact this
set_option maxHeartbeats 4000000 in
set_option maxRecDepth 100000 in
theorem law_sw {p : Program} {l : Launch} {e : Env} {s : State} {m : MethodId} {below : List Frame} {meth : Method} {c : Code} {θ : Th} {b L i : Nat} {xs : Nat → Int32} {H : Heap} {locs : List Loc} {ls : Array Slot} {σ : Sg} {t : Int} {Q0 : State → Prop} {v : Int32} (hx : p.tables.exec = Jvm.exec) (hb : c.code = code) (hml : c.maxLocals = 4) (hown : s.vm.findClass "SignalTableLaw" = some m.cls) (hts : ∀ w ∈ lwg, w.before #[Value.ref b] s = true) (hX : va_X b L xs s s.heap) (hbl : b < s.heap.size) (hL : L ≤ 384) (hK : va_K θ.1 vwCl (tysW θ) s) (hi : i + 6 ≤ L) (hW : Hw θ (fun a : Nat => s.heap.size ≤ a) σ H) (hJ : J7 t σ) (hS : va_S (fun a : Nat => s.heap.size ≤ a) s.heap H locs) (hl : lv_has ls 4 [(3, .int (nI i)), (2, .ref (θ.2.1 97)), (1, .ref (θ.2.1 0)), (0, .ref b)])
    (fin : ∀ (t : Int) (σ : Sg) (H : Heap) (locs : List Loc) (ls : Array Slot), J7 t σ → Hw θ (fun a : Nat => s.heap.size ≤ a) σ H → va_S (fun a : Nat => s.heap.size ≤ a) s.heap H locs → lv_has ls 4 [(3, .int (nI i)), (2, .ref (θ.2.1 97)), (1, .ref (θ.2.1 0)), (0, .ref b)] → W p l e room_1 s m #[Value.ref b] below meth c H locs 158 353581 Q0 (F0 m 1492 ls [])) : W p l e room_1 s m #[Value.ref b] below meth c H locs 158 353581 Q0 (F0 m 33 ls [.int v]) := by
  by_cases s_0 : v = 0
  · subst s_0
    refine lv_tableIn (off := 191) (tgt := 224) hx hb dL_law_33 (by decide) (by decide) rfl (by decide) ?_
    exact lc_0 hx hb hml hown hts hX hbl hL hK hi hW hJ hS hl fin
  by_cases s_1 : v = 1
  · subst s_1
    refine lv_tableIn (off := 254) (tgt := 287) hx hb dL_law_33 (by decide) (by decide) rfl (by decide) ?_
    exact lc_1 hx hb hml hown hts hX hbl hL hK hi hW hJ hS hl fin
  by_cases s_2 : v = 2
  · subst s_2
    refine lv_tableIn (off := 277) (tgt := 310) hx hb dL_law_33 (by decide) (by decide) rfl (by decide) ?_
    exact lc_2 hx hb hml hown hts hX hbl hL hK hi hW hJ hS hl fin
  by_cases s_3 : v = 3
  · subst s_3
    refine lv_tableIn (off := 290) (tgt := 323) hx hb dL_law_33 (by decide) (by decide) rfl (by decide) ?_
    exact lc_3 hx hb hml hown hts hX hbl hL hK hi hW hJ hS hl fin
  by_cases s_4 : v = 4
  · subst s_4
    refine lv_tableIn (off := 303) (tgt := 336) hx hb dL_law_33 (by decide) (by decide) rfl (by decide) ?_
    exact lc_4 hx hb hml hown hts hX hbl hL hK hi hW hJ hS hl fin
  by_cases s_5 : v = 5
  · subst s_5
    refine lv_tableIn (off := 326) (tgt := 359) hx hb dL_law_33 (by decide) (by decide) rfl (by decide) ?_
    exact lc_5 hx hb hml hown hts hX hbl hL hK hi hW hJ hS hl fin
  by_cases s_6 : v = 6
  · subst s_6
    refine lv_tableIn (off := 369) (tgt := 402) hx hb dL_law_33 (by decide) (by decide) rfl (by decide) ?_
    exact lc_6 hx hb hml hown hts hX hbl hL hK hi hW hJ hS hl fin
  by_cases s_7 : v = 7
  · subst s_7
    refine lv_tableIn (off := 392) (tgt := 425) hx hb dL_law_33 (by decide) (by decide) rfl (by decide) ?_
    exact lc_7 hx hb hml hown hts hX hbl hL hK hi hW hJ hS hl fin
  by_cases s_8 : v = 8
  · subst s_8
    refine lv_tableIn (off := 441) (tgt := 474) hx hb dL_law_33 (by decide) (by decide) rfl (by decide) ?_
    exact lc_8 hx hb hml hown hts hX hbl hL hK hi hW hJ hS hl fin
  by_cases s_9 : v = 9
  · subst s_9
    refine lv_tableIn (off := 454) (tgt := 487) hx hb dL_law_33 (by decide) (by decide) rfl (by decide) ?_
    exact lc_9 hx hb hml hown hts hX hbl hL hK hi hW hJ hS hl fin
  by_cases s_10 : v = 10
  · subst s_10
    refine lv_tableIn (off := 467) (tgt := 500) hx hb dL_law_33 (by decide) (by decide) rfl (by decide) ?_
    exact lc_10 hx hb hml hown hts hX hbl hL hK hi hW hJ hS hl fin
  by_cases s_11 : v = 11
  · subst s_11
    refine lv_tableIn (off := 490) (tgt := 523) hx hb dL_law_33 (by decide) (by decide) rfl (by decide) ?_
    exact lc_11 hx hb hml hown hts hX hbl hL hK hi hW hJ hS hl fin
  by_cases s_12 : v = 12
  · subst s_12
    refine lv_tableIn (off := 513) (tgt := 546) hx hb dL_law_33 (by decide) (by decide) rfl (by decide) ?_
    exact lc_12 hx hb hml hown hts hX hbl hL hK hi hW hJ hS hl fin
  by_cases s_13 : v = 13
  · subst s_13
    refine lv_tableIn (off := 526) (tgt := 559) hx hb dL_law_33 (by decide) (by decide) rfl (by decide) ?_
    exact lc_13 hx hb hml hown hts hX hbl hL hK hi hW hJ hS hl fin
  by_cases s_14 : v = 14
  · subst s_14
    refine lv_tableIn (off := 559) (tgt := 592) hx hb dL_law_33 (by decide) (by decide) rfl (by decide) ?_
    exact lc_14 hx hb hml hown hts hX hbl hL hK hi hW hJ hS hl fin
  by_cases s_15 : v = 15
  · subst s_15
    refine lv_tableIn (off := 582) (tgt := 615) hx hb dL_law_33 (by decide) (by decide) rfl (by decide) ?_
    exact lc_15 hx hb hml hown hts hX hbl hL hK hi hW hJ hS hl fin
  by_cases s_16 : v = 16
  · subst s_16
    refine lv_tableIn (off := 605) (tgt := 638) hx hb dL_law_33 (by decide) (by decide) rfl (by decide) ?_
    exact lc_16 hx hb hml hown hts hX hbl hL hK hi hW hJ hS hl fin
  by_cases s_17 : v = 17
  · subst s_17
    refine lv_tableIn (off := 648) (tgt := 681) hx hb dL_law_33 (by decide) (by decide) rfl (by decide) ?_
    exact lc_17 hx hb hml hown hts hX hbl hL hK hi hW hJ hS hl fin
  by_cases s_18 : v = 18
  · subst s_18
    refine lv_tableIn (off := 681) (tgt := 714) hx hb dL_law_33 (by decide) (by decide) rfl (by decide) ?_
    exact lc_18 hx hb hml hown hts hX hbl hL hK hi hW hJ hS hl fin
  by_cases s_19 : v = 19
  · subst s_19
    refine lv_tableIn (off := 734) (tgt := 767) hx hb dL_law_33 (by decide) (by decide) rfl (by decide) ?_
    exact lc_19 hx hb hml hown hts hX hbl hL hK hi hW hJ hS hl fin
  by_cases s_20 : v = 20
  · subst s_20
    refine lv_tableIn (off := 767) (tgt := 800) hx hb dL_law_33 (by decide) (by decide) rfl (by decide) ?_
    exact lc_20 hx hb hml hown hts hX hbl hL hK hi hW hJ hS hl fin
  by_cases s_21 : v = 21
  · subst s_21
    refine lv_tableIn (off := 810) (tgt := 843) hx hb dL_law_33 (by decide) (by decide) rfl (by decide) ?_
    exact lc_21 hx hb hml hown hts hX hbl hL hK hi hW hJ hS hl fin
  by_cases s_22 : v = 22
  · subst s_22
    refine lv_tableIn (off := 863) (tgt := 896) hx hb dL_law_33 (by decide) (by decide) rfl (by decide) ?_
    exact lc_22 hx hb hml hown hts hX hbl hL hK hi hW hJ hS hl fin
  by_cases s_23 : v = 23
  · subst s_23
    refine lv_tableIn (off := 886) (tgt := 919) hx hb dL_law_33 (by decide) (by decide) rfl (by decide) ?_
    exact lc_23 hx hb hml hown hts hX hbl hL hK hi hW hJ hS hl fin
  by_cases s_24 : v = 24
  · subst s_24
    refine lv_tableIn (off := 899) (tgt := 932) hx hb dL_law_33 (by decide) (by decide) rfl (by decide) ?_
    exact lc_24 hx hb hml hown hts hX hbl hL hK hi hW hJ hS hl fin
  by_cases s_25 : v = 25
  · subst s_25
    refine lv_tableIn (off := 922) (tgt := 955) hx hb dL_law_33 (by decide) (by decide) rfl (by decide) ?_
    exact lc_25 hx hb hml hown hts hX hbl hL hK hi hW hJ hS hl fin
  by_cases s_26 : v = 26
  · subst s_26
    refine lv_tableIn (off := 955) (tgt := 988) hx hb dL_law_33 (by decide) (by decide) rfl (by decide) ?_
    exact lc_26 hx hb hml hown hts hX hbl hL hK hi hW hJ hS hl fin
  by_cases s_27 : v = 27
  · subst s_27
    refine lv_tableIn (off := 978) (tgt := 1011) hx hb dL_law_33 (by decide) (by decide) rfl (by decide) ?_
    exact lc_27 hx hb hml hown hts hX hbl hL hK hi hW hJ hS hl fin
  by_cases s_28 : v = 28
  · subst s_28
    refine lv_tableIn (off := 1021) (tgt := 1054) hx hb dL_law_33 (by decide) (by decide) rfl (by decide) ?_
    exact lc_28 hx hb hml hown hts hX hbl hL hK hi hW hJ hS hl fin
  by_cases s_29 : v = 29
  · subst s_29
    refine lv_tableIn (off := 1054) (tgt := 1087) hx hb dL_law_33 (by decide) (by decide) rfl (by decide) ?_
    exact lc_29 hx hb hml hown hts hX hbl hL hK hi hW hJ hS hl fin
  by_cases s_30 : v = 30
  · subst s_30
    refine lv_tableIn (off := 1077) (tgt := 1110) hx hb dL_law_33 (by decide) (by decide) rfl (by decide) ?_
    exact lc_30 hx hb hml hown hts hX hbl hL hK hi hW hJ hS hl fin
  by_cases s_31 : v = 31
  · subst s_31
    refine lv_tableIn (off := 1100) (tgt := 1133) hx hb dL_law_33 (by decide) (by decide) rfl (by decide) ?_
    exact lc_31 hx hb hml hown hts hX hbl hL hK hi hW hJ hS hl fin
  by_cases s_32 : v = 32
  · subst s_32
    refine lv_tableIn (off := 1123) (tgt := 1156) hx hb dL_law_33 (by decide) (by decide) rfl (by decide) ?_
    exact lc_32 hx hb hml hown hts hX hbl hL hK hi hW hJ hS hl fin
  by_cases s_33 : v = 33
  · subst s_33
    refine lv_tableIn (off := 1146) (tgt := 1179) hx hb dL_law_33 (by decide) (by decide) rfl (by decide) ?_
    exact lc_33 hx hb hml hown hts hX hbl hL hK hi hW hJ hS hl fin
  by_cases s_34 : v = 34
  · subst s_34
    refine lv_tableIn (off := 1189) (tgt := 1222) hx hb dL_law_33 (by decide) (by decide) rfl (by decide) ?_
    exact lc_34 hx hb hml hown hts hX hbl hL hK hi hW hJ hS hl fin
  by_cases s_35 : v = 35
  · subst s_35
    refine lv_tableIn (off := 1232) (tgt := 1265) hx hb dL_law_33 (by decide) (by decide) rfl (by decide) ?_
    exact lc_35 hx hb hml hown hts hX hbl hL hK hi hW hJ hS hl fin
  by_cases s_36 : v = 36
  · subst s_36
    refine lv_tableIn (off := 1245) (tgt := 1278) hx hb dL_law_33 (by decide) (by decide) rfl (by decide) ?_
    exact lc_36 hx hb hml hown hts hX hbl hL hK hi hW hJ hS hl fin
  by_cases s_37 : v = 37
  · subst s_37
    refine lv_tableIn (off := 1268) (tgt := 1301) hx hb dL_law_33 (by decide) (by decide) rfl (by decide) ?_
    exact lc_37 hx hb hml hown hts hX hbl hL hK hi hW hJ hS hl fin
  by_cases s_38 : v = 38
  · subst s_38
    refine lv_tableIn (off := 1311) (tgt := 1344) hx hb dL_law_33 (by decide) (by decide) rfl (by decide) ?_
    exact lc_38 hx hb hml hown hts hX hbl hL hK hi hW hJ hS hl fin
  by_cases s_39 : v = 39
  · subst s_39
    refine lv_tableIn (off := 1344) (tgt := 1377) hx hb dL_law_33 (by decide) (by decide) rfl (by decide) ?_
    exact lc_39 hx hb hml hown hts hX hbl hL hK hi hW hJ hS hl fin
  by_cases s_40 : v = 40
  · subst s_40
    refine lv_tableIn (off := 1377) (tgt := 1410) hx hb dL_law_33 (by decide) (by decide) rfl (by decide) ?_
    exact lc_40 hx hb hml hown hts hX hbl hL hK hi hW hJ hS hl fin
  by_cases s_41 : v = 41
  · subst s_41
    refine lv_tableIn (off := 1390) (tgt := 1423) hx hb dL_law_33 (by decide) (by decide) rfl (by decide) ?_
    exact lc_41 hx hb hml hown hts hX hbl hL hK hi hW hJ hS hl fin
  by_cases s_42 : v = 42
  · subst s_42
    refine lv_tableIn (off := 1413) (tgt := 1446) hx hb dL_law_33 (by decide) (by decide) rfl (by decide) ?_
    exact lc_42 hx hb hml hown hts hX hbl hL hK hi hW hJ hS hl fin
  by_cases s_43 : v = 43
  · subst s_43
    refine lv_tableIn (off := 1436) (tgt := 1469) hx hb dL_law_33 (by decide) (by decide) rfl (by decide) ?_
    exact lc_43 hx hb hml hown hts hX hbl hL hK hi hW hJ hS hl fin
  refine lv_tableOut (tgt := 1492) hx hb dL_law_33 (law_out s_0 s_1 s_2 s_3 s_4 s_5 s_6 s_7 s_8 s_9 s_10 s_11 s_12 s_13 s_14 s_15 s_16 s_17 s_18 s_19 s_20 s_21 s_22 s_23 s_24 s_25 s_26 s_27 s_28 s_29 s_30 s_31 s_32 s_33 s_34 s_35 s_36 s_37 s_38 s_39 s_40 s_41 s_42 s_43) (by decide) ?_
  exact fin _ _ _ _ _ hJ hW hS hl
set_option maxHeartbeats 4000000 in
set_option maxRecDepth 100000 in
theorem law_loop {p : Program} {l : Launch} {e : Env} {s : State} {m : MethodId} {below : List Frame} {meth : Method} {c : Code} {θ : Th} {b L : Nat} {xs : Nat → Int32} (hx : p.tables.exec = Jvm.exec) (hb : c.code = code) (hml : c.maxLocals = 4) (hown : s.vm.findClass "SignalTableLaw" = some m.cls) (hts : ∀ w ∈ lwg, w.before #[Value.ref b] s = true) (hX : va_X b L xs s s.heap) (hbl : b < s.heap.size) (hL : L ≤ 384) (hK : va_K θ.1 vwCl (tysW θ) s) (hr : meth.sig.returnType = ret) (hlocks : meth.locks = false) : ∀ (n i : Nat) (t : Int) (σ : Sg) (H : Heap) (locs : List Loc) (ls : Array Slot), L - i < n → i ≤ 390 → J7 t σ → Hw θ (fun a : Nat => s.heap.size ≤ a) σ H → va_S (fun a : Nat => s.heap.size ≤ a) s.heap H locs → lv_has ls 4 [(3, .int (nI i)), (2, .ref (θ.2.1 97)), (1, .ref (θ.2.1 0)), (0, .ref b)] → W p l e room_1 s m #[Value.ref b] below meth c H locs 158 353581 (lw_Z below #[Value.ref b] s) (F0 m 18 ls []) := by
  have hbA : ¬ (fun a : Nat => s.heap.size ≤ a) b := Nat.not_le.mpr hbl
  intro n
  induction n with
  | zero => intro i t σ H locs ls h; exact absurd h (Nat.not_lt_zero _)
  | succ n ih =>
    intro i t σ H locs ls hn hi hJ hW hS hl
    have e6 : (6 : Int32).toInt = 6 := by decide
    have eL : (Int32.ofNat L).toInt = (L : Int) := nI_toInt (by omega)
    have ei : (nI i).toInt = (i : Int) := nI_toInt (by omega)
    have es : (Int32.ofNat L - 6).toInt = (L : Int) - 6 := by rw [sub_ex (by rw [eL, e6]; unfold FL; omega) (by rw [eL, e6]; unfold FH; omega), eL, e6]
    refine lv_iload_n hx hb dL_law_18 rfl (lv_at hl 0 rfl) ?_
    refine lv_aload_n hx hb dL_law_19 rfl (lv_at hl 3 rfl) ?_
    refine va_slen hx hb hX hbl hbA hS dL_law_20 ?_
    refine lv_bipush (v := 6) hx hb dL_law_21 (by decide) ?_
    refine lv_isub hx hb dL_law_23 ?_
    refine lv_icmp_gt (tgt := 1498) hx hb dL_law_24 (by decide) (fun _ => ?_) (fun hc => ?_)
    · refine lv_iconst (v := 1) hx hb dL_law_1498 (by decide) ?_
      refine va_forget (fun q hq => hS.2.2 q hq) ?_
      refine W.widen (k := 600000) (n := 7302250) (by decide) (by decide) ?_
      exact lw_ret hx hb hr hlocks dL_law_1499
    rw [Int32.lt_iff_toInt_lt, es, ei] at hc
    refine lv_aload_n hx hb dL_law_27 rfl (lv_at hl 3 rfl) ?_
    refine lv_iload_n hx hb dL_law_28 rfl (lv_at hl 0 rfl) ?_
    refine va_sld hx hb hX hbl hbA hS (vp_in_nI (n := i) (N := L) (by omega) (by omega)) dL_law_29 ?_
    refine lv_bipush (v := 63) hx hb dL_law_30 (by decide) ?_
    refine lv_iand hx hb dL_law_32 ?_
    refine law_sw hx hb hml hown hts hX hbl hL hK (by omega) hW hJ hS hl (fun t2 σ2 H2 locs2 ls2 hJ hW hS hl => ?_)
    refine lv_iinc (v := nI (i + 6)) (lv' := [(3, .int (nI (i + 6))), (2, .ref (θ.2.1 97)), (1, .ref (θ.2.1 0)), (0, .ref b)]) hx hb dL_law_1492 hl (k := 0) rfl (by exact nI_add i 6) (by decide) rfl (fun ls3 hl => ?_)
    refine lv_goto (tgt := 18) hx hb dL_law_1495 (by decide) ?_
    exact ih (i + 6) t2 σ2 H2 locs2 ls3 (by omega) (by omega) hJ hW hS hl
