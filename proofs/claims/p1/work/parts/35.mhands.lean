def sbits (p1 : Int32) : Int32 := (((((((((((((((((0 : Int32) + ((p1 >>> ((0 : Int32) &&& 31)) &&& (1 : Int32))) + ((p1 >>> ((1 : Int32) &&& 31)) &&& (1 : Int32))) + ((p1 >>> ((2 : Int32) &&& 31)) &&& (1 : Int32))) + ((p1 >>> ((3 : Int32) &&& 31)) &&& (1 : Int32))) + ((p1 >>> ((4 : Int32) &&& 31)) &&& (1 : Int32))) + ((p1 >>> ((5 : Int32) &&& 31)) &&& (1 : Int32))) + ((p1 >>> ((6 : Int32) &&& 31)) &&& (1 : Int32))) + ((p1 >>> ((7 : Int32) &&& 31)) &&& (1 : Int32))) + ((p1 >>> ((8 : Int32) &&& 31)) &&& (1 : Int32))) + ((p1 >>> ((9 : Int32) &&& 31)) &&& (1 : Int32))) + ((p1 >>> ((10 : Int32) &&& 31)) &&& (1 : Int32))) + ((p1 >>> ((11 : Int32) &&& 31)) &&& (1 : Int32))) + ((p1 >>> ((12 : Int32) &&& 31)) &&& (1 : Int32))) + ((p1 >>> ((13 : Int32) &&& 31)) &&& (1 : Int32))) + ((p1 >>> ((14 : Int32) &&& 31)) &&& (1 : Int32))) + ((p1 >>> ((15 : Int32) &&& 31)) &&& (1 : Int32)))
def hOKM (a b c : Int32) : Bool := decide (0 ≤ a ∧ a ≤ 65535) && decide (0 ≤ b ∧ b ≤ 65535) && decide (0 ≤ c ∧ c ≤ 65535) && decide ((a &&& b) = 0) && decide ((a &&& c) = 0) && decide ((b &&& c) = 0) && decide (sbits a = 4) && decide (sbits b = 4) && decide (sbits c = 4)
set_option maxHeartbeats 4000000 in
set_option maxRecDepth 100000 in
theorem eM_in {l : Launch} (p1 p2 p3 : Int32) : RdE l yX12_in cX12_in 3 (some .boolean) 0 (fun _ => True) [.int p1, .int p2, .int p3] (.int (if p2 ≤ p1 ∧ p1 ≤ p3 then 1 else 0)) := by
  refine RdE.of (by decide) (Nat.le_of_ble_eq_true rfl) ?_
  intro p e s m below meth c ls hx hb hr hml hown hts hlocks hE hl
  have hown : s.vm.findClass "SignalTableModel" = some m.cls := hown
  have hl : lv_has ls 3 [(0, .int p1), (1, .int p2), (2, .int p3)] := hl
  refine lv_iload_n hx hb dX12_in_0 rfl (lv_at hl 0 rfl) ?_
  refine lv_iload_n hx hb dX12_in_1 rfl (lv_at hl 1 rfl) ?_
  refine lv_icmp_lt (tgt := 14) hx hb dX12_in_2 (by decide) (fun c_1 => ?_) (fun c_1 => ?_)
  · skip
    refine lv_iconst (v := 0) hx hb dX12_in_14 (by decide) ?_
    exact rd_z hx hb hr hlocks rfl (congrArg Value.int (by by_cases s_1 : p2 ≤ p1 ∧ p1 ≤ p3 <;> simp only [s_1, if_true, if_false, and_self, not_false_eq_true, not_true_eq_false] <;> first | rfl | (exfalso; simp only [Int32.lt_iff_toInt_lt, Int32.le_iff_toInt_le, ← Int32.toInt_inj, ti_m2, ti_m1, ti_0, ti_1, ti_2, ti_3, ti_4, ti_5, ti_6, ti_7, ti_8, ti_10, ti_20] at s_1 c_1 <;> omega))) dX12_in_15
  · skip
    refine lv_iload_n hx hb dX12_in_5 rfl (lv_at hl 0 rfl) ?_
    refine lv_iload_n hx hb dX12_in_6 rfl (lv_at hl 2 rfl) ?_
    refine lv_icmp_gt (tgt := 14) hx hb dX12_in_7 (by decide) (fun c_2 => ?_) (fun c_2 => ?_)
    · skip
      refine lv_iconst (v := 0) hx hb dX12_in_14 (by decide) ?_
      exact rd_z hx hb hr hlocks rfl (congrArg Value.int (by by_cases s_1 : p2 ≤ p1 ∧ p1 ≤ p3 <;> simp only [s_1, if_true, if_false, and_self, not_false_eq_true, not_true_eq_false] <;> first | rfl | (exfalso; simp only [Int32.lt_iff_toInt_lt, Int32.le_iff_toInt_le, ← Int32.toInt_inj, ti_m2, ti_m1, ti_0, ti_1, ti_2, ti_3, ti_4, ti_5, ti_6, ti_7, ti_8, ti_10, ti_20] at s_1 c_1 c_2 <;> omega))) dX12_in_15
    · skip
      refine lv_iconst (v := 1) hx hb dX12_in_10 (by decide) ?_
      refine lv_goto (tgt := 15) hx hb dX12_in_11 (by decide) ?_
      exact rd_z hx hb hr hlocks rfl (congrArg Value.int (by by_cases s_1 : p2 ≤ p1 ∧ p1 ≤ p3 <;> simp only [s_1, if_true, if_false, and_self, not_false_eq_true, not_true_eq_false] <;> first | rfl | (exfalso; simp only [Int32.lt_iff_toInt_lt, Int32.le_iff_toInt_le, ← Int32.toInt_inj, ti_m2, ti_m1, ti_0, ti_1, ti_2, ti_3, ti_4, ti_5, ti_6, ti_7, ti_8, ti_10, ti_20] at s_1 c_1 c_2 <;> omega))) dX12_in_15
set_option maxHeartbeats 4000000 in
set_option maxRecDepth 100000 in
theorem eM_bits {l : Launch} (p1 : Int32) : RdE l yX12_bits cX12_bits 3 (some .int) 0 (fun _ => True) [.int p1] (.int (sbits p1)) := by
  refine RdE.of (by decide) (Nat.le_of_ble_eq_true rfl) ?_
  intro p e s m below meth c ls hx hb hr hml hown hts hlocks hE hl
  have hown : s.vm.findClass "SignalTableModel" = some m.cls := hown
  have hl : lv_has ls 3 [(0, .int p1)] := hl
  refine lv_iconst (v := 0) hx hb dX12_bits_0 (by decide) ?_
  refine lv_istore_n (lv' := [(1, .int 0), (0, .int p1)]) hx hb dX12_bits_1 rfl hl (by decide) rfl (fun ls hl => ?_)
  refine lv_iconst (v := 0) hx hb dX12_bits_2 (by decide) ?_
  refine lv_istore_n (lv' := [(2, .int 0), (1, .int 0), (0, .int p1)]) hx hb dX12_bits_3 rfl hl (by decide) rfl (fun ls hl => ?_)
  refine lv_iload_n hx hb dX12_bits_4 rfl (lv_at hl 0 rfl) ?_
  refine lv_bipush (v := 16) hx hb dX12_bits_5 (by decide) ?_
  refine lv_icmp_ge (tgt := 24) hx hb dX12_bits_7 (by decide) (fun h => absurd h (by decide)) (fun _ => ?_)
  refine lv_iload_n hx hb dX12_bits_10 rfl (lv_at hl 1 rfl) ?_
  refine lv_iload_n hx hb dX12_bits_11 rfl (lv_at hl 2 rfl) ?_
  refine lv_iload_n hx hb dX12_bits_12 rfl (lv_at hl 0 rfl) ?_
  refine lv_ishr hx hb dX12_bits_13 ?_
  refine lv_iconst (v := 1) hx hb dX12_bits_14 (by decide) ?_
  refine lv_iand hx hb dX12_bits_15 ?_
  refine lv_iadd hx hb dX12_bits_16 ?_
  refine lv_istore_n (lv' := [(1, .int ((0 : Int32) + ((p1 >>> ((0 : Int32) &&& 31)) &&& (1 : Int32)))), (2, .int 0), (0, .int p1)]) hx hb dX12_bits_17 rfl hl (by decide) rfl (fun ls hl => ?_)
  refine lv_iinc (v := 1) (lv' := [(2, .int 1), (1, .int ((0 : Int32) + ((p1 >>> ((0 : Int32) &&& 31)) &&& (1 : Int32)))), (0, .int p1)]) hx hb dX12_bits_18 hl (k := 1) rfl (by decide) (by decide) rfl (fun ls hl => ?_)
  refine lv_goto (tgt := 4) hx hb dX12_bits_21 (by decide) ?_
  refine lv_iload_n hx hb dX12_bits_4 rfl (lv_at hl 0 rfl) ?_
  refine lv_bipush (v := 16) hx hb dX12_bits_5 (by decide) ?_
  refine lv_icmp_ge (tgt := 24) hx hb dX12_bits_7 (by decide) (fun h => absurd h (by decide)) (fun _ => ?_)
  refine lv_iload_n hx hb dX12_bits_10 rfl (lv_at hl 1 rfl) ?_
  refine lv_iload_n hx hb dX12_bits_11 rfl (lv_at hl 2 rfl) ?_
  refine lv_iload_n hx hb dX12_bits_12 rfl (lv_at hl 0 rfl) ?_
  refine lv_ishr hx hb dX12_bits_13 ?_
  refine lv_iconst (v := 1) hx hb dX12_bits_14 (by decide) ?_
  refine lv_iand hx hb dX12_bits_15 ?_
  refine lv_iadd hx hb dX12_bits_16 ?_
  refine lv_istore_n (lv' := [(1, .int (((0 : Int32) + ((p1 >>> ((0 : Int32) &&& 31)) &&& (1 : Int32))) + ((p1 >>> ((1 : Int32) &&& 31)) &&& (1 : Int32)))), (2, .int 1), (0, .int p1)]) hx hb dX12_bits_17 rfl hl (by decide) rfl (fun ls hl => ?_)
  refine lv_iinc (v := 2) (lv' := [(2, .int 2), (1, .int (((0 : Int32) + ((p1 >>> ((0 : Int32) &&& 31)) &&& (1 : Int32))) + ((p1 >>> ((1 : Int32) &&& 31)) &&& (1 : Int32)))), (0, .int p1)]) hx hb dX12_bits_18 hl (k := 1) rfl (by decide) (by decide) rfl (fun ls hl => ?_)
  refine lv_goto (tgt := 4) hx hb dX12_bits_21 (by decide) ?_
  refine lv_iload_n hx hb dX12_bits_4 rfl (lv_at hl 0 rfl) ?_
  refine lv_bipush (v := 16) hx hb dX12_bits_5 (by decide) ?_
  refine lv_icmp_ge (tgt := 24) hx hb dX12_bits_7 (by decide) (fun h => absurd h (by decide)) (fun _ => ?_)
  refine lv_iload_n hx hb dX12_bits_10 rfl (lv_at hl 1 rfl) ?_
  refine lv_iload_n hx hb dX12_bits_11 rfl (lv_at hl 2 rfl) ?_
  refine lv_iload_n hx hb dX12_bits_12 rfl (lv_at hl 0 rfl) ?_
  refine lv_ishr hx hb dX12_bits_13 ?_
  refine lv_iconst (v := 1) hx hb dX12_bits_14 (by decide) ?_
  refine lv_iand hx hb dX12_bits_15 ?_
  refine lv_iadd hx hb dX12_bits_16 ?_
  refine lv_istore_n (lv' := [(1, .int ((((0 : Int32) + ((p1 >>> ((0 : Int32) &&& 31)) &&& (1 : Int32))) + ((p1 >>> ((1 : Int32) &&& 31)) &&& (1 : Int32))) + ((p1 >>> ((2 : Int32) &&& 31)) &&& (1 : Int32)))), (2, .int 2), (0, .int p1)]) hx hb dX12_bits_17 rfl hl (by decide) rfl (fun ls hl => ?_)
  refine lv_iinc (v := 3) (lv' := [(2, .int 3), (1, .int ((((0 : Int32) + ((p1 >>> ((0 : Int32) &&& 31)) &&& (1 : Int32))) + ((p1 >>> ((1 : Int32) &&& 31)) &&& (1 : Int32))) + ((p1 >>> ((2 : Int32) &&& 31)) &&& (1 : Int32)))), (0, .int p1)]) hx hb dX12_bits_18 hl (k := 1) rfl (by decide) (by decide) rfl (fun ls hl => ?_)
  refine lv_goto (tgt := 4) hx hb dX12_bits_21 (by decide) ?_
  refine lv_iload_n hx hb dX12_bits_4 rfl (lv_at hl 0 rfl) ?_
  refine lv_bipush (v := 16) hx hb dX12_bits_5 (by decide) ?_
  refine lv_icmp_ge (tgt := 24) hx hb dX12_bits_7 (by decide) (fun h => absurd h (by decide)) (fun _ => ?_)
  refine lv_iload_n hx hb dX12_bits_10 rfl (lv_at hl 1 rfl) ?_
  refine lv_iload_n hx hb dX12_bits_11 rfl (lv_at hl 2 rfl) ?_
  refine lv_iload_n hx hb dX12_bits_12 rfl (lv_at hl 0 rfl) ?_
  refine lv_ishr hx hb dX12_bits_13 ?_
  refine lv_iconst (v := 1) hx hb dX12_bits_14 (by decide) ?_
  refine lv_iand hx hb dX12_bits_15 ?_
  refine lv_iadd hx hb dX12_bits_16 ?_
  refine lv_istore_n (lv' := [(1, .int (((((0 : Int32) + ((p1 >>> ((0 : Int32) &&& 31)) &&& (1 : Int32))) + ((p1 >>> ((1 : Int32) &&& 31)) &&& (1 : Int32))) + ((p1 >>> ((2 : Int32) &&& 31)) &&& (1 : Int32))) + ((p1 >>> ((3 : Int32) &&& 31)) &&& (1 : Int32)))), (2, .int 3), (0, .int p1)]) hx hb dX12_bits_17 rfl hl (by decide) rfl (fun ls hl => ?_)
  refine lv_iinc (v := 4) (lv' := [(2, .int 4), (1, .int (((((0 : Int32) + ((p1 >>> ((0 : Int32) &&& 31)) &&& (1 : Int32))) + ((p1 >>> ((1 : Int32) &&& 31)) &&& (1 : Int32))) + ((p1 >>> ((2 : Int32) &&& 31)) &&& (1 : Int32))) + ((p1 >>> ((3 : Int32) &&& 31)) &&& (1 : Int32)))), (0, .int p1)]) hx hb dX12_bits_18 hl (k := 1) rfl (by decide) (by decide) rfl (fun ls hl => ?_)
  refine lv_goto (tgt := 4) hx hb dX12_bits_21 (by decide) ?_
  refine lv_iload_n hx hb dX12_bits_4 rfl (lv_at hl 0 rfl) ?_
  refine lv_bipush (v := 16) hx hb dX12_bits_5 (by decide) ?_
  refine lv_icmp_ge (tgt := 24) hx hb dX12_bits_7 (by decide) (fun h => absurd h (by decide)) (fun _ => ?_)
  refine lv_iload_n hx hb dX12_bits_10 rfl (lv_at hl 1 rfl) ?_
  refine lv_iload_n hx hb dX12_bits_11 rfl (lv_at hl 2 rfl) ?_
  refine lv_iload_n hx hb dX12_bits_12 rfl (lv_at hl 0 rfl) ?_
  refine lv_ishr hx hb dX12_bits_13 ?_
  refine lv_iconst (v := 1) hx hb dX12_bits_14 (by decide) ?_
  refine lv_iand hx hb dX12_bits_15 ?_
  refine lv_iadd hx hb dX12_bits_16 ?_
  refine lv_istore_n (lv' := [(1, .int ((((((0 : Int32) + ((p1 >>> ((0 : Int32) &&& 31)) &&& (1 : Int32))) + ((p1 >>> ((1 : Int32) &&& 31)) &&& (1 : Int32))) + ((p1 >>> ((2 : Int32) &&& 31)) &&& (1 : Int32))) + ((p1 >>> ((3 : Int32) &&& 31)) &&& (1 : Int32))) + ((p1 >>> ((4 : Int32) &&& 31)) &&& (1 : Int32)))), (2, .int 4), (0, .int p1)]) hx hb dX12_bits_17 rfl hl (by decide) rfl (fun ls hl => ?_)
  refine lv_iinc (v := 5) (lv' := [(2, .int 5), (1, .int ((((((0 : Int32) + ((p1 >>> ((0 : Int32) &&& 31)) &&& (1 : Int32))) + ((p1 >>> ((1 : Int32) &&& 31)) &&& (1 : Int32))) + ((p1 >>> ((2 : Int32) &&& 31)) &&& (1 : Int32))) + ((p1 >>> ((3 : Int32) &&& 31)) &&& (1 : Int32))) + ((p1 >>> ((4 : Int32) &&& 31)) &&& (1 : Int32)))), (0, .int p1)]) hx hb dX12_bits_18 hl (k := 1) rfl (by decide) (by decide) rfl (fun ls hl => ?_)
  refine lv_goto (tgt := 4) hx hb dX12_bits_21 (by decide) ?_
  refine lv_iload_n hx hb dX12_bits_4 rfl (lv_at hl 0 rfl) ?_
  refine lv_bipush (v := 16) hx hb dX12_bits_5 (by decide) ?_
  refine lv_icmp_ge (tgt := 24) hx hb dX12_bits_7 (by decide) (fun h => absurd h (by decide)) (fun _ => ?_)
  refine lv_iload_n hx hb dX12_bits_10 rfl (lv_at hl 1 rfl) ?_
  refine lv_iload_n hx hb dX12_bits_11 rfl (lv_at hl 2 rfl) ?_
  refine lv_iload_n hx hb dX12_bits_12 rfl (lv_at hl 0 rfl) ?_
  refine lv_ishr hx hb dX12_bits_13 ?_
  refine lv_iconst (v := 1) hx hb dX12_bits_14 (by decide) ?_
  refine lv_iand hx hb dX12_bits_15 ?_
  refine lv_iadd hx hb dX12_bits_16 ?_
  refine lv_istore_n (lv' := [(1, .int (((((((0 : Int32) + ((p1 >>> ((0 : Int32) &&& 31)) &&& (1 : Int32))) + ((p1 >>> ((1 : Int32) &&& 31)) &&& (1 : Int32))) + ((p1 >>> ((2 : Int32) &&& 31)) &&& (1 : Int32))) + ((p1 >>> ((3 : Int32) &&& 31)) &&& (1 : Int32))) + ((p1 >>> ((4 : Int32) &&& 31)) &&& (1 : Int32))) + ((p1 >>> ((5 : Int32) &&& 31)) &&& (1 : Int32)))), (2, .int 5), (0, .int p1)]) hx hb dX12_bits_17 rfl hl (by decide) rfl (fun ls hl => ?_)
  refine lv_iinc (v := 6) (lv' := [(2, .int 6), (1, .int (((((((0 : Int32) + ((p1 >>> ((0 : Int32) &&& 31)) &&& (1 : Int32))) + ((p1 >>> ((1 : Int32) &&& 31)) &&& (1 : Int32))) + ((p1 >>> ((2 : Int32) &&& 31)) &&& (1 : Int32))) + ((p1 >>> ((3 : Int32) &&& 31)) &&& (1 : Int32))) + ((p1 >>> ((4 : Int32) &&& 31)) &&& (1 : Int32))) + ((p1 >>> ((5 : Int32) &&& 31)) &&& (1 : Int32)))), (0, .int p1)]) hx hb dX12_bits_18 hl (k := 1) rfl (by decide) (by decide) rfl (fun ls hl => ?_)
  refine lv_goto (tgt := 4) hx hb dX12_bits_21 (by decide) ?_
  refine lv_iload_n hx hb dX12_bits_4 rfl (lv_at hl 0 rfl) ?_
  refine lv_bipush (v := 16) hx hb dX12_bits_5 (by decide) ?_
  refine lv_icmp_ge (tgt := 24) hx hb dX12_bits_7 (by decide) (fun h => absurd h (by decide)) (fun _ => ?_)
  refine lv_iload_n hx hb dX12_bits_10 rfl (lv_at hl 1 rfl) ?_
  refine lv_iload_n hx hb dX12_bits_11 rfl (lv_at hl 2 rfl) ?_
  refine lv_iload_n hx hb dX12_bits_12 rfl (lv_at hl 0 rfl) ?_
  refine lv_ishr hx hb dX12_bits_13 ?_
  refine lv_iconst (v := 1) hx hb dX12_bits_14 (by decide) ?_
  refine lv_iand hx hb dX12_bits_15 ?_
  refine lv_iadd hx hb dX12_bits_16 ?_
  refine lv_istore_n (lv' := [(1, .int ((((((((0 : Int32) + ((p1 >>> ((0 : Int32) &&& 31)) &&& (1 : Int32))) + ((p1 >>> ((1 : Int32) &&& 31)) &&& (1 : Int32))) + ((p1 >>> ((2 : Int32) &&& 31)) &&& (1 : Int32))) + ((p1 >>> ((3 : Int32) &&& 31)) &&& (1 : Int32))) + ((p1 >>> ((4 : Int32) &&& 31)) &&& (1 : Int32))) + ((p1 >>> ((5 : Int32) &&& 31)) &&& (1 : Int32))) + ((p1 >>> ((6 : Int32) &&& 31)) &&& (1 : Int32)))), (2, .int 6), (0, .int p1)]) hx hb dX12_bits_17 rfl hl (by decide) rfl (fun ls hl => ?_)
  refine lv_iinc (v := 7) (lv' := [(2, .int 7), (1, .int ((((((((0 : Int32) + ((p1 >>> ((0 : Int32) &&& 31)) &&& (1 : Int32))) + ((p1 >>> ((1 : Int32) &&& 31)) &&& (1 : Int32))) + ((p1 >>> ((2 : Int32) &&& 31)) &&& (1 : Int32))) + ((p1 >>> ((3 : Int32) &&& 31)) &&& (1 : Int32))) + ((p1 >>> ((4 : Int32) &&& 31)) &&& (1 : Int32))) + ((p1 >>> ((5 : Int32) &&& 31)) &&& (1 : Int32))) + ((p1 >>> ((6 : Int32) &&& 31)) &&& (1 : Int32)))), (0, .int p1)]) hx hb dX12_bits_18 hl (k := 1) rfl (by decide) (by decide) rfl (fun ls hl => ?_)
  refine lv_goto (tgt := 4) hx hb dX12_bits_21 (by decide) ?_
  refine lv_iload_n hx hb dX12_bits_4 rfl (lv_at hl 0 rfl) ?_
  refine lv_bipush (v := 16) hx hb dX12_bits_5 (by decide) ?_
  refine lv_icmp_ge (tgt := 24) hx hb dX12_bits_7 (by decide) (fun h => absurd h (by decide)) (fun _ => ?_)
  refine lv_iload_n hx hb dX12_bits_10 rfl (lv_at hl 1 rfl) ?_
  refine lv_iload_n hx hb dX12_bits_11 rfl (lv_at hl 2 rfl) ?_
  refine lv_iload_n hx hb dX12_bits_12 rfl (lv_at hl 0 rfl) ?_
  refine lv_ishr hx hb dX12_bits_13 ?_
  refine lv_iconst (v := 1) hx hb dX12_bits_14 (by decide) ?_
  refine lv_iand hx hb dX12_bits_15 ?_
  refine lv_iadd hx hb dX12_bits_16 ?_
  refine lv_istore_n (lv' := [(1, .int (((((((((0 : Int32) + ((p1 >>> ((0 : Int32) &&& 31)) &&& (1 : Int32))) + ((p1 >>> ((1 : Int32) &&& 31)) &&& (1 : Int32))) + ((p1 >>> ((2 : Int32) &&& 31)) &&& (1 : Int32))) + ((p1 >>> ((3 : Int32) &&& 31)) &&& (1 : Int32))) + ((p1 >>> ((4 : Int32) &&& 31)) &&& (1 : Int32))) + ((p1 >>> ((5 : Int32) &&& 31)) &&& (1 : Int32))) + ((p1 >>> ((6 : Int32) &&& 31)) &&& (1 : Int32))) + ((p1 >>> ((7 : Int32) &&& 31)) &&& (1 : Int32)))), (2, .int 7), (0, .int p1)]) hx hb dX12_bits_17 rfl hl (by decide) rfl (fun ls hl => ?_)
  refine lv_iinc (v := 8) (lv' := [(2, .int 8), (1, .int (((((((((0 : Int32) + ((p1 >>> ((0 : Int32) &&& 31)) &&& (1 : Int32))) + ((p1 >>> ((1 : Int32) &&& 31)) &&& (1 : Int32))) + ((p1 >>> ((2 : Int32) &&& 31)) &&& (1 : Int32))) + ((p1 >>> ((3 : Int32) &&& 31)) &&& (1 : Int32))) + ((p1 >>> ((4 : Int32) &&& 31)) &&& (1 : Int32))) + ((p1 >>> ((5 : Int32) &&& 31)) &&& (1 : Int32))) + ((p1 >>> ((6 : Int32) &&& 31)) &&& (1 : Int32))) + ((p1 >>> ((7 : Int32) &&& 31)) &&& (1 : Int32)))), (0, .int p1)]) hx hb dX12_bits_18 hl (k := 1) rfl (by decide) (by decide) rfl (fun ls hl => ?_)
  refine lv_goto (tgt := 4) hx hb dX12_bits_21 (by decide) ?_
  refine lv_iload_n hx hb dX12_bits_4 rfl (lv_at hl 0 rfl) ?_
  refine lv_bipush (v := 16) hx hb dX12_bits_5 (by decide) ?_
  refine lv_icmp_ge (tgt := 24) hx hb dX12_bits_7 (by decide) (fun h => absurd h (by decide)) (fun _ => ?_)
  refine lv_iload_n hx hb dX12_bits_10 rfl (lv_at hl 1 rfl) ?_
  refine lv_iload_n hx hb dX12_bits_11 rfl (lv_at hl 2 rfl) ?_
  refine lv_iload_n hx hb dX12_bits_12 rfl (lv_at hl 0 rfl) ?_
  refine lv_ishr hx hb dX12_bits_13 ?_
  refine lv_iconst (v := 1) hx hb dX12_bits_14 (by decide) ?_
  refine lv_iand hx hb dX12_bits_15 ?_
  refine lv_iadd hx hb dX12_bits_16 ?_
  refine lv_istore_n (lv' := [(1, .int ((((((((((0 : Int32) + ((p1 >>> ((0 : Int32) &&& 31)) &&& (1 : Int32))) + ((p1 >>> ((1 : Int32) &&& 31)) &&& (1 : Int32))) + ((p1 >>> ((2 : Int32) &&& 31)) &&& (1 : Int32))) + ((p1 >>> ((3 : Int32) &&& 31)) &&& (1 : Int32))) + ((p1 >>> ((4 : Int32) &&& 31)) &&& (1 : Int32))) + ((p1 >>> ((5 : Int32) &&& 31)) &&& (1 : Int32))) + ((p1 >>> ((6 : Int32) &&& 31)) &&& (1 : Int32))) + ((p1 >>> ((7 : Int32) &&& 31)) &&& (1 : Int32))) + ((p1 >>> ((8 : Int32) &&& 31)) &&& (1 : Int32)))), (2, .int 8), (0, .int p1)]) hx hb dX12_bits_17 rfl hl (by decide) rfl (fun ls hl => ?_)
  refine lv_iinc (v := 9) (lv' := [(2, .int 9), (1, .int ((((((((((0 : Int32) + ((p1 >>> ((0 : Int32) &&& 31)) &&& (1 : Int32))) + ((p1 >>> ((1 : Int32) &&& 31)) &&& (1 : Int32))) + ((p1 >>> ((2 : Int32) &&& 31)) &&& (1 : Int32))) + ((p1 >>> ((3 : Int32) &&& 31)) &&& (1 : Int32))) + ((p1 >>> ((4 : Int32) &&& 31)) &&& (1 : Int32))) + ((p1 >>> ((5 : Int32) &&& 31)) &&& (1 : Int32))) + ((p1 >>> ((6 : Int32) &&& 31)) &&& (1 : Int32))) + ((p1 >>> ((7 : Int32) &&& 31)) &&& (1 : Int32))) + ((p1 >>> ((8 : Int32) &&& 31)) &&& (1 : Int32)))), (0, .int p1)]) hx hb dX12_bits_18 hl (k := 1) rfl (by decide) (by decide) rfl (fun ls hl => ?_)
  refine lv_goto (tgt := 4) hx hb dX12_bits_21 (by decide) ?_
  refine lv_iload_n hx hb dX12_bits_4 rfl (lv_at hl 0 rfl) ?_
  refine lv_bipush (v := 16) hx hb dX12_bits_5 (by decide) ?_
  refine lv_icmp_ge (tgt := 24) hx hb dX12_bits_7 (by decide) (fun h => absurd h (by decide)) (fun _ => ?_)
  refine lv_iload_n hx hb dX12_bits_10 rfl (lv_at hl 1 rfl) ?_
  refine lv_iload_n hx hb dX12_bits_11 rfl (lv_at hl 2 rfl) ?_
  refine lv_iload_n hx hb dX12_bits_12 rfl (lv_at hl 0 rfl) ?_
  refine lv_ishr hx hb dX12_bits_13 ?_
  refine lv_iconst (v := 1) hx hb dX12_bits_14 (by decide) ?_
  refine lv_iand hx hb dX12_bits_15 ?_
  refine lv_iadd hx hb dX12_bits_16 ?_
  refine lv_istore_n (lv' := [(1, .int (((((((((((0 : Int32) + ((p1 >>> ((0 : Int32) &&& 31)) &&& (1 : Int32))) + ((p1 >>> ((1 : Int32) &&& 31)) &&& (1 : Int32))) + ((p1 >>> ((2 : Int32) &&& 31)) &&& (1 : Int32))) + ((p1 >>> ((3 : Int32) &&& 31)) &&& (1 : Int32))) + ((p1 >>> ((4 : Int32) &&& 31)) &&& (1 : Int32))) + ((p1 >>> ((5 : Int32) &&& 31)) &&& (1 : Int32))) + ((p1 >>> ((6 : Int32) &&& 31)) &&& (1 : Int32))) + ((p1 >>> ((7 : Int32) &&& 31)) &&& (1 : Int32))) + ((p1 >>> ((8 : Int32) &&& 31)) &&& (1 : Int32))) + ((p1 >>> ((9 : Int32) &&& 31)) &&& (1 : Int32)))), (2, .int 9), (0, .int p1)]) hx hb dX12_bits_17 rfl hl (by decide) rfl (fun ls hl => ?_)
  refine lv_iinc (v := 10) (lv' := [(2, .int 10), (1, .int (((((((((((0 : Int32) + ((p1 >>> ((0 : Int32) &&& 31)) &&& (1 : Int32))) + ((p1 >>> ((1 : Int32) &&& 31)) &&& (1 : Int32))) + ((p1 >>> ((2 : Int32) &&& 31)) &&& (1 : Int32))) + ((p1 >>> ((3 : Int32) &&& 31)) &&& (1 : Int32))) + ((p1 >>> ((4 : Int32) &&& 31)) &&& (1 : Int32))) + ((p1 >>> ((5 : Int32) &&& 31)) &&& (1 : Int32))) + ((p1 >>> ((6 : Int32) &&& 31)) &&& (1 : Int32))) + ((p1 >>> ((7 : Int32) &&& 31)) &&& (1 : Int32))) + ((p1 >>> ((8 : Int32) &&& 31)) &&& (1 : Int32))) + ((p1 >>> ((9 : Int32) &&& 31)) &&& (1 : Int32)))), (0, .int p1)]) hx hb dX12_bits_18 hl (k := 1) rfl (by decide) (by decide) rfl (fun ls hl => ?_)
  refine lv_goto (tgt := 4) hx hb dX12_bits_21 (by decide) ?_
  refine lv_iload_n hx hb dX12_bits_4 rfl (lv_at hl 0 rfl) ?_
  refine lv_bipush (v := 16) hx hb dX12_bits_5 (by decide) ?_
  refine lv_icmp_ge (tgt := 24) hx hb dX12_bits_7 (by decide) (fun h => absurd h (by decide)) (fun _ => ?_)
  refine lv_iload_n hx hb dX12_bits_10 rfl (lv_at hl 1 rfl) ?_
  refine lv_iload_n hx hb dX12_bits_11 rfl (lv_at hl 2 rfl) ?_
  refine lv_iload_n hx hb dX12_bits_12 rfl (lv_at hl 0 rfl) ?_
  refine lv_ishr hx hb dX12_bits_13 ?_
  refine lv_iconst (v := 1) hx hb dX12_bits_14 (by decide) ?_
  refine lv_iand hx hb dX12_bits_15 ?_
  refine lv_iadd hx hb dX12_bits_16 ?_
  refine lv_istore_n (lv' := [(1, .int ((((((((((((0 : Int32) + ((p1 >>> ((0 : Int32) &&& 31)) &&& (1 : Int32))) + ((p1 >>> ((1 : Int32) &&& 31)) &&& (1 : Int32))) + ((p1 >>> ((2 : Int32) &&& 31)) &&& (1 : Int32))) + ((p1 >>> ((3 : Int32) &&& 31)) &&& (1 : Int32))) + ((p1 >>> ((4 : Int32) &&& 31)) &&& (1 : Int32))) + ((p1 >>> ((5 : Int32) &&& 31)) &&& (1 : Int32))) + ((p1 >>> ((6 : Int32) &&& 31)) &&& (1 : Int32))) + ((p1 >>> ((7 : Int32) &&& 31)) &&& (1 : Int32))) + ((p1 >>> ((8 : Int32) &&& 31)) &&& (1 : Int32))) + ((p1 >>> ((9 : Int32) &&& 31)) &&& (1 : Int32))) + ((p1 >>> ((10 : Int32) &&& 31)) &&& (1 : Int32)))), (2, .int 10), (0, .int p1)]) hx hb dX12_bits_17 rfl hl (by decide) rfl (fun ls hl => ?_)
  refine lv_iinc (v := 11) (lv' := [(2, .int 11), (1, .int ((((((((((((0 : Int32) + ((p1 >>> ((0 : Int32) &&& 31)) &&& (1 : Int32))) + ((p1 >>> ((1 : Int32) &&& 31)) &&& (1 : Int32))) + ((p1 >>> ((2 : Int32) &&& 31)) &&& (1 : Int32))) + ((p1 >>> ((3 : Int32) &&& 31)) &&& (1 : Int32))) + ((p1 >>> ((4 : Int32) &&& 31)) &&& (1 : Int32))) + ((p1 >>> ((5 : Int32) &&& 31)) &&& (1 : Int32))) + ((p1 >>> ((6 : Int32) &&& 31)) &&& (1 : Int32))) + ((p1 >>> ((7 : Int32) &&& 31)) &&& (1 : Int32))) + ((p1 >>> ((8 : Int32) &&& 31)) &&& (1 : Int32))) + ((p1 >>> ((9 : Int32) &&& 31)) &&& (1 : Int32))) + ((p1 >>> ((10 : Int32) &&& 31)) &&& (1 : Int32)))), (0, .int p1)]) hx hb dX12_bits_18 hl (k := 1) rfl (by decide) (by decide) rfl (fun ls hl => ?_)
  refine lv_goto (tgt := 4) hx hb dX12_bits_21 (by decide) ?_
  refine lv_iload_n hx hb dX12_bits_4 rfl (lv_at hl 0 rfl) ?_
  refine lv_bipush (v := 16) hx hb dX12_bits_5 (by decide) ?_
  refine lv_icmp_ge (tgt := 24) hx hb dX12_bits_7 (by decide) (fun h => absurd h (by decide)) (fun _ => ?_)
  refine lv_iload_n hx hb dX12_bits_10 rfl (lv_at hl 1 rfl) ?_
  refine lv_iload_n hx hb dX12_bits_11 rfl (lv_at hl 2 rfl) ?_
  refine lv_iload_n hx hb dX12_bits_12 rfl (lv_at hl 0 rfl) ?_
  refine lv_ishr hx hb dX12_bits_13 ?_
  refine lv_iconst (v := 1) hx hb dX12_bits_14 (by decide) ?_
  refine lv_iand hx hb dX12_bits_15 ?_
  refine lv_iadd hx hb dX12_bits_16 ?_
  refine lv_istore_n (lv' := [(1, .int (((((((((((((0 : Int32) + ((p1 >>> ((0 : Int32) &&& 31)) &&& (1 : Int32))) + ((p1 >>> ((1 : Int32) &&& 31)) &&& (1 : Int32))) + ((p1 >>> ((2 : Int32) &&& 31)) &&& (1 : Int32))) + ((p1 >>> ((3 : Int32) &&& 31)) &&& (1 : Int32))) + ((p1 >>> ((4 : Int32) &&& 31)) &&& (1 : Int32))) + ((p1 >>> ((5 : Int32) &&& 31)) &&& (1 : Int32))) + ((p1 >>> ((6 : Int32) &&& 31)) &&& (1 : Int32))) + ((p1 >>> ((7 : Int32) &&& 31)) &&& (1 : Int32))) + ((p1 >>> ((8 : Int32) &&& 31)) &&& (1 : Int32))) + ((p1 >>> ((9 : Int32) &&& 31)) &&& (1 : Int32))) + ((p1 >>> ((10 : Int32) &&& 31)) &&& (1 : Int32))) + ((p1 >>> ((11 : Int32) &&& 31)) &&& (1 : Int32)))), (2, .int 11), (0, .int p1)]) hx hb dX12_bits_17 rfl hl (by decide) rfl (fun ls hl => ?_)
  refine lv_iinc (v := 12) (lv' := [(2, .int 12), (1, .int (((((((((((((0 : Int32) + ((p1 >>> ((0 : Int32) &&& 31)) &&& (1 : Int32))) + ((p1 >>> ((1 : Int32) &&& 31)) &&& (1 : Int32))) + ((p1 >>> ((2 : Int32) &&& 31)) &&& (1 : Int32))) + ((p1 >>> ((3 : Int32) &&& 31)) &&& (1 : Int32))) + ((p1 >>> ((4 : Int32) &&& 31)) &&& (1 : Int32))) + ((p1 >>> ((5 : Int32) &&& 31)) &&& (1 : Int32))) + ((p1 >>> ((6 : Int32) &&& 31)) &&& (1 : Int32))) + ((p1 >>> ((7 : Int32) &&& 31)) &&& (1 : Int32))) + ((p1 >>> ((8 : Int32) &&& 31)) &&& (1 : Int32))) + ((p1 >>> ((9 : Int32) &&& 31)) &&& (1 : Int32))) + ((p1 >>> ((10 : Int32) &&& 31)) &&& (1 : Int32))) + ((p1 >>> ((11 : Int32) &&& 31)) &&& (1 : Int32)))), (0, .int p1)]) hx hb dX12_bits_18 hl (k := 1) rfl (by decide) (by decide) rfl (fun ls hl => ?_)
  refine lv_goto (tgt := 4) hx hb dX12_bits_21 (by decide) ?_
  refine lv_iload_n hx hb dX12_bits_4 rfl (lv_at hl 0 rfl) ?_
  refine lv_bipush (v := 16) hx hb dX12_bits_5 (by decide) ?_
  refine lv_icmp_ge (tgt := 24) hx hb dX12_bits_7 (by decide) (fun h => absurd h (by decide)) (fun _ => ?_)
  refine lv_iload_n hx hb dX12_bits_10 rfl (lv_at hl 1 rfl) ?_
  refine lv_iload_n hx hb dX12_bits_11 rfl (lv_at hl 2 rfl) ?_
  refine lv_iload_n hx hb dX12_bits_12 rfl (lv_at hl 0 rfl) ?_
  refine lv_ishr hx hb dX12_bits_13 ?_
  refine lv_iconst (v := 1) hx hb dX12_bits_14 (by decide) ?_
  refine lv_iand hx hb dX12_bits_15 ?_
  refine lv_iadd hx hb dX12_bits_16 ?_
  refine lv_istore_n (lv' := [(1, .int ((((((((((((((0 : Int32) + ((p1 >>> ((0 : Int32) &&& 31)) &&& (1 : Int32))) + ((p1 >>> ((1 : Int32) &&& 31)) &&& (1 : Int32))) + ((p1 >>> ((2 : Int32) &&& 31)) &&& (1 : Int32))) + ((p1 >>> ((3 : Int32) &&& 31)) &&& (1 : Int32))) + ((p1 >>> ((4 : Int32) &&& 31)) &&& (1 : Int32))) + ((p1 >>> ((5 : Int32) &&& 31)) &&& (1 : Int32))) + ((p1 >>> ((6 : Int32) &&& 31)) &&& (1 : Int32))) + ((p1 >>> ((7 : Int32) &&& 31)) &&& (1 : Int32))) + ((p1 >>> ((8 : Int32) &&& 31)) &&& (1 : Int32))) + ((p1 >>> ((9 : Int32) &&& 31)) &&& (1 : Int32))) + ((p1 >>> ((10 : Int32) &&& 31)) &&& (1 : Int32))) + ((p1 >>> ((11 : Int32) &&& 31)) &&& (1 : Int32))) + ((p1 >>> ((12 : Int32) &&& 31)) &&& (1 : Int32)))), (2, .int 12), (0, .int p1)]) hx hb dX12_bits_17 rfl hl (by decide) rfl (fun ls hl => ?_)
  refine lv_iinc (v := 13) (lv' := [(2, .int 13), (1, .int ((((((((((((((0 : Int32) + ((p1 >>> ((0 : Int32) &&& 31)) &&& (1 : Int32))) + ((p1 >>> ((1 : Int32) &&& 31)) &&& (1 : Int32))) + ((p1 >>> ((2 : Int32) &&& 31)) &&& (1 : Int32))) + ((p1 >>> ((3 : Int32) &&& 31)) &&& (1 : Int32))) + ((p1 >>> ((4 : Int32) &&& 31)) &&& (1 : Int32))) + ((p1 >>> ((5 : Int32) &&& 31)) &&& (1 : Int32))) + ((p1 >>> ((6 : Int32) &&& 31)) &&& (1 : Int32))) + ((p1 >>> ((7 : Int32) &&& 31)) &&& (1 : Int32))) + ((p1 >>> ((8 : Int32) &&& 31)) &&& (1 : Int32))) + ((p1 >>> ((9 : Int32) &&& 31)) &&& (1 : Int32))) + ((p1 >>> ((10 : Int32) &&& 31)) &&& (1 : Int32))) + ((p1 >>> ((11 : Int32) &&& 31)) &&& (1 : Int32))) + ((p1 >>> ((12 : Int32) &&& 31)) &&& (1 : Int32)))), (0, .int p1)]) hx hb dX12_bits_18 hl (k := 1) rfl (by decide) (by decide) rfl (fun ls hl => ?_)
  refine lv_goto (tgt := 4) hx hb dX12_bits_21 (by decide) ?_
  refine lv_iload_n hx hb dX12_bits_4 rfl (lv_at hl 0 rfl) ?_
  refine lv_bipush (v := 16) hx hb dX12_bits_5 (by decide) ?_
  refine lv_icmp_ge (tgt := 24) hx hb dX12_bits_7 (by decide) (fun h => absurd h (by decide)) (fun _ => ?_)
  refine lv_iload_n hx hb dX12_bits_10 rfl (lv_at hl 1 rfl) ?_
  refine lv_iload_n hx hb dX12_bits_11 rfl (lv_at hl 2 rfl) ?_
  refine lv_iload_n hx hb dX12_bits_12 rfl (lv_at hl 0 rfl) ?_
  refine lv_ishr hx hb dX12_bits_13 ?_
  refine lv_iconst (v := 1) hx hb dX12_bits_14 (by decide) ?_
  refine lv_iand hx hb dX12_bits_15 ?_
  refine lv_iadd hx hb dX12_bits_16 ?_
  refine lv_istore_n (lv' := [(1, .int (((((((((((((((0 : Int32) + ((p1 >>> ((0 : Int32) &&& 31)) &&& (1 : Int32))) + ((p1 >>> ((1 : Int32) &&& 31)) &&& (1 : Int32))) + ((p1 >>> ((2 : Int32) &&& 31)) &&& (1 : Int32))) + ((p1 >>> ((3 : Int32) &&& 31)) &&& (1 : Int32))) + ((p1 >>> ((4 : Int32) &&& 31)) &&& (1 : Int32))) + ((p1 >>> ((5 : Int32) &&& 31)) &&& (1 : Int32))) + ((p1 >>> ((6 : Int32) &&& 31)) &&& (1 : Int32))) + ((p1 >>> ((7 : Int32) &&& 31)) &&& (1 : Int32))) + ((p1 >>> ((8 : Int32) &&& 31)) &&& (1 : Int32))) + ((p1 >>> ((9 : Int32) &&& 31)) &&& (1 : Int32))) + ((p1 >>> ((10 : Int32) &&& 31)) &&& (1 : Int32))) + ((p1 >>> ((11 : Int32) &&& 31)) &&& (1 : Int32))) + ((p1 >>> ((12 : Int32) &&& 31)) &&& (1 : Int32))) + ((p1 >>> ((13 : Int32) &&& 31)) &&& (1 : Int32)))), (2, .int 13), (0, .int p1)]) hx hb dX12_bits_17 rfl hl (by decide) rfl (fun ls hl => ?_)
  refine lv_iinc (v := 14) (lv' := [(2, .int 14), (1, .int (((((((((((((((0 : Int32) + ((p1 >>> ((0 : Int32) &&& 31)) &&& (1 : Int32))) + ((p1 >>> ((1 : Int32) &&& 31)) &&& (1 : Int32))) + ((p1 >>> ((2 : Int32) &&& 31)) &&& (1 : Int32))) + ((p1 >>> ((3 : Int32) &&& 31)) &&& (1 : Int32))) + ((p1 >>> ((4 : Int32) &&& 31)) &&& (1 : Int32))) + ((p1 >>> ((5 : Int32) &&& 31)) &&& (1 : Int32))) + ((p1 >>> ((6 : Int32) &&& 31)) &&& (1 : Int32))) + ((p1 >>> ((7 : Int32) &&& 31)) &&& (1 : Int32))) + ((p1 >>> ((8 : Int32) &&& 31)) &&& (1 : Int32))) + ((p1 >>> ((9 : Int32) &&& 31)) &&& (1 : Int32))) + ((p1 >>> ((10 : Int32) &&& 31)) &&& (1 : Int32))) + ((p1 >>> ((11 : Int32) &&& 31)) &&& (1 : Int32))) + ((p1 >>> ((12 : Int32) &&& 31)) &&& (1 : Int32))) + ((p1 >>> ((13 : Int32) &&& 31)) &&& (1 : Int32)))), (0, .int p1)]) hx hb dX12_bits_18 hl (k := 1) rfl (by decide) (by decide) rfl (fun ls hl => ?_)
  refine lv_goto (tgt := 4) hx hb dX12_bits_21 (by decide) ?_
  refine lv_iload_n hx hb dX12_bits_4 rfl (lv_at hl 0 rfl) ?_
  refine lv_bipush (v := 16) hx hb dX12_bits_5 (by decide) ?_
  refine lv_icmp_ge (tgt := 24) hx hb dX12_bits_7 (by decide) (fun h => absurd h (by decide)) (fun _ => ?_)
  refine lv_iload_n hx hb dX12_bits_10 rfl (lv_at hl 1 rfl) ?_
  refine lv_iload_n hx hb dX12_bits_11 rfl (lv_at hl 2 rfl) ?_
  refine lv_iload_n hx hb dX12_bits_12 rfl (lv_at hl 0 rfl) ?_
  refine lv_ishr hx hb dX12_bits_13 ?_
  refine lv_iconst (v := 1) hx hb dX12_bits_14 (by decide) ?_
  refine lv_iand hx hb dX12_bits_15 ?_
  refine lv_iadd hx hb dX12_bits_16 ?_
  refine lv_istore_n (lv' := [(1, .int ((((((((((((((((0 : Int32) + ((p1 >>> ((0 : Int32) &&& 31)) &&& (1 : Int32))) + ((p1 >>> ((1 : Int32) &&& 31)) &&& (1 : Int32))) + ((p1 >>> ((2 : Int32) &&& 31)) &&& (1 : Int32))) + ((p1 >>> ((3 : Int32) &&& 31)) &&& (1 : Int32))) + ((p1 >>> ((4 : Int32) &&& 31)) &&& (1 : Int32))) + ((p1 >>> ((5 : Int32) &&& 31)) &&& (1 : Int32))) + ((p1 >>> ((6 : Int32) &&& 31)) &&& (1 : Int32))) + ((p1 >>> ((7 : Int32) &&& 31)) &&& (1 : Int32))) + ((p1 >>> ((8 : Int32) &&& 31)) &&& (1 : Int32))) + ((p1 >>> ((9 : Int32) &&& 31)) &&& (1 : Int32))) + ((p1 >>> ((10 : Int32) &&& 31)) &&& (1 : Int32))) + ((p1 >>> ((11 : Int32) &&& 31)) &&& (1 : Int32))) + ((p1 >>> ((12 : Int32) &&& 31)) &&& (1 : Int32))) + ((p1 >>> ((13 : Int32) &&& 31)) &&& (1 : Int32))) + ((p1 >>> ((14 : Int32) &&& 31)) &&& (1 : Int32)))), (2, .int 14), (0, .int p1)]) hx hb dX12_bits_17 rfl hl (by decide) rfl (fun ls hl => ?_)
  refine lv_iinc (v := 15) (lv' := [(2, .int 15), (1, .int ((((((((((((((((0 : Int32) + ((p1 >>> ((0 : Int32) &&& 31)) &&& (1 : Int32))) + ((p1 >>> ((1 : Int32) &&& 31)) &&& (1 : Int32))) + ((p1 >>> ((2 : Int32) &&& 31)) &&& (1 : Int32))) + ((p1 >>> ((3 : Int32) &&& 31)) &&& (1 : Int32))) + ((p1 >>> ((4 : Int32) &&& 31)) &&& (1 : Int32))) + ((p1 >>> ((5 : Int32) &&& 31)) &&& (1 : Int32))) + ((p1 >>> ((6 : Int32) &&& 31)) &&& (1 : Int32))) + ((p1 >>> ((7 : Int32) &&& 31)) &&& (1 : Int32))) + ((p1 >>> ((8 : Int32) &&& 31)) &&& (1 : Int32))) + ((p1 >>> ((9 : Int32) &&& 31)) &&& (1 : Int32))) + ((p1 >>> ((10 : Int32) &&& 31)) &&& (1 : Int32))) + ((p1 >>> ((11 : Int32) &&& 31)) &&& (1 : Int32))) + ((p1 >>> ((12 : Int32) &&& 31)) &&& (1 : Int32))) + ((p1 >>> ((13 : Int32) &&& 31)) &&& (1 : Int32))) + ((p1 >>> ((14 : Int32) &&& 31)) &&& (1 : Int32)))), (0, .int p1)]) hx hb dX12_bits_18 hl (k := 1) rfl (by decide) (by decide) rfl (fun ls hl => ?_)
  refine lv_goto (tgt := 4) hx hb dX12_bits_21 (by decide) ?_
  refine lv_iload_n hx hb dX12_bits_4 rfl (lv_at hl 0 rfl) ?_
  refine lv_bipush (v := 16) hx hb dX12_bits_5 (by decide) ?_
  refine lv_icmp_ge (tgt := 24) hx hb dX12_bits_7 (by decide) (fun h => absurd h (by decide)) (fun _ => ?_)
  refine lv_iload_n hx hb dX12_bits_10 rfl (lv_at hl 1 rfl) ?_
  refine lv_iload_n hx hb dX12_bits_11 rfl (lv_at hl 2 rfl) ?_
  refine lv_iload_n hx hb dX12_bits_12 rfl (lv_at hl 0 rfl) ?_
  refine lv_ishr hx hb dX12_bits_13 ?_
  refine lv_iconst (v := 1) hx hb dX12_bits_14 (by decide) ?_
  refine lv_iand hx hb dX12_bits_15 ?_
  refine lv_iadd hx hb dX12_bits_16 ?_
  refine lv_istore_n (lv' := [(1, .int (((((((((((((((((0 : Int32) + ((p1 >>> ((0 : Int32) &&& 31)) &&& (1 : Int32))) + ((p1 >>> ((1 : Int32) &&& 31)) &&& (1 : Int32))) + ((p1 >>> ((2 : Int32) &&& 31)) &&& (1 : Int32))) + ((p1 >>> ((3 : Int32) &&& 31)) &&& (1 : Int32))) + ((p1 >>> ((4 : Int32) &&& 31)) &&& (1 : Int32))) + ((p1 >>> ((5 : Int32) &&& 31)) &&& (1 : Int32))) + ((p1 >>> ((6 : Int32) &&& 31)) &&& (1 : Int32))) + ((p1 >>> ((7 : Int32) &&& 31)) &&& (1 : Int32))) + ((p1 >>> ((8 : Int32) &&& 31)) &&& (1 : Int32))) + ((p1 >>> ((9 : Int32) &&& 31)) &&& (1 : Int32))) + ((p1 >>> ((10 : Int32) &&& 31)) &&& (1 : Int32))) + ((p1 >>> ((11 : Int32) &&& 31)) &&& (1 : Int32))) + ((p1 >>> ((12 : Int32) &&& 31)) &&& (1 : Int32))) + ((p1 >>> ((13 : Int32) &&& 31)) &&& (1 : Int32))) + ((p1 >>> ((14 : Int32) &&& 31)) &&& (1 : Int32))) + ((p1 >>> ((15 : Int32) &&& 31)) &&& (1 : Int32)))), (2, .int 15), (0, .int p1)]) hx hb dX12_bits_17 rfl hl (by decide) rfl (fun ls hl => ?_)
  refine lv_iinc (v := 16) (lv' := [(2, .int 16), (1, .int (((((((((((((((((0 : Int32) + ((p1 >>> ((0 : Int32) &&& 31)) &&& (1 : Int32))) + ((p1 >>> ((1 : Int32) &&& 31)) &&& (1 : Int32))) + ((p1 >>> ((2 : Int32) &&& 31)) &&& (1 : Int32))) + ((p1 >>> ((3 : Int32) &&& 31)) &&& (1 : Int32))) + ((p1 >>> ((4 : Int32) &&& 31)) &&& (1 : Int32))) + ((p1 >>> ((5 : Int32) &&& 31)) &&& (1 : Int32))) + ((p1 >>> ((6 : Int32) &&& 31)) &&& (1 : Int32))) + ((p1 >>> ((7 : Int32) &&& 31)) &&& (1 : Int32))) + ((p1 >>> ((8 : Int32) &&& 31)) &&& (1 : Int32))) + ((p1 >>> ((9 : Int32) &&& 31)) &&& (1 : Int32))) + ((p1 >>> ((10 : Int32) &&& 31)) &&& (1 : Int32))) + ((p1 >>> ((11 : Int32) &&& 31)) &&& (1 : Int32))) + ((p1 >>> ((12 : Int32) &&& 31)) &&& (1 : Int32))) + ((p1 >>> ((13 : Int32) &&& 31)) &&& (1 : Int32))) + ((p1 >>> ((14 : Int32) &&& 31)) &&& (1 : Int32))) + ((p1 >>> ((15 : Int32) &&& 31)) &&& (1 : Int32)))), (0, .int p1)]) hx hb dX12_bits_18 hl (k := 1) rfl (by decide) (by decide) rfl (fun ls hl => ?_)
  refine lv_goto (tgt := 4) hx hb dX12_bits_21 (by decide) ?_
  refine lv_iload_n hx hb dX12_bits_4 rfl (lv_at hl 0 rfl) ?_
  refine lv_bipush (v := 16) hx hb dX12_bits_5 (by decide) ?_
  refine lv_icmp_ge (tgt := 24) hx hb dX12_bits_7 (by decide) (fun _ => ?_) (fun h => absurd (by decide) h)
  refine lv_iload_n hx hb dX12_bits_24 rfl (lv_at hl 1 rfl) ?_
  exact rd_i hx hb hr hlocks (rfl) dX12_bits_25
set_option maxHeartbeats 4000000 in
set_option maxRecDepth 100000 in
theorem wX12_hands {l : Launch} {D : va_G} {sz : Nat} (q : Nat → Nat) (k : Nat → ClassId) (g : Nat → Nat → Int32) (gl : Nat → Nat → Int64) (p1 : Int32) (p2 : Int32) (p3 : Int32) : Wi l yX12_hands cX12_hands 5 (some .boolean) 2 0 0 D [((q 0), .inr (12, mObj q)), ((q 1), .inl ((k 1), 2000, .inl (g 1))), ((q 2), .inl ((k 2), 403, .inl (g 2))), ((q 3), .inl ((k 3), 403, .inl (g 3))), ((q 4), .inl ((k 4), 403, .inl (g 4))), ((q 5), .inl ((k 5), 403, .inr (.inl (gl 5)))), ((q 6), .inl ((k 6), 2, .inl (upd (fun _ => 0) 0 4))), ((q 7), .inl ((k 7), 2, .inl (upd (fun _ => 0) 0 4))), ((q 8), .inl ((k 8), 2, .inl (upd (fun _ => 0) 0 (-1)))), ((q 9), .inl ((k 9), 2, .inl (fun _ => 0))), ((q 10), .inl ((k 10), 4, .inl (g 10))), ((q 11), .inl ((k 11), 16, .inl (g 11))), ((q 12), .inl ((k 12), 2, .inl (fun _ => 0))), ((q 13), .inl ((k 13), 14, .inl (g 13)))] [((k 1), .byte), ((k 2), .int), ((k 3), .int), ((k 4), .int), ((k 5), .long), ((k 6), .int), ((k 7), .int), ((k 8), .int), ((k 9), .int), ((k 10), .int), ((k 11), .int), ((k 12), .boolean), ((k 13), .int)] [.ref (q 0), .int p1, .int p2, .int p3] sz (fun _ => True) (if hOKM p1 p2 p3 = true then 1 else 0) (fun qz kz gz lz => []) (fun kz => []) := by
  refine Wi.of (by decide) (Nat.le_of_ble_eq_true rfl) ?_
  intro p e s m below meth c ls A hx hb hr hml hown hts hlocks hin hP hK hD hA hS hE hAe hl
  have hown : s.vm.findClass "SignalTableModel" = some m.cls := hown
  have hin : meth.name = "hands" := hin
  skip
  have hl : lv_has ls 5 [(0, .ref (q 0)), (1, .int p1), (2, .int p2), (3, .int p3)] := hl
  have hP : va_P D vwCl [((q 0), .inr (12, mObj q)), ((q 6), .inl ((k 6), 2, .inl (upd (fun _ => 0) 0 4))), ((q 7), .inl ((k 7), 2, .inl (upd (fun _ => 0) 0 4))), ((q 10), .inl ((k 10), 4, .inl (g 10)))] s.heap := hP.sub [0, 6, 7, 10] rfl
  have hD : va_D A [((q 0), .inr (12, mObj q)), ((q 6), .inl ((k 6), 2, .inl (upd (fun _ => 0) 0 4))), ((q 7), .inl ((k 7), 2, .inl (upd (fun _ => 0) 0 4))), ((q 10), .inl ((k 10), 4, .inl (g 10)))] := hD.sub [0, 6, 7, 10] (by decide) rfl
  have hK : va_K D vwCl [((k 6), .int), ((k 7), .int), ((k 10), .int)] s := hK.sub [5, 6, 9] rfl
  refine lv_iconst (v := 1) hx hb dX12_hands_0 (by decide) ?_
  refine lv_aload_n hx hb dX12_hands_1 rfl (lv_at hl 0 rfl) ?_
  refine rd_V (As := []) (rest := [.int 1]) (d := 0) caV_SignalTableModel_351 hx hb hml hown hts (hP.sub [0, 1, 2] rfl) (hK.sub [0, 1] rfl) (wX12_cards q k g gl) (ci := 12) (q0 := 0) rfl rfl (by decide) rfl hl.1 (Nat.le_of_ble_eq_true rfl) (by decide) dX12_hands_2 rfl ?_
  refine lv_ishl hx hb dX12_hands_5 ?_
  refine z_i (v := 65536) (by decide) ?_
  refine lv_iconst (v := 1) hx hb dX12_hands_6 (by decide) ?_
  refine lv_isub hx hb dX12_hands_7 ?_
  refine z_i (v := 65535) (by decide) ?_
  refine lv_istore (lv' := [(4, .int 65535), (0, .ref (q 0)), (1, .int p1), (2, .int p2), (3, .int p3)]) hx hb dX12_hands_8 hl (by decide) rfl (fun ls hl => ?_)
  refine lv_iload_n hx hb dX12_hands_10 rfl (lv_at hl 2 rfl) ?_
  refine lv_iconst (v := 0) hx hb dX12_hands_11 (by decide) ?_
  refine W.eq (g2 := F0 m 12 ls [.int 0, .int p1]) rfl ?_
  refine lv_iload hx hb dX12_hands_12 (lv_at hl 0 rfl) ?_
  refine re_S (As := [.int p1, .int 0, .int 65535]) (rest := []) caS_SignalTableModel_310 hx hb hml hown hts (eM_in p1 0 65535) bl_T (fun _ _ _ => trivial) (by decide) rfl hl.1 (Nat.le_of_ble_eq_true rfl) (by decide) dX12_hands_14 rfl ?_
  refine lv_if_eq (tgt := 58) hx hb dX12_hands_17 (by decide) (fun c_1 => ?_) (fun c_1 => ?_)
  · skip
    have c_1 := z_if0 c_1
    refine lv_iconst (v := 0) hx hb dX12_hands_58 (by decide) ?_
    exact wr_z (q := (fun _ => 0)) (k := (fun _ => 0)) (g := (fun _ => fun _ => 0)) (gl := (fun _ => fun _ => 0)) hx hb hr hlocks rfl ((if_neg (by simp only [hOKM, Bool.and_eq_true, decide_eq_true_eq]; exact fun h9 => c_1 h9.1.1.1.1.1.1.1.1)).symm) hS (hP.sub [] rfl) (hK.sub [] rfl) (hD.sub [] (by decide) rfl) dX12_hands_59
  · skip
    have c_1 := z_ifn c_1
    refine lv_iload_n hx hb dX12_hands_20 rfl (lv_at hl 3 rfl) ?_
    refine lv_iconst (v := 0) hx hb dX12_hands_21 (by decide) ?_
    refine lv_iload hx hb dX12_hands_22 (lv_at hl 0 rfl) ?_
    refine re_S (As := [.int p2, .int 0, .int 65535]) (rest := []) caS_SignalTableModel_310 hx hb hml hown hts (eM_in p2 0 65535) bl_T (fun _ _ _ => trivial) (by decide) rfl hl.1 (Nat.le_of_ble_eq_true rfl) (by decide) dX12_hands_24 rfl ?_
    refine lv_if_eq (tgt := 58) hx hb dX12_hands_27 (by decide) (fun c_2 => ?_) (fun c_2 => ?_)
    · skip
      have c_2 := z_if0 c_2
      refine W.eq (g2 := F0 m 58 ls []) rfl ?_
      refine lv_iconst (v := 0) hx hb dX12_hands_58 (by decide) ?_
      exact wr_z (q := (fun _ => 0)) (k := (fun _ => 0)) (g := (fun _ => fun _ => 0)) (gl := (fun _ => fun _ => 0)) hx hb hr hlocks rfl ((if_neg (by simp only [hOKM, Bool.and_eq_true, decide_eq_true_eq]; exact fun h9 => c_2 h9.1.1.1.1.1.1.1.2)).symm) hS (hP.sub [] rfl) (hK.sub [] rfl) (hD.sub [] (by decide) rfl) dX12_hands_59
    · skip
      have c_2 := z_ifn c_2
      refine lv_iload_n hx hb dX12_hands_30 rfl (lv_at hl 4 rfl) ?_
      refine lv_iconst (v := 0) hx hb dX12_hands_31 (by decide) ?_
      refine lv_iload hx hb dX12_hands_32 (lv_at hl 0 rfl) ?_
      refine re_S (As := [.int p3, .int 0, .int 65535]) (rest := []) caS_SignalTableModel_310 hx hb hml hown hts (eM_in p3 0 65535) bl_T (fun _ _ _ => trivial) (by decide) rfl hl.1 (Nat.le_of_ble_eq_true rfl) (by decide) dX12_hands_34 rfl ?_
      refine lv_if_eq (tgt := 58) hx hb dX12_hands_37 (by decide) (fun c_3 => ?_) (fun c_3 => ?_)
      · skip
        have c_3 := z_if0 c_3
        refine lv_iconst (v := 0) hx hb dX12_hands_58 (by decide) ?_
        exact wr_z (q := (fun _ => 0)) (k := (fun _ => 0)) (g := (fun _ => fun _ => 0)) (gl := (fun _ => fun _ => 0)) hx hb hr hlocks rfl ((if_neg (by simp only [hOKM, Bool.and_eq_true, decide_eq_true_eq]; exact fun h9 => c_3 h9.1.1.1.1.1.1.2)).symm) hS (hP.sub [] rfl) (hK.sub [] rfl) (hD.sub [] (by decide) rfl) dX12_hands_59
      · skip
        have c_3 := z_ifn c_3
        refine lv_iload_n hx hb dX12_hands_40 rfl (lv_at hl 2 rfl) ?_
        refine W.eq (g2 := F0 m 41 ls [.int p1]) rfl ?_
        refine lv_iload_n hx hb dX12_hands_41 rfl (lv_at hl 3 rfl) ?_
        refine lv_iand hx hb dX12_hands_42 ?_
        refine lv_if_ne (tgt := 58) hx hb dX12_hands_43 (by decide) (fun c_4 => ?_) (fun c_4 => ?_)
        · skip
          refine lv_iconst (v := 0) hx hb dX12_hands_58 (by decide) ?_
          exact wr_z (q := (fun _ => 0)) (k := (fun _ => 0)) (g := (fun _ => fun _ => 0)) (gl := (fun _ => fun _ => 0)) hx hb hr hlocks rfl ((if_neg (by simp only [hOKM, Bool.and_eq_true, decide_eq_true_eq]; exact fun h9 => c_4 h9.1.1.1.1.1.2)).symm) hS (hP.sub [] rfl) (hK.sub [] rfl) (hD.sub [] (by decide) rfl) dX12_hands_59
        · skip
          refine lv_iload_n hx hb dX12_hands_46 rfl (lv_at hl 2 rfl) ?_
          refine lv_iload_n hx hb dX12_hands_47 rfl (lv_at hl 4 rfl) ?_
          refine lv_iand hx hb dX12_hands_48 ?_
          refine lv_if_ne (tgt := 58) hx hb dX12_hands_49 (by decide) (fun c_5 => ?_) (fun c_5 => ?_)
          · skip
            refine lv_iconst (v := 0) hx hb dX12_hands_58 (by decide) ?_
            refine W.eq (g2 := F0 m 59 ls [.int 0]) rfl ?_
            exact wr_z (q := (fun _ => 0)) (k := (fun _ => 0)) (g := (fun _ => fun _ => 0)) (gl := (fun _ => fun _ => 0)) hx hb hr hlocks rfl ((if_neg (by simp only [hOKM, Bool.and_eq_true, decide_eq_true_eq]; exact fun h9 => c_5 h9.1.1.1.1.2)).symm) hS (hP.sub [] rfl) (hK.sub [] rfl) (hD.sub [] (by decide) rfl) dX12_hands_59
          · skip
            refine lv_iload_n hx hb dX12_hands_52 rfl (lv_at hl 3 rfl) ?_
            refine lv_iload_n hx hb dX12_hands_53 rfl (lv_at hl 4 rfl) ?_
            refine lv_iand hx hb dX12_hands_54 ?_
            refine lv_if_eq (tgt := 60) hx hb dX12_hands_55 (by decide) (fun c_6 => ?_) (fun c_6 => ?_)
            · skip
              refine lv_iload_n hx hb dX12_hands_60 rfl (lv_at hl 2 rfl) ?_
              refine re_S (As := [.int p1]) (rest := []) caS_SignalTableModel_371 hx hb hml hown hts (eM_bits p1) bl_T (fun _ _ _ => trivial) (by decide) rfl hl.1 (Nat.le_of_ble_eq_true rfl) (by decide) dX12_hands_61 rfl ?_
              refine lv_aload_n hx hb dX12_hands_64 rfl (lv_at hl 1 rfl) ?_
              refine rd_V (As := []) (rest := [.int (sbits p1)]) (d := 1) caV_SignalTableModel_365 hx hb hml hown hts (hP.sub [0, 1, 2] rfl) (hK.sub [0, 1] rfl) (wX12_handSize q k g gl) (ci := 12) (q0 := 0) rfl rfl (by decide) rfl hl.1 (Nat.le_of_ble_eq_true rfl) (by decide) dX12_hands_65 rfl ?_
              refine lv_icmp_ne (tgt := 93) hx hb dX12_hands_68 (by decide) (fun c_7 => ?_) (fun c_7 => ?_)
              · skip
                refine W.eq (g2 := F0 m 93 ls []) rfl ?_
                refine lv_iconst (v := 0) hx hb dX12_hands_93 (by decide) ?_
                exact wr_z (q := (fun _ => 0)) (k := (fun _ => 0)) (g := (fun _ => fun _ => 0)) (gl := (fun _ => fun _ => 0)) hx hb hr hlocks rfl ((if_neg (by simp only [hOKM, Bool.and_eq_true, decide_eq_true_eq]; exact fun h9 => c_7 h9.1.1.2)).symm) hS (hP.sub [] rfl) (hK.sub [] rfl) (hD.sub [] (by decide) rfl) dX12_hands_94
              · skip
                refine lv_iload_n hx hb dX12_hands_71 rfl (lv_at hl 3 rfl) ?_
                refine re_S (As := [.int p2]) (rest := []) caS_SignalTableModel_371 hx hb hml hown hts (eM_bits p2) bl_T (fun _ _ _ => trivial) (by decide) rfl hl.1 (Nat.le_of_ble_eq_true rfl) (by decide) dX12_hands_72 rfl ?_
                refine lv_aload_n hx hb dX12_hands_75 rfl (lv_at hl 1 rfl) ?_
                refine rd_V (As := []) (rest := [.int (sbits p2)]) (d := 1) caV_SignalTableModel_365 hx hb hml hown hts (hP.sub [0, 1, 2] rfl) (hK.sub [0, 1] rfl) (wX12_handSize q k g gl) (ci := 12) (q0 := 0) rfl rfl (by decide) rfl hl.1 (Nat.le_of_ble_eq_true rfl) (by decide) dX12_hands_76 rfl ?_
                refine lv_icmp_ne (tgt := 93) hx hb dX12_hands_79 (by decide) (fun c_8 => ?_) (fun c_8 => ?_)
                · skip
                  refine lv_iconst (v := 0) hx hb dX12_hands_93 (by decide) ?_
                  exact wr_z (q := (fun _ => 0)) (k := (fun _ => 0)) (g := (fun _ => fun _ => 0)) (gl := (fun _ => fun _ => 0)) hx hb hr hlocks rfl ((if_neg (by simp only [hOKM, Bool.and_eq_true, decide_eq_true_eq]; exact fun h9 => c_8 h9.1.2)).symm) hS (hP.sub [] rfl) (hK.sub [] rfl) (hD.sub [] (by decide) rfl) dX12_hands_94
                · skip
                  refine lv_iload_n hx hb dX12_hands_82 rfl (lv_at hl 4 rfl) ?_
                  refine W.eq (g2 := F0 m 83 ls [.int p3]) rfl ?_
                  refine re_S (As := [.int p3]) (rest := []) caS_SignalTableModel_371 hx hb hml hown hts (eM_bits p3) bl_T (fun _ _ _ => trivial) (by decide) rfl hl.1 (Nat.le_of_ble_eq_true rfl) (by decide) dX12_hands_83 rfl ?_
                  refine lv_aload_n hx hb dX12_hands_86 rfl (lv_at hl 1 rfl) ?_
                  refine rd_V (As := []) (rest := [.int (sbits p3)]) (d := 1) caV_SignalTableModel_365 hx hb hml hown hts (hP.sub [0, 1, 2] rfl) (hK.sub [0, 1] rfl) (wX12_handSize q k g gl) (ci := 12) (q0 := 0) rfl rfl (by decide) rfl hl.1 (Nat.le_of_ble_eq_true rfl) (by decide) dX12_hands_87 rfl ?_
                  refine lv_icmp_eq (tgt := 95) hx hb dX12_hands_90 (by decide) (fun c_9 => ?_) (fun c_9 => ?_)
                  · skip
                    refine lv_aload_n hx hb dX12_hands_95 rfl (lv_at hl 1 rfl) ?_
                    refine va_get (D := D) (ci := 12) (v := .ref (q 10)) (C := RX12) (T := TX12) (N := 95) hx hb hts inX12 hown hK hP 0 rfl rfl 46 (by decide) (hts _ kw_1560) (fun _ h9 => h9) rfl dX12_hands_96 ?_
                    refine lv_iconst (v := 0) hx hb dX12_hands_99 (by decide) ?_
                    refine lv_iload_n hx hb dX12_hands_100 rfl (lv_at hl 2 rfl) ?_
                    refine va_iast hx hb hK hP hD hS 3 2 rfl rfl (z_in (by decide)) dX12_hands_101 (fun H locs hP hD hS => ?_)
                    obtain ⟨f101_1, hf101_1⟩ : ∃ z, z = upd (g 10) ((0 : Int32).toNatClampNeg) p1 := ⟨_, rfl⟩
                    rw [← hf101_1] at hP hD
                    have hP : va_P D vwCl [((q 0), .inr (12, mObj q)), ((q 6), .inl ((k 6), 2, .inl (upd (fun _ => 0) 0 4))), ((q 7), .inl ((k 7), 2, .inl (upd (fun _ => 0) 0 4))), ((q 10), .inl ((k 10), 4, .inl f101_1))] H := hP
                    have hD : va_D A [((q 0), .inr (12, mObj q)), ((q 6), .inl ((k 6), 2, .inl (upd (fun _ => 0) 0 4))), ((q 7), .inl ((k 7), 2, .inl (upd (fun _ => 0) 0 4))), ((q 10), .inl ((k 10), 4, .inl f101_1))] := hD
                    refine lv_aload_n hx hb dX12_hands_102 rfl (lv_at hl 1 rfl) ?_
                    refine W.eq (g2 := F0 m 103 ls [.ref (q 0)]) rfl ?_
                    refine va_get (D := D) (ci := 12) (v := .ref (q 10)) (C := RX12) (T := TX12) (N := 95) hx hb hts inX12 hown hK hP 0 rfl rfl 46 (by decide) (hts _ kw_1560) (fun _ h9 => h9) rfl dX12_hands_103 ?_
                    refine lv_iconst (v := 1) hx hb dX12_hands_106 (by decide) ?_
                    refine lv_iload_n hx hb dX12_hands_107 rfl (lv_at hl 3 rfl) ?_
                    refine va_iast hx hb hK hP hD hS 3 2 rfl rfl (z_in (by decide)) dX12_hands_108 (fun H locs hP hD hS => ?_)
                    obtain ⟨f108_2, hf108_2⟩ : ∃ z, z = upd f101_1 ((1 : Int32).toNatClampNeg) p2 := ⟨_, rfl⟩
                    rw [← hf108_2] at hP hD
                    have hP : va_P D vwCl [((q 0), .inr (12, mObj q)), ((q 6), .inl ((k 6), 2, .inl (upd (fun _ => 0) 0 4))), ((q 7), .inl ((k 7), 2, .inl (upd (fun _ => 0) 0 4))), ((q 10), .inl ((k 10), 4, .inl f108_2))] H := hP
                    have hD : va_D A [((q 0), .inr (12, mObj q)), ((q 6), .inl ((k 6), 2, .inl (upd (fun _ => 0) 0 4))), ((q 7), .inl ((k 7), 2, .inl (upd (fun _ => 0) 0 4))), ((q 10), .inl ((k 10), 4, .inl f108_2))] := hD
                    refine lv_aload_n hx hb dX12_hands_109 rfl (lv_at hl 1 rfl) ?_
                    refine va_get (D := D) (ci := 12) (v := .ref (q 10)) (C := RX12) (T := TX12) (N := 95) hx hb hts inX12 hown hK hP 0 rfl rfl 46 (by decide) (hts _ kw_1560) (fun _ h9 => h9) rfl dX12_hands_110 ?_
                    refine lv_iconst (v := 2) hx hb dX12_hands_113 (by decide) ?_
                    refine lv_iload_n hx hb dX12_hands_114 rfl (lv_at hl 4 rfl) ?_
                    refine va_iast hx hb hK hP hD hS 3 2 rfl rfl (z_in (by decide)) dX12_hands_115 (fun H locs hP hD hS => ?_)
                    obtain ⟨f115_3, hf115_3⟩ : ∃ z, z = upd f108_2 ((2 : Int32).toNatClampNeg) p3 := ⟨_, rfl⟩
                    rw [← hf115_3] at hP hD
                    have hP : va_P D vwCl [((q 0), .inr (12, mObj q)), ((q 6), .inl ((k 6), 2, .inl (upd (fun _ => 0) 0 4))), ((q 7), .inl ((k 7), 2, .inl (upd (fun _ => 0) 0 4))), ((q 10), .inl ((k 10), 4, .inl f115_3))] H := hP
                    have hD : va_D A [((q 0), .inr (12, mObj q)), ((q 6), .inl ((k 6), 2, .inl (upd (fun _ => 0) 0 4))), ((q 7), .inl ((k 7), 2, .inl (upd (fun _ => 0) 0 4))), ((q 10), .inl ((k 10), 4, .inl f115_3))] := hD
                    refine lv_aload_n hx hb dX12_hands_116 rfl (lv_at hl 1 rfl) ?_
                    refine W.eq (g2 := F0 m 117 ls [.ref (q 0)]) rfl ?_
                    refine va_get (D := D) (ci := 12) (v := .ref (q 10)) (C := RX12) (T := TX12) (N := 95) hx hb hts inX12 hown hK hP 0 rfl rfl 46 (by decide) (hts _ kw_1560) (fun _ h9 => h9) rfl dX12_hands_117 ?_
                    refine lv_iconst (v := 3) hx hb dX12_hands_120 (by decide) ?_
                    refine lv_iload hx hb dX12_hands_121 (lv_at hl 0 rfl) ?_
                    refine lv_iload_n hx hb dX12_hands_123 rfl (lv_at hl 2 rfl) ?_
                    refine lv_iconst (v := (-1)) hx hb dX12_hands_124 (by decide) ?_
                    refine lv_ixor hx hb dX12_hands_125 ?_
                    refine lv_iand hx hb dX12_hands_126 ?_
                    refine lv_iload_n hx hb dX12_hands_127 rfl (lv_at hl 3 rfl) ?_
                    refine lv_iconst (v := (-1)) hx hb dX12_hands_128 (by decide) ?_
                    refine lv_ixor hx hb dX12_hands_129 ?_
                    refine W.eq (g2 := F0 m 130 ls [.int (p2 ^^^ (-1)), .int (65535 &&& (p1 ^^^ (-1))), .int 3, .ref (q 10)]) rfl ?_
                    refine lv_iand hx hb dX12_hands_130 ?_
                    refine lv_iload_n hx hb dX12_hands_131 rfl (lv_at hl 4 rfl) ?_
                    refine lv_iconst (v := (-1)) hx hb dX12_hands_132 (by decide) ?_
                    refine lv_ixor hx hb dX12_hands_133 ?_
                    refine lv_iand hx hb dX12_hands_134 ?_
                    refine va_iast hx hb hK hP hD hS 3 2 rfl rfl (z_in (by decide)) dX12_hands_135 (fun H locs hP hD hS => ?_)
                    obtain ⟨f135_4, hf135_4⟩ : ∃ z, z = upd f115_3 ((3 : Int32).toNatClampNeg) (((65535 &&& (p1 ^^^ (-1))) &&& (p2 ^^^ (-1))) &&& (p3 ^^^ (-1))) := ⟨_, rfl⟩
                    rw [← hf135_4] at hP hD
                    have hP : va_P D vwCl [((q 0), .inr (12, mObj q)), ((q 6), .inl ((k 6), 2, .inl (upd (fun _ => 0) 0 4))), ((q 7), .inl ((k 7), 2, .inl (upd (fun _ => 0) 0 4))), ((q 10), .inl ((k 10), 4, .inl f135_4))] H := hP
                    have hD : va_D A [((q 0), .inr (12, mObj q)), ((q 6), .inl ((k 6), 2, .inl (upd (fun _ => 0) 0 4))), ((q 7), .inl ((k 7), 2, .inl (upd (fun _ => 0) 0 4))), ((q 10), .inl ((k 10), 4, .inl f135_4))] := hD
                    refine lv_aload_n hx hb dX12_hands_136 rfl (lv_at hl 1 rfl) ?_
                    refine wr_V (As := []) (rest := []) caV_SignalTableModel_368 hx hb hml hown hts hP hD hK hS hA (isC := [0]) (isR := [1, 2, 3]) (isT := []) (wr := [((q 6), .inl ((k 6), 2, .inl (upd (fun _ => 0) 0 4))), ((q 7), .inl ((k 7), 2, .inl (upd (fun _ => 0) 0 4))), ((q 10), .inl ((k 10), 4, .inl f135_4))]) ⟨rfl, rfl, rfl, rfl, by decide⟩ rfl (wX12_starts q k g gl) bl_T (fun _ _ _ => trivial) (ci := 12) (q0 := 0) rfl rfl (by decide) rfl hl.1 (Nat.le_of_ble_eq_true rfl) (by decide) dX12_hands_137 rfl (fun q5 k5 g5 l5 H locs hP hD hK hS => ?_)
                    have hP : va_P D vwCl [((q 6), .inl ((k 6), 2, .inl (upd (fun _ => 0) 0 4))), ((q 7), .inl ((k 7), 2, .inl (upd (fun _ => 0) 0 4))), ((q 10), .inl ((k 10), 4, .inl f135_4))] H := hP
                    have hD : va_D A [((q 6), .inl ((k 6), 2, .inl (upd (fun _ => 0) 0 4))), ((q 7), .inl ((k 7), 2, .inl (upd (fun _ => 0) 0 4))), ((q 10), .inl ((k 10), 4, .inl f135_4))] := hD
                    have hK : va_K D vwCl [((k 6), .int), ((k 7), .int), ((k 10), .int)] s := hK
                    refine W.cs (cells' := 0) (slots' := 0) rfl rfl ?_
                    refine lv_iconst (v := 1) hx hb dX12_hands_140 (by decide) ?_
                    exact wr_z (q := (fun _ => 0)) (k := (fun _ => 0)) (g := (fun _ => fun _ => 0)) (gl := (fun _ => fun _ => 0)) hx hb hr hlocks rfl ((if_pos (by simp only [hOKM, c_1, c_2, c_3, c_4, c_5, c_6, c_7, c_8, c_9, and_self, decide_true, Bool.and_self])).symm) hS (hP.sub [] rfl) (hK.sub [] rfl) (hD.sub [] (by decide) rfl) dX12_hands_141
                  · skip
                    refine W.eq (g2 := F0 m 93 ls []) rfl ?_
                    refine lv_iconst (v := 0) hx hb dX12_hands_93 (by decide) ?_
                    exact wr_z (q := (fun _ => 0)) (k := (fun _ => 0)) (g := (fun _ => fun _ => 0)) (gl := (fun _ => fun _ => 0)) hx hb hr hlocks rfl ((if_neg (by simp only [hOKM, Bool.and_eq_true, decide_eq_true_eq]; exact fun h9 => c_9 h9.2)).symm) hS (hP.sub [] rfl) (hK.sub [] rfl) (hD.sub [] (by decide) rfl) dX12_hands_94
            · skip
              refine lv_iconst (v := 0) hx hb dX12_hands_58 (by decide) ?_
              exact wr_z (q := (fun _ => 0)) (k := (fun _ => 0)) (g := (fun _ => fun _ => 0)) (gl := (fun _ => fun _ => 0)) hx hb hr hlocks rfl ((if_neg (by simp only [hOKM, Bool.and_eq_true, decide_eq_true_eq]; exact fun h9 => c_6 h9.1.1.1.2)).symm) hS (hP.sub [] rfl) (hK.sub [] rfl) (hD.sub [] (by decide) rfl) dX12_hands_59
