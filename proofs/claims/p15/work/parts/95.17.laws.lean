theorem z_in {i : Int32} {n : Nat} (h : ¬ (i < 0 ∨ n ≤ i.toNatClampNeg)) : vp_in i n := h
def jush (x y : Int32) : Int32 := (x.toUInt32 >>> (y.toUInt32 &&& Int32.toUInt32 31)).toInt32
/-- the place of the lowest bit of a set of 16 -/
def ltz (x : Int32) : Nat := (List.range 16).findIdx (fun j => decide (x = nI (2 ^ j)))
def lstep (x : Int32) : Int32 := ((x + (x &&& (-x))) ||| (jush (x ^^^ (x + (x &&& (-x)))) (2 + (nI (ltz (x &&& (-x)))))))
def lchk : Nat → Int32 → Bool
  | 0, _ => true
  | n + 1, x => decide (0 ≤ x) && (decide (x < 65536) && (decide (x &&& (-x) = nI (2 ^ ltz (x &&& (-x)))) && (decide (ltz (x &&& (-x)) < 16) && lchk n (lstep x))))
set_option maxRecDepth 100000 in
theorem lchk_all : lchk 1820 15 = true := by decide +kernel
def sc0 : Nat → Int32 := (upd (upd (upd (upd (fun _ => 0) 0 15) 1 240) 2 3840) 3 61440)
def so0 : Nat → Int32 := (upd (upd (upd (upd (upd (upd (upd (upd (upd (upd (upd (upd (upd (upd (upd (upd (fun _ => 0) 0 0) 1 0) 2 0) 3 0) 4 1) 5 1) 6 1) 7 1) 8 2) 9 2) 10 2) 11 2) 12 3) 13 3) 14 3) 15 3)
theorem cl_rn {x : Int32} (hge : 0 ≤ x) (hlt : x < 65536) : 0 ≤ x.toInt ∧ x.toInt ≤ 65535 := by
  have h0 := Int32.le_iff_toInt_le.mp hge
  have h1 := Int32.lt_iff_toInt_lt.mp hlt
  have e0 : (0 : Int32).toInt = 0 := by decide
  have e1 : (65536 : Int32).toInt = 65536 := by decide
  omega
set_option maxHeartbeats 4000000 in
set_option maxRecDepth 100000 in
theorem wX5_clear {l : Launch} {D : va_G} {sz : Nat} (h0 : Nat) (b0 : Nat) (b1 : Nat) (b2 : Nat) (b3 : Nat) (b4 : Nat) (b5 : Nat) (b6 : Nat) (b7 : Nat) (i0 : Int32) (i1 : Int32) (i2 : Int32) (i3 : Int32) (i4 : Int32) (i5 : Int32) (i6 : Int32) (i7 : Int32) : Wv l yX5_clear cX5_clear 1 0 0 0 D [(h0, .inr (5, [.int i0, .int i1, .int i2, .int i3, .ref b0, .ref b1, .ref b2, .ref b3, .ref b4, .int i4, .int i5, .int i6, .ref b5, .ref b6, .ref b7, .int i7]))] [] [.ref h0] sz (fun _ => True) (fun q k g gl => [(h0, .inr (5, [.int 4, .int 4, .int (-1), .int 0, .ref b0, .ref b1, .ref b2, .ref b3, .ref b4, .int 0, .int i5, .int i6, .ref b5, .ref b6, .ref b7, .int i7]))]) (fun k => []) := by
  refine Wv.of (by decide) (Nat.le_of_ble_eq_true rfl) ?_
  intro p e s m below meth c ls A hx hb hr hml hown hts hlocks hin hP hK hD hA hS hE hAe hl
  have hown : s.vm.findClass "SignalTable$Laws" = some m.cls := hown
  have hin : meth.name = "clear" := hin
  skip
  have hl : lv_has ls 1 [(0, .ref h0)] := hl
  refine lv_aload_n hx hb dX5_clear_0 rfl (lv_at hl 0 rfl) ?_
  refine lv_iconst (v := 4) hx hb dX5_clear_1 (by decide) ?_
  refine va_put (D := D) (ci := 5) (v := .int 4) (ty := .int) (C := RX5) (T := TX5) (N := 16) hx hb hts inX5 tyX5 tyX5_ok nmX5 hown hK hP hD hS 0 rfl rfl 0 (by decide) (hts _ kw_188) (fun _ h9 => h9) rfl (by decide +kernel) rfl rfl (Nat.le_of_ble_eq_true rfl) dX5_clear_2 (fun H locs hP hD hS => ?_)
  have hP : va_P D vwCl [(h0, .inr (5, [.int 4, .int i1, .int i2, .int i3, .ref b0, .ref b1, .ref b2, .ref b3, .ref b4, .int i4, .int i5, .int i6, .ref b5, .ref b6, .ref b7, .int i7]))] H := hP
  have hD : va_D A [(h0, .inr (5, [.int 4, .int i1, .int i2, .int i3, .ref b0, .ref b1, .ref b2, .ref b3, .ref b4, .int i4, .int i5, .int i6, .ref b5, .ref b6, .ref b7, .int i7]))] := hD
  refine lv_aload_n hx hb dX5_clear_5 rfl (lv_at hl 0 rfl) ?_
  refine lv_iconst (v := 4) hx hb dX5_clear_6 (by decide) ?_
  refine va_put (D := D) (ci := 5) (v := .int 4) (ty := .int) (C := RX5) (T := TX5) (N := 16) hx hb hts inX5 tyX5 tyX5_ok nmX5 hown hK hP hD hS 0 rfl rfl 1 (by decide) (hts _ kw_192) (fun _ h9 => h9) rfl (by decide +kernel) rfl rfl (Nat.le_of_ble_eq_true rfl) dX5_clear_7 (fun H locs hP hD hS => ?_)
  have hP : va_P D vwCl [(h0, .inr (5, [.int 4, .int 4, .int i2, .int i3, .ref b0, .ref b1, .ref b2, .ref b3, .ref b4, .int i4, .int i5, .int i6, .ref b5, .ref b6, .ref b7, .int i7]))] H := hP
  have hD : va_D A [(h0, .inr (5, [.int 4, .int 4, .int i2, .int i3, .ref b0, .ref b1, .ref b2, .ref b3, .ref b4, .int i4, .int i5, .int i6, .ref b5, .ref b6, .ref b7, .int i7]))] := hD
  refine lv_aload_n hx hb dX5_clear_10 rfl (lv_at hl 0 rfl) ?_
  refine lv_iconst (v := (-1)) hx hb dX5_clear_11 (by decide) ?_
  refine va_put (D := D) (ci := 5) (v := .int (-1)) (ty := .int) (C := RX5) (T := TX5) (N := 16) hx hb hts inX5 tyX5 tyX5_ok nmX5 hown hK hP hD hS 0 rfl rfl 2 (by decide) (hts _ kw_195) (fun _ h9 => h9) rfl (by decide +kernel) rfl rfl (Nat.le_of_ble_eq_true rfl) dX5_clear_12 (fun H locs hP hD hS => ?_)
  have hP : va_P D vwCl [(h0, .inr (5, [.int 4, .int 4, .int (-1), .int i3, .ref b0, .ref b1, .ref b2, .ref b3, .ref b4, .int i4, .int i5, .int i6, .ref b5, .ref b6, .ref b7, .int i7]))] H := hP
  have hD : va_D A [(h0, .inr (5, [.int 4, .int 4, .int (-1), .int i3, .ref b0, .ref b1, .ref b2, .ref b3, .ref b4, .int i4, .int i5, .int i6, .ref b5, .ref b6, .ref b7, .int i7]))] := hD
  refine W.eq (g2 := F0 m 15 ls []) rfl ?_
  refine lv_aload_n hx hb dX5_clear_15 rfl (lv_at hl 0 rfl) ?_
  refine lv_iconst (v := 0) hx hb dX5_clear_16 (by decide) ?_
  refine va_put (D := D) (ci := 5) (v := .int 0) (ty := .int) (C := RX5) (T := TX5) (N := 16) hx hb hts inX5 tyX5 tyX5_ok nmX5 hown hK hP hD hS 0 rfl rfl 3 (by decide) (hts _ kw_201) (fun _ h9 => h9) rfl (by decide +kernel) rfl rfl (Nat.le_of_ble_eq_true rfl) dX5_clear_17 (fun H locs hP hD hS => ?_)
  have hP : va_P D vwCl [(h0, .inr (5, [.int 4, .int 4, .int (-1), .int 0, .ref b0, .ref b1, .ref b2, .ref b3, .ref b4, .int i4, .int i5, .int i6, .ref b5, .ref b6, .ref b7, .int i7]))] H := hP
  have hD : va_D A [(h0, .inr (5, [.int 4, .int 4, .int (-1), .int 0, .ref b0, .ref b1, .ref b2, .ref b3, .ref b4, .int i4, .int i5, .int i6, .ref b5, .ref b6, .ref b7, .int i7]))] := hD
  refine lv_aload_n hx hb dX5_clear_20 rfl (lv_at hl 0 rfl) ?_
  refine lv_iconst (v := 0) hx hb dX5_clear_21 (by decide) ?_
  refine va_put (D := D) (ci := 5) (v := .int 0) (ty := .int) (C := RX5) (T := TX5) (N := 16) hx hb hts inX5 tyX5 tyX5_ok nmX5 hown hK hP hD hS 0 rfl rfl 9 (by decide) (hts _ kw_218) (fun _ h9 => h9) rfl (by decide +kernel) rfl rfl (Nat.le_of_ble_eq_true rfl) dX5_clear_22 (fun H locs hP hD hS => ?_)
  have hP : va_P D vwCl [(h0, .inr (5, [.int 4, .int 4, .int (-1), .int 0, .ref b0, .ref b1, .ref b2, .ref b3, .ref b4, .int 0, .int i5, .int i6, .ref b5, .ref b6, .ref b7, .int i7]))] H := hP
  have hD : va_D A [(h0, .inr (5, [.int 4, .int 4, .int (-1), .int 0, .ref b0, .ref b1, .ref b2, .ref b3, .ref b4, .int 0, .int i5, .int i6, .ref b5, .ref b6, .ref b7, .int i7]))] := hD
  exact wr_v (q := (fun _ => 0)) (k := (fun _ => 0)) (g := (fun _ => fun _ => 0)) (gl := (fun _ => fun _ => 0)) hx hb hr hlocks hS (hP.sub [0] rfl) (hK.sub [] rfl) (hD.sub [0] (by decide) rfl) dX5_clear_25
set_option maxHeartbeats 4000000 in
set_option maxRecDepth 100000 in
theorem j_ntz0 {l : Launch} : RdE l yJ6_numberOfTrailingZeros_0f7a4 cJ6_numberOfTrailingZeros_0f7a4 2 (some .int) 0 (fun _ => True) [.int 1] (.int 0) := by
  refine RdE.of (by decide) (Nat.le_of_ble_eq_true rfl) ?_
  intro p e s m below meth c ls hx hb hr hml hown hts hlocks hE hl
  have hown : s.vm.findClass "java/lang/Integer" = some m.cls := hown
  have hl : lv_has ls 2 [(0, .int 1)] := hl
  refine lv_iload_n hx hb dJ6_numberOfTrailingZeros_0f7a4_0 rfl (lv_at hl 0 rfl) ?_
  refine lv_iconst (v := (-1)) hx hb dJ6_numberOfTrailingZeros_0f7a4_1 (by decide) ?_
  refine lv_ixor hx hb dJ6_numberOfTrailingZeros_0f7a4_2 ?_
  refine z_i (v := (-2)) (by decide) ?_
  refine lv_iload_n hx hb dJ6_numberOfTrailingZeros_0f7a4_3 rfl (lv_at hl 0 rfl) ?_
  refine lv_iconst (v := 1) hx hb dJ6_numberOfTrailingZeros_0f7a4_4 (by decide) ?_
  refine lv_isub hx hb dJ6_numberOfTrailingZeros_0f7a4_5 ?_
  refine z_i (v := 0) (by decide) ?_
  refine lv_iand hx hb dJ6_numberOfTrailingZeros_0f7a4_6 ?_
  refine z_i (v := 0) (by decide) ?_
  refine lv_istore_n (lv' := [(0, .int 0)]) hx hb dJ6_numberOfTrailingZeros_0f7a4_7 rfl hl (by decide) rfl (fun ls hl => ?_)
  refine lv_iload_n hx hb dJ6_numberOfTrailingZeros_0f7a4_8 rfl (lv_at hl 0 rfl) ?_
  refine lv_if_gt (tgt := 17) hx hb dJ6_numberOfTrailingZeros_0f7a4_9 (by decide) (fun h => absurd h (by decide)) (fun _ => ?_)
  refine lv_iload_n hx hb dJ6_numberOfTrailingZeros_0f7a4_12 rfl (lv_at hl 0 rfl) ?_
  refine lv_bipush (v := 32) hx hb dJ6_numberOfTrailingZeros_0f7a4_13 (by decide) ?_
  refine lv_iand hx hb dJ6_numberOfTrailingZeros_0f7a4_15 ?_
  refine z_i (v := 0) (by decide) ?_
  exact rd_i hx hb hr hlocks (rfl) dJ6_numberOfTrailingZeros_0f7a4_16
set_option maxHeartbeats 4000000 in
set_option maxRecDepth 100000 in
theorem j_ntz1 {l : Launch} : RdE l yJ6_numberOfTrailingZeros_0f7a4 cJ6_numberOfTrailingZeros_0f7a4 2 (some .int) 0 (fun _ => True) [.int 2] (.int 1) := by
  refine RdE.of (by decide) (Nat.le_of_ble_eq_true rfl) ?_
  intro p e s m below meth c ls hx hb hr hml hown hts hlocks hE hl
  have hown : s.vm.findClass "java/lang/Integer" = some m.cls := hown
  have hl : lv_has ls 2 [(0, .int 2)] := hl
  refine lv_iload_n hx hb dJ6_numberOfTrailingZeros_0f7a4_0 rfl (lv_at hl 0 rfl) ?_
  refine lv_iconst (v := (-1)) hx hb dJ6_numberOfTrailingZeros_0f7a4_1 (by decide) ?_
  refine lv_ixor hx hb dJ6_numberOfTrailingZeros_0f7a4_2 ?_
  refine z_i (v := (-3)) (by decide) ?_
  refine lv_iload_n hx hb dJ6_numberOfTrailingZeros_0f7a4_3 rfl (lv_at hl 0 rfl) ?_
  refine lv_iconst (v := 1) hx hb dJ6_numberOfTrailingZeros_0f7a4_4 (by decide) ?_
  refine lv_isub hx hb dJ6_numberOfTrailingZeros_0f7a4_5 ?_
  refine z_i (v := 1) (by decide) ?_
  refine lv_iand hx hb dJ6_numberOfTrailingZeros_0f7a4_6 ?_
  refine z_i (v := 1) (by decide) ?_
  refine lv_istore_n (lv' := [(0, .int 1)]) hx hb dJ6_numberOfTrailingZeros_0f7a4_7 rfl hl (by decide) rfl (fun ls hl => ?_)
  refine lv_iload_n hx hb dJ6_numberOfTrailingZeros_0f7a4_8 rfl (lv_at hl 0 rfl) ?_
  refine lv_if_gt (tgt := 17) hx hb dJ6_numberOfTrailingZeros_0f7a4_9 (by decide) (fun _ => ?_) (fun h => absurd (by decide) h)
  refine lv_iconst (v := 1) hx hb dJ6_numberOfTrailingZeros_0f7a4_17 (by decide) ?_
  refine lv_istore_n (lv' := [(1, .int 1), (0, .int 1)]) hx hb dJ6_numberOfTrailingZeros_0f7a4_18 rfl hl (by decide) rfl (fun ls hl => ?_)
  refine lv_iload_n hx hb dJ6_numberOfTrailingZeros_0f7a4_19 rfl (lv_at hl 1 rfl) ?_
  refine lv_ldcw (v := 65536) hx hb hown (hts _ kw_706) dJ6_numberOfTrailingZeros_0f7a4_20 ?_
  refine lv_icmp_le (tgt := 34) hx hb dJ6_numberOfTrailingZeros_0f7a4_23 (by decide) (fun _ => ?_) (fun h => absurd (by decide) h)
  refine lv_iload_n hx hb dJ6_numberOfTrailingZeros_0f7a4_34 rfl (lv_at hl 1 rfl) ?_
  refine lv_sipush (v := 256) hx hb dJ6_numberOfTrailingZeros_0f7a4_35 (by decide) ?_
  refine lv_icmp_le (tgt := 49) hx hb dJ6_numberOfTrailingZeros_0f7a4_38 (by decide) (fun _ => ?_) (fun h => absurd (by decide) h)
  refine lv_iload_n hx hb dJ6_numberOfTrailingZeros_0f7a4_49 rfl (lv_at hl 1 rfl) ?_
  refine lv_bipush (v := 16) hx hb dJ6_numberOfTrailingZeros_0f7a4_50 (by decide) ?_
  refine lv_icmp_le (tgt := 62) hx hb dJ6_numberOfTrailingZeros_0f7a4_52 (by decide) (fun _ => ?_) (fun h => absurd (by decide) h)
  refine lv_iload_n hx hb dJ6_numberOfTrailingZeros_0f7a4_62 rfl (lv_at hl 1 rfl) ?_
  refine lv_iconst (v := 4) hx hb dJ6_numberOfTrailingZeros_0f7a4_63 (by decide) ?_
  refine lv_icmp_le (tgt := 74) hx hb dJ6_numberOfTrailingZeros_0f7a4_64 (by decide) (fun _ => ?_) (fun h => absurd (by decide) h)
  refine lv_iload_n hx hb dJ6_numberOfTrailingZeros_0f7a4_74 rfl (lv_at hl 0 rfl) ?_
  refine lv_iload_n hx hb dJ6_numberOfTrailingZeros_0f7a4_75 rfl (lv_at hl 1 rfl) ?_
  refine lv_iconst (v := 1) hx hb dJ6_numberOfTrailingZeros_0f7a4_76 (by decide) ?_
  refine lv_iushr (v := 0) hx hb dJ6_numberOfTrailingZeros_0f7a4_77 (by decide) ?_
  refine lv_iadd hx hb dJ6_numberOfTrailingZeros_0f7a4_78 ?_
  refine z_i (v := 1) (by decide) ?_
  exact rd_i hx hb hr hlocks (rfl) dJ6_numberOfTrailingZeros_0f7a4_79
set_option maxHeartbeats 4000000 in
set_option maxRecDepth 100000 in
theorem j_ntz2 {l : Launch} : RdE l yJ6_numberOfTrailingZeros_0f7a4 cJ6_numberOfTrailingZeros_0f7a4 2 (some .int) 0 (fun _ => True) [.int 4] (.int 2) := by
  refine RdE.of (by decide) (Nat.le_of_ble_eq_true rfl) ?_
  intro p e s m below meth c ls hx hb hr hml hown hts hlocks hE hl
  have hown : s.vm.findClass "java/lang/Integer" = some m.cls := hown
  have hl : lv_has ls 2 [(0, .int 4)] := hl
  refine lv_iload_n hx hb dJ6_numberOfTrailingZeros_0f7a4_0 rfl (lv_at hl 0 rfl) ?_
  refine lv_iconst (v := (-1)) hx hb dJ6_numberOfTrailingZeros_0f7a4_1 (by decide) ?_
  refine lv_ixor hx hb dJ6_numberOfTrailingZeros_0f7a4_2 ?_
  refine z_i (v := (-5)) (by decide) ?_
  refine lv_iload_n hx hb dJ6_numberOfTrailingZeros_0f7a4_3 rfl (lv_at hl 0 rfl) ?_
  refine lv_iconst (v := 1) hx hb dJ6_numberOfTrailingZeros_0f7a4_4 (by decide) ?_
  refine lv_isub hx hb dJ6_numberOfTrailingZeros_0f7a4_5 ?_
  refine z_i (v := 3) (by decide) ?_
  refine lv_iand hx hb dJ6_numberOfTrailingZeros_0f7a4_6 ?_
  refine z_i (v := 3) (by decide) ?_
  refine lv_istore_n (lv' := [(0, .int 3)]) hx hb dJ6_numberOfTrailingZeros_0f7a4_7 rfl hl (by decide) rfl (fun ls hl => ?_)
  refine lv_iload_n hx hb dJ6_numberOfTrailingZeros_0f7a4_8 rfl (lv_at hl 0 rfl) ?_
  refine lv_if_gt (tgt := 17) hx hb dJ6_numberOfTrailingZeros_0f7a4_9 (by decide) (fun _ => ?_) (fun h => absurd (by decide) h)
  refine lv_iconst (v := 1) hx hb dJ6_numberOfTrailingZeros_0f7a4_17 (by decide) ?_
  refine lv_istore_n (lv' := [(1, .int 1), (0, .int 3)]) hx hb dJ6_numberOfTrailingZeros_0f7a4_18 rfl hl (by decide) rfl (fun ls hl => ?_)
  refine lv_iload_n hx hb dJ6_numberOfTrailingZeros_0f7a4_19 rfl (lv_at hl 1 rfl) ?_
  refine lv_ldcw (v := 65536) hx hb hown (hts _ kw_706) dJ6_numberOfTrailingZeros_0f7a4_20 ?_
  refine lv_icmp_le (tgt := 34) hx hb dJ6_numberOfTrailingZeros_0f7a4_23 (by decide) (fun _ => ?_) (fun h => absurd (by decide) h)
  refine lv_iload_n hx hb dJ6_numberOfTrailingZeros_0f7a4_34 rfl (lv_at hl 1 rfl) ?_
  refine lv_sipush (v := 256) hx hb dJ6_numberOfTrailingZeros_0f7a4_35 (by decide) ?_
  refine lv_icmp_le (tgt := 49) hx hb dJ6_numberOfTrailingZeros_0f7a4_38 (by decide) (fun _ => ?_) (fun h => absurd (by decide) h)
  refine lv_iload_n hx hb dJ6_numberOfTrailingZeros_0f7a4_49 rfl (lv_at hl 1 rfl) ?_
  refine lv_bipush (v := 16) hx hb dJ6_numberOfTrailingZeros_0f7a4_50 (by decide) ?_
  refine lv_icmp_le (tgt := 62) hx hb dJ6_numberOfTrailingZeros_0f7a4_52 (by decide) (fun _ => ?_) (fun h => absurd (by decide) h)
  refine lv_iload_n hx hb dJ6_numberOfTrailingZeros_0f7a4_62 rfl (lv_at hl 1 rfl) ?_
  refine lv_iconst (v := 4) hx hb dJ6_numberOfTrailingZeros_0f7a4_63 (by decide) ?_
  refine lv_icmp_le (tgt := 74) hx hb dJ6_numberOfTrailingZeros_0f7a4_64 (by decide) (fun _ => ?_) (fun h => absurd (by decide) h)
  refine lv_iload_n hx hb dJ6_numberOfTrailingZeros_0f7a4_74 rfl (lv_at hl 0 rfl) ?_
  refine lv_iload_n hx hb dJ6_numberOfTrailingZeros_0f7a4_75 rfl (lv_at hl 1 rfl) ?_
  refine lv_iconst (v := 1) hx hb dJ6_numberOfTrailingZeros_0f7a4_76 (by decide) ?_
  refine lv_iushr (v := 1) hx hb dJ6_numberOfTrailingZeros_0f7a4_77 (by decide) ?_
  refine lv_iadd hx hb dJ6_numberOfTrailingZeros_0f7a4_78 ?_
  refine z_i (v := 2) (by decide) ?_
  exact rd_i hx hb hr hlocks (rfl) dJ6_numberOfTrailingZeros_0f7a4_79
set_option maxHeartbeats 4000000 in
set_option maxRecDepth 100000 in
theorem j_ntz3 {l : Launch} : RdE l yJ6_numberOfTrailingZeros_0f7a4 cJ6_numberOfTrailingZeros_0f7a4 2 (some .int) 0 (fun _ => True) [.int 8] (.int 3) := by
  refine RdE.of (by decide) (Nat.le_of_ble_eq_true rfl) ?_
  intro p e s m below meth c ls hx hb hr hml hown hts hlocks hE hl
  have hown : s.vm.findClass "java/lang/Integer" = some m.cls := hown
  have hl : lv_has ls 2 [(0, .int 8)] := hl
  refine lv_iload_n hx hb dJ6_numberOfTrailingZeros_0f7a4_0 rfl (lv_at hl 0 rfl) ?_
  refine lv_iconst (v := (-1)) hx hb dJ6_numberOfTrailingZeros_0f7a4_1 (by decide) ?_
  refine lv_ixor hx hb dJ6_numberOfTrailingZeros_0f7a4_2 ?_
  refine z_i (v := (-9)) (by decide) ?_
  refine lv_iload_n hx hb dJ6_numberOfTrailingZeros_0f7a4_3 rfl (lv_at hl 0 rfl) ?_
  refine lv_iconst (v := 1) hx hb dJ6_numberOfTrailingZeros_0f7a4_4 (by decide) ?_
  refine lv_isub hx hb dJ6_numberOfTrailingZeros_0f7a4_5 ?_
  refine z_i (v := 7) (by decide) ?_
  refine lv_iand hx hb dJ6_numberOfTrailingZeros_0f7a4_6 ?_
  refine z_i (v := 7) (by decide) ?_
  refine lv_istore_n (lv' := [(0, .int 7)]) hx hb dJ6_numberOfTrailingZeros_0f7a4_7 rfl hl (by decide) rfl (fun ls hl => ?_)
  refine lv_iload_n hx hb dJ6_numberOfTrailingZeros_0f7a4_8 rfl (lv_at hl 0 rfl) ?_
  refine lv_if_gt (tgt := 17) hx hb dJ6_numberOfTrailingZeros_0f7a4_9 (by decide) (fun _ => ?_) (fun h => absurd (by decide) h)
  refine lv_iconst (v := 1) hx hb dJ6_numberOfTrailingZeros_0f7a4_17 (by decide) ?_
  refine lv_istore_n (lv' := [(1, .int 1), (0, .int 7)]) hx hb dJ6_numberOfTrailingZeros_0f7a4_18 rfl hl (by decide) rfl (fun ls hl => ?_)
  refine lv_iload_n hx hb dJ6_numberOfTrailingZeros_0f7a4_19 rfl (lv_at hl 1 rfl) ?_
  refine lv_ldcw (v := 65536) hx hb hown (hts _ kw_706) dJ6_numberOfTrailingZeros_0f7a4_20 ?_
  refine lv_icmp_le (tgt := 34) hx hb dJ6_numberOfTrailingZeros_0f7a4_23 (by decide) (fun _ => ?_) (fun h => absurd (by decide) h)
  refine lv_iload_n hx hb dJ6_numberOfTrailingZeros_0f7a4_34 rfl (lv_at hl 1 rfl) ?_
  refine lv_sipush (v := 256) hx hb dJ6_numberOfTrailingZeros_0f7a4_35 (by decide) ?_
  refine lv_icmp_le (tgt := 49) hx hb dJ6_numberOfTrailingZeros_0f7a4_38 (by decide) (fun _ => ?_) (fun h => absurd (by decide) h)
  refine lv_iload_n hx hb dJ6_numberOfTrailingZeros_0f7a4_49 rfl (lv_at hl 1 rfl) ?_
  refine lv_bipush (v := 16) hx hb dJ6_numberOfTrailingZeros_0f7a4_50 (by decide) ?_
  refine lv_icmp_le (tgt := 62) hx hb dJ6_numberOfTrailingZeros_0f7a4_52 (by decide) (fun _ => ?_) (fun h => absurd (by decide) h)
  refine lv_iload_n hx hb dJ6_numberOfTrailingZeros_0f7a4_62 rfl (lv_at hl 1 rfl) ?_
  refine lv_iconst (v := 4) hx hb dJ6_numberOfTrailingZeros_0f7a4_63 (by decide) ?_
  refine lv_icmp_le (tgt := 74) hx hb dJ6_numberOfTrailingZeros_0f7a4_64 (by decide) (fun h => absurd h (by decide)) (fun _ => ?_)
  refine lv_iinc (v := 3) (lv' := [(1, .int 3), (0, .int 7)]) hx hb dJ6_numberOfTrailingZeros_0f7a4_67 hl (k := 0) rfl (by decide) (by decide) rfl (fun ls hl => ?_)
  refine lv_iload_n hx hb dJ6_numberOfTrailingZeros_0f7a4_70 rfl (lv_at hl 1 rfl) ?_
  refine lv_iconst (v := 2) hx hb dJ6_numberOfTrailingZeros_0f7a4_71 (by decide) ?_
  refine lv_iushr (v := 1) hx hb dJ6_numberOfTrailingZeros_0f7a4_72 (by decide) ?_
  refine lv_istore_n (lv' := [(0, .int 1), (1, .int 3)]) hx hb dJ6_numberOfTrailingZeros_0f7a4_73 rfl hl (by decide) rfl (fun ls hl => ?_)
  refine lv_iload_n hx hb dJ6_numberOfTrailingZeros_0f7a4_74 rfl (lv_at hl 1 rfl) ?_
  refine lv_iload_n hx hb dJ6_numberOfTrailingZeros_0f7a4_75 rfl (lv_at hl 0 rfl) ?_
  refine lv_iconst (v := 1) hx hb dJ6_numberOfTrailingZeros_0f7a4_76 (by decide) ?_
  refine lv_iushr (v := 0) hx hb dJ6_numberOfTrailingZeros_0f7a4_77 (by decide) ?_
  refine lv_iadd hx hb dJ6_numberOfTrailingZeros_0f7a4_78 ?_
  refine z_i (v := 3) (by decide) ?_
  exact rd_i hx hb hr hlocks (rfl) dJ6_numberOfTrailingZeros_0f7a4_79
set_option maxHeartbeats 4000000 in
set_option maxRecDepth 100000 in
theorem j_ntz4 {l : Launch} : RdE l yJ6_numberOfTrailingZeros_0f7a4 cJ6_numberOfTrailingZeros_0f7a4 2 (some .int) 0 (fun _ => True) [.int 16] (.int 4) := by
  refine RdE.of (by decide) (Nat.le_of_ble_eq_true rfl) ?_
  intro p e s m below meth c ls hx hb hr hml hown hts hlocks hE hl
  have hown : s.vm.findClass "java/lang/Integer" = some m.cls := hown
  have hl : lv_has ls 2 [(0, .int 16)] := hl
  refine lv_iload_n hx hb dJ6_numberOfTrailingZeros_0f7a4_0 rfl (lv_at hl 0 rfl) ?_
  refine lv_iconst (v := (-1)) hx hb dJ6_numberOfTrailingZeros_0f7a4_1 (by decide) ?_
  refine lv_ixor hx hb dJ6_numberOfTrailingZeros_0f7a4_2 ?_
  refine z_i (v := (-17)) (by decide) ?_
  refine lv_iload_n hx hb dJ6_numberOfTrailingZeros_0f7a4_3 rfl (lv_at hl 0 rfl) ?_
  refine lv_iconst (v := 1) hx hb dJ6_numberOfTrailingZeros_0f7a4_4 (by decide) ?_
  refine lv_isub hx hb dJ6_numberOfTrailingZeros_0f7a4_5 ?_
  refine z_i (v := 15) (by decide) ?_
  refine lv_iand hx hb dJ6_numberOfTrailingZeros_0f7a4_6 ?_
  refine z_i (v := 15) (by decide) ?_
  refine lv_istore_n (lv' := [(0, .int 15)]) hx hb dJ6_numberOfTrailingZeros_0f7a4_7 rfl hl (by decide) rfl (fun ls hl => ?_)
  refine lv_iload_n hx hb dJ6_numberOfTrailingZeros_0f7a4_8 rfl (lv_at hl 0 rfl) ?_
  refine lv_if_gt (tgt := 17) hx hb dJ6_numberOfTrailingZeros_0f7a4_9 (by decide) (fun _ => ?_) (fun h => absurd (by decide) h)
  refine lv_iconst (v := 1) hx hb dJ6_numberOfTrailingZeros_0f7a4_17 (by decide) ?_
  refine lv_istore_n (lv' := [(1, .int 1), (0, .int 15)]) hx hb dJ6_numberOfTrailingZeros_0f7a4_18 rfl hl (by decide) rfl (fun ls hl => ?_)
  refine lv_iload_n hx hb dJ6_numberOfTrailingZeros_0f7a4_19 rfl (lv_at hl 1 rfl) ?_
  refine lv_ldcw (v := 65536) hx hb hown (hts _ kw_706) dJ6_numberOfTrailingZeros_0f7a4_20 ?_
  refine lv_icmp_le (tgt := 34) hx hb dJ6_numberOfTrailingZeros_0f7a4_23 (by decide) (fun _ => ?_) (fun h => absurd (by decide) h)
  refine lv_iload_n hx hb dJ6_numberOfTrailingZeros_0f7a4_34 rfl (lv_at hl 1 rfl) ?_
  refine lv_sipush (v := 256) hx hb dJ6_numberOfTrailingZeros_0f7a4_35 (by decide) ?_
  refine lv_icmp_le (tgt := 49) hx hb dJ6_numberOfTrailingZeros_0f7a4_38 (by decide) (fun _ => ?_) (fun h => absurd (by decide) h)
  refine lv_iload_n hx hb dJ6_numberOfTrailingZeros_0f7a4_49 rfl (lv_at hl 1 rfl) ?_
  refine lv_bipush (v := 16) hx hb dJ6_numberOfTrailingZeros_0f7a4_50 (by decide) ?_
  refine lv_icmp_le (tgt := 62) hx hb dJ6_numberOfTrailingZeros_0f7a4_52 (by decide) (fun _ => ?_) (fun h => absurd (by decide) h)
  refine lv_iload_n hx hb dJ6_numberOfTrailingZeros_0f7a4_62 rfl (lv_at hl 1 rfl) ?_
  refine lv_iconst (v := 4) hx hb dJ6_numberOfTrailingZeros_0f7a4_63 (by decide) ?_
  refine lv_icmp_le (tgt := 74) hx hb dJ6_numberOfTrailingZeros_0f7a4_64 (by decide) (fun h => absurd h (by decide)) (fun _ => ?_)
  refine lv_iinc (v := 3) (lv' := [(1, .int 3), (0, .int 15)]) hx hb dJ6_numberOfTrailingZeros_0f7a4_67 hl (k := 0) rfl (by decide) (by decide) rfl (fun ls hl => ?_)
  refine lv_iload_n hx hb dJ6_numberOfTrailingZeros_0f7a4_70 rfl (lv_at hl 1 rfl) ?_
  refine lv_iconst (v := 2) hx hb dJ6_numberOfTrailingZeros_0f7a4_71 (by decide) ?_
  refine lv_iushr (v := 3) hx hb dJ6_numberOfTrailingZeros_0f7a4_72 (by decide) ?_
  refine lv_istore_n (lv' := [(0, .int 3), (1, .int 3)]) hx hb dJ6_numberOfTrailingZeros_0f7a4_73 rfl hl (by decide) rfl (fun ls hl => ?_)
  refine lv_iload_n hx hb dJ6_numberOfTrailingZeros_0f7a4_74 rfl (lv_at hl 1 rfl) ?_
  refine lv_iload_n hx hb dJ6_numberOfTrailingZeros_0f7a4_75 rfl (lv_at hl 0 rfl) ?_
  refine lv_iconst (v := 1) hx hb dJ6_numberOfTrailingZeros_0f7a4_76 (by decide) ?_
  refine lv_iushr (v := 1) hx hb dJ6_numberOfTrailingZeros_0f7a4_77 (by decide) ?_
  refine lv_iadd hx hb dJ6_numberOfTrailingZeros_0f7a4_78 ?_
  refine z_i (v := 4) (by decide) ?_
  exact rd_i hx hb hr hlocks (rfl) dJ6_numberOfTrailingZeros_0f7a4_79
set_option maxHeartbeats 4000000 in
set_option maxRecDepth 100000 in
theorem j_ntz5 {l : Launch} : RdE l yJ6_numberOfTrailingZeros_0f7a4 cJ6_numberOfTrailingZeros_0f7a4 2 (some .int) 0 (fun _ => True) [.int 32] (.int 5) := by
  refine RdE.of (by decide) (Nat.le_of_ble_eq_true rfl) ?_
  intro p e s m below meth c ls hx hb hr hml hown hts hlocks hE hl
  have hown : s.vm.findClass "java/lang/Integer" = some m.cls := hown
  have hl : lv_has ls 2 [(0, .int 32)] := hl
  refine lv_iload_n hx hb dJ6_numberOfTrailingZeros_0f7a4_0 rfl (lv_at hl 0 rfl) ?_
  refine lv_iconst (v := (-1)) hx hb dJ6_numberOfTrailingZeros_0f7a4_1 (by decide) ?_
  refine lv_ixor hx hb dJ6_numberOfTrailingZeros_0f7a4_2 ?_
  refine z_i (v := (-33)) (by decide) ?_
  refine lv_iload_n hx hb dJ6_numberOfTrailingZeros_0f7a4_3 rfl (lv_at hl 0 rfl) ?_
  refine lv_iconst (v := 1) hx hb dJ6_numberOfTrailingZeros_0f7a4_4 (by decide) ?_
  refine lv_isub hx hb dJ6_numberOfTrailingZeros_0f7a4_5 ?_
  refine z_i (v := 31) (by decide) ?_
  refine lv_iand hx hb dJ6_numberOfTrailingZeros_0f7a4_6 ?_
  refine z_i (v := 31) (by decide) ?_
  refine lv_istore_n (lv' := [(0, .int 31)]) hx hb dJ6_numberOfTrailingZeros_0f7a4_7 rfl hl (by decide) rfl (fun ls hl => ?_)
  refine lv_iload_n hx hb dJ6_numberOfTrailingZeros_0f7a4_8 rfl (lv_at hl 0 rfl) ?_
  refine lv_if_gt (tgt := 17) hx hb dJ6_numberOfTrailingZeros_0f7a4_9 (by decide) (fun _ => ?_) (fun h => absurd (by decide) h)
  refine lv_iconst (v := 1) hx hb dJ6_numberOfTrailingZeros_0f7a4_17 (by decide) ?_
  refine lv_istore_n (lv' := [(1, .int 1), (0, .int 31)]) hx hb dJ6_numberOfTrailingZeros_0f7a4_18 rfl hl (by decide) rfl (fun ls hl => ?_)
  refine lv_iload_n hx hb dJ6_numberOfTrailingZeros_0f7a4_19 rfl (lv_at hl 1 rfl) ?_
  refine lv_ldcw (v := 65536) hx hb hown (hts _ kw_706) dJ6_numberOfTrailingZeros_0f7a4_20 ?_
  refine lv_icmp_le (tgt := 34) hx hb dJ6_numberOfTrailingZeros_0f7a4_23 (by decide) (fun _ => ?_) (fun h => absurd (by decide) h)
  refine lv_iload_n hx hb dJ6_numberOfTrailingZeros_0f7a4_34 rfl (lv_at hl 1 rfl) ?_
  refine lv_sipush (v := 256) hx hb dJ6_numberOfTrailingZeros_0f7a4_35 (by decide) ?_
  refine lv_icmp_le (tgt := 49) hx hb dJ6_numberOfTrailingZeros_0f7a4_38 (by decide) (fun _ => ?_) (fun h => absurd (by decide) h)
  refine lv_iload_n hx hb dJ6_numberOfTrailingZeros_0f7a4_49 rfl (lv_at hl 1 rfl) ?_
  refine lv_bipush (v := 16) hx hb dJ6_numberOfTrailingZeros_0f7a4_50 (by decide) ?_
  refine lv_icmp_le (tgt := 62) hx hb dJ6_numberOfTrailingZeros_0f7a4_52 (by decide) (fun h => absurd h (by decide)) (fun _ => ?_)
  refine lv_iinc (v := 5) (lv' := [(1, .int 5), (0, .int 31)]) hx hb dJ6_numberOfTrailingZeros_0f7a4_55 hl (k := 0) rfl (by decide) (by decide) rfl (fun ls hl => ?_)
  refine lv_iload_n hx hb dJ6_numberOfTrailingZeros_0f7a4_58 rfl (lv_at hl 1 rfl) ?_
  refine lv_iconst (v := 4) hx hb dJ6_numberOfTrailingZeros_0f7a4_59 (by decide) ?_
  refine lv_iushr (v := 1) hx hb dJ6_numberOfTrailingZeros_0f7a4_60 (by decide) ?_
  refine lv_istore_n (lv' := [(0, .int 1), (1, .int 5)]) hx hb dJ6_numberOfTrailingZeros_0f7a4_61 rfl hl (by decide) rfl (fun ls hl => ?_)
  refine lv_iload_n hx hb dJ6_numberOfTrailingZeros_0f7a4_62 rfl (lv_at hl 0 rfl) ?_
  refine lv_iconst (v := 4) hx hb dJ6_numberOfTrailingZeros_0f7a4_63 (by decide) ?_
  refine lv_icmp_le (tgt := 74) hx hb dJ6_numberOfTrailingZeros_0f7a4_64 (by decide) (fun _ => ?_) (fun h => absurd (by decide) h)
  refine lv_iload_n hx hb dJ6_numberOfTrailingZeros_0f7a4_74 rfl (lv_at hl 1 rfl) ?_
  refine lv_iload_n hx hb dJ6_numberOfTrailingZeros_0f7a4_75 rfl (lv_at hl 0 rfl) ?_
  refine lv_iconst (v := 1) hx hb dJ6_numberOfTrailingZeros_0f7a4_76 (by decide) ?_
  refine lv_iushr (v := 0) hx hb dJ6_numberOfTrailingZeros_0f7a4_77 (by decide) ?_
  refine lv_iadd hx hb dJ6_numberOfTrailingZeros_0f7a4_78 ?_
  refine z_i (v := 5) (by decide) ?_
  exact rd_i hx hb hr hlocks (rfl) dJ6_numberOfTrailingZeros_0f7a4_79
set_option maxHeartbeats 4000000 in
set_option maxRecDepth 100000 in
theorem j_ntz6 {l : Launch} : RdE l yJ6_numberOfTrailingZeros_0f7a4 cJ6_numberOfTrailingZeros_0f7a4 2 (some .int) 0 (fun _ => True) [.int 64] (.int 6) := by
  refine RdE.of (by decide) (Nat.le_of_ble_eq_true rfl) ?_
  intro p e s m below meth c ls hx hb hr hml hown hts hlocks hE hl
  have hown : s.vm.findClass "java/lang/Integer" = some m.cls := hown
  have hl : lv_has ls 2 [(0, .int 64)] := hl
  refine lv_iload_n hx hb dJ6_numberOfTrailingZeros_0f7a4_0 rfl (lv_at hl 0 rfl) ?_
  refine lv_iconst (v := (-1)) hx hb dJ6_numberOfTrailingZeros_0f7a4_1 (by decide) ?_
  refine lv_ixor hx hb dJ6_numberOfTrailingZeros_0f7a4_2 ?_
  refine z_i (v := (-65)) (by decide) ?_
  refine lv_iload_n hx hb dJ6_numberOfTrailingZeros_0f7a4_3 rfl (lv_at hl 0 rfl) ?_
  refine lv_iconst (v := 1) hx hb dJ6_numberOfTrailingZeros_0f7a4_4 (by decide) ?_
  refine lv_isub hx hb dJ6_numberOfTrailingZeros_0f7a4_5 ?_
  refine z_i (v := 63) (by decide) ?_
  refine lv_iand hx hb dJ6_numberOfTrailingZeros_0f7a4_6 ?_
  refine z_i (v := 63) (by decide) ?_
  refine lv_istore_n (lv' := [(0, .int 63)]) hx hb dJ6_numberOfTrailingZeros_0f7a4_7 rfl hl (by decide) rfl (fun ls hl => ?_)
  refine lv_iload_n hx hb dJ6_numberOfTrailingZeros_0f7a4_8 rfl (lv_at hl 0 rfl) ?_
  refine lv_if_gt (tgt := 17) hx hb dJ6_numberOfTrailingZeros_0f7a4_9 (by decide) (fun _ => ?_) (fun h => absurd (by decide) h)
  refine lv_iconst (v := 1) hx hb dJ6_numberOfTrailingZeros_0f7a4_17 (by decide) ?_
  refine lv_istore_n (lv' := [(1, .int 1), (0, .int 63)]) hx hb dJ6_numberOfTrailingZeros_0f7a4_18 rfl hl (by decide) rfl (fun ls hl => ?_)
  refine lv_iload_n hx hb dJ6_numberOfTrailingZeros_0f7a4_19 rfl (lv_at hl 1 rfl) ?_
  refine lv_ldcw (v := 65536) hx hb hown (hts _ kw_706) dJ6_numberOfTrailingZeros_0f7a4_20 ?_
  refine lv_icmp_le (tgt := 34) hx hb dJ6_numberOfTrailingZeros_0f7a4_23 (by decide) (fun _ => ?_) (fun h => absurd (by decide) h)
  refine lv_iload_n hx hb dJ6_numberOfTrailingZeros_0f7a4_34 rfl (lv_at hl 1 rfl) ?_
  refine lv_sipush (v := 256) hx hb dJ6_numberOfTrailingZeros_0f7a4_35 (by decide) ?_
  refine lv_icmp_le (tgt := 49) hx hb dJ6_numberOfTrailingZeros_0f7a4_38 (by decide) (fun _ => ?_) (fun h => absurd (by decide) h)
  refine lv_iload_n hx hb dJ6_numberOfTrailingZeros_0f7a4_49 rfl (lv_at hl 1 rfl) ?_
  refine lv_bipush (v := 16) hx hb dJ6_numberOfTrailingZeros_0f7a4_50 (by decide) ?_
  refine lv_icmp_le (tgt := 62) hx hb dJ6_numberOfTrailingZeros_0f7a4_52 (by decide) (fun h => absurd h (by decide)) (fun _ => ?_)
  refine lv_iinc (v := 5) (lv' := [(1, .int 5), (0, .int 63)]) hx hb dJ6_numberOfTrailingZeros_0f7a4_55 hl (k := 0) rfl (by decide) (by decide) rfl (fun ls hl => ?_)
  refine lv_iload_n hx hb dJ6_numberOfTrailingZeros_0f7a4_58 rfl (lv_at hl 1 rfl) ?_
  refine lv_iconst (v := 4) hx hb dJ6_numberOfTrailingZeros_0f7a4_59 (by decide) ?_
  refine lv_iushr (v := 3) hx hb dJ6_numberOfTrailingZeros_0f7a4_60 (by decide) ?_
  refine lv_istore_n (lv' := [(0, .int 3), (1, .int 5)]) hx hb dJ6_numberOfTrailingZeros_0f7a4_61 rfl hl (by decide) rfl (fun ls hl => ?_)
  refine lv_iload_n hx hb dJ6_numberOfTrailingZeros_0f7a4_62 rfl (lv_at hl 0 rfl) ?_
  refine lv_iconst (v := 4) hx hb dJ6_numberOfTrailingZeros_0f7a4_63 (by decide) ?_
  refine lv_icmp_le (tgt := 74) hx hb dJ6_numberOfTrailingZeros_0f7a4_64 (by decide) (fun _ => ?_) (fun h => absurd (by decide) h)
  refine lv_iload_n hx hb dJ6_numberOfTrailingZeros_0f7a4_74 rfl (lv_at hl 1 rfl) ?_
  refine lv_iload_n hx hb dJ6_numberOfTrailingZeros_0f7a4_75 rfl (lv_at hl 0 rfl) ?_
  refine lv_iconst (v := 1) hx hb dJ6_numberOfTrailingZeros_0f7a4_76 (by decide) ?_
  refine lv_iushr (v := 1) hx hb dJ6_numberOfTrailingZeros_0f7a4_77 (by decide) ?_
  refine lv_iadd hx hb dJ6_numberOfTrailingZeros_0f7a4_78 ?_
  refine z_i (v := 6) (by decide) ?_
  exact rd_i hx hb hr hlocks (rfl) dJ6_numberOfTrailingZeros_0f7a4_79
set_option maxHeartbeats 4000000 in
set_option maxRecDepth 100000 in
theorem j_ntz7 {l : Launch} : RdE l yJ6_numberOfTrailingZeros_0f7a4 cJ6_numberOfTrailingZeros_0f7a4 2 (some .int) 0 (fun _ => True) [.int 128] (.int 7) := by
  refine RdE.of (by decide) (Nat.le_of_ble_eq_true rfl) ?_
  intro p e s m below meth c ls hx hb hr hml hown hts hlocks hE hl
  have hown : s.vm.findClass "java/lang/Integer" = some m.cls := hown
  have hl : lv_has ls 2 [(0, .int 128)] := hl
  refine lv_iload_n hx hb dJ6_numberOfTrailingZeros_0f7a4_0 rfl (lv_at hl 0 rfl) ?_
  refine lv_iconst (v := (-1)) hx hb dJ6_numberOfTrailingZeros_0f7a4_1 (by decide) ?_
  refine lv_ixor hx hb dJ6_numberOfTrailingZeros_0f7a4_2 ?_
  refine z_i (v := (-129)) (by decide) ?_
  refine lv_iload_n hx hb dJ6_numberOfTrailingZeros_0f7a4_3 rfl (lv_at hl 0 rfl) ?_
  refine lv_iconst (v := 1) hx hb dJ6_numberOfTrailingZeros_0f7a4_4 (by decide) ?_
  refine lv_isub hx hb dJ6_numberOfTrailingZeros_0f7a4_5 ?_
  refine z_i (v := 127) (by decide) ?_
  refine lv_iand hx hb dJ6_numberOfTrailingZeros_0f7a4_6 ?_
  refine z_i (v := 127) (by decide) ?_
  refine lv_istore_n (lv' := [(0, .int 127)]) hx hb dJ6_numberOfTrailingZeros_0f7a4_7 rfl hl (by decide) rfl (fun ls hl => ?_)
  refine lv_iload_n hx hb dJ6_numberOfTrailingZeros_0f7a4_8 rfl (lv_at hl 0 rfl) ?_
  refine lv_if_gt (tgt := 17) hx hb dJ6_numberOfTrailingZeros_0f7a4_9 (by decide) (fun _ => ?_) (fun h => absurd (by decide) h)
  refine lv_iconst (v := 1) hx hb dJ6_numberOfTrailingZeros_0f7a4_17 (by decide) ?_
  refine lv_istore_n (lv' := [(1, .int 1), (0, .int 127)]) hx hb dJ6_numberOfTrailingZeros_0f7a4_18 rfl hl (by decide) rfl (fun ls hl => ?_)
  refine lv_iload_n hx hb dJ6_numberOfTrailingZeros_0f7a4_19 rfl (lv_at hl 1 rfl) ?_
  refine lv_ldcw (v := 65536) hx hb hown (hts _ kw_706) dJ6_numberOfTrailingZeros_0f7a4_20 ?_
  refine lv_icmp_le (tgt := 34) hx hb dJ6_numberOfTrailingZeros_0f7a4_23 (by decide) (fun _ => ?_) (fun h => absurd (by decide) h)
  refine lv_iload_n hx hb dJ6_numberOfTrailingZeros_0f7a4_34 rfl (lv_at hl 1 rfl) ?_
  refine lv_sipush (v := 256) hx hb dJ6_numberOfTrailingZeros_0f7a4_35 (by decide) ?_
  refine lv_icmp_le (tgt := 49) hx hb dJ6_numberOfTrailingZeros_0f7a4_38 (by decide) (fun _ => ?_) (fun h => absurd (by decide) h)
  refine lv_iload_n hx hb dJ6_numberOfTrailingZeros_0f7a4_49 rfl (lv_at hl 1 rfl) ?_
  refine lv_bipush (v := 16) hx hb dJ6_numberOfTrailingZeros_0f7a4_50 (by decide) ?_
  refine lv_icmp_le (tgt := 62) hx hb dJ6_numberOfTrailingZeros_0f7a4_52 (by decide) (fun h => absurd h (by decide)) (fun _ => ?_)
  refine lv_iinc (v := 5) (lv' := [(1, .int 5), (0, .int 127)]) hx hb dJ6_numberOfTrailingZeros_0f7a4_55 hl (k := 0) rfl (by decide) (by decide) rfl (fun ls hl => ?_)
  refine lv_iload_n hx hb dJ6_numberOfTrailingZeros_0f7a4_58 rfl (lv_at hl 1 rfl) ?_
  refine lv_iconst (v := 4) hx hb dJ6_numberOfTrailingZeros_0f7a4_59 (by decide) ?_
  refine lv_iushr (v := 7) hx hb dJ6_numberOfTrailingZeros_0f7a4_60 (by decide) ?_
  refine lv_istore_n (lv' := [(0, .int 7), (1, .int 5)]) hx hb dJ6_numberOfTrailingZeros_0f7a4_61 rfl hl (by decide) rfl (fun ls hl => ?_)
  refine lv_iload_n hx hb dJ6_numberOfTrailingZeros_0f7a4_62 rfl (lv_at hl 0 rfl) ?_
  refine lv_iconst (v := 4) hx hb dJ6_numberOfTrailingZeros_0f7a4_63 (by decide) ?_
  refine lv_icmp_le (tgt := 74) hx hb dJ6_numberOfTrailingZeros_0f7a4_64 (by decide) (fun h => absurd h (by decide)) (fun _ => ?_)
  refine lv_iinc (v := 7) (lv' := [(1, .int 7), (0, .int 7)]) hx hb dJ6_numberOfTrailingZeros_0f7a4_67 hl (k := 1) rfl (by decide) (by decide) rfl (fun ls hl => ?_)
  refine lv_iload_n hx hb dJ6_numberOfTrailingZeros_0f7a4_70 rfl (lv_at hl 1 rfl) ?_
  refine lv_iconst (v := 2) hx hb dJ6_numberOfTrailingZeros_0f7a4_71 (by decide) ?_
  refine lv_iushr (v := 1) hx hb dJ6_numberOfTrailingZeros_0f7a4_72 (by decide) ?_
  refine lv_istore_n (lv' := [(0, .int 1), (1, .int 7)]) hx hb dJ6_numberOfTrailingZeros_0f7a4_73 rfl hl (by decide) rfl (fun ls hl => ?_)
  refine lv_iload_n hx hb dJ6_numberOfTrailingZeros_0f7a4_74 rfl (lv_at hl 1 rfl) ?_
  refine lv_iload_n hx hb dJ6_numberOfTrailingZeros_0f7a4_75 rfl (lv_at hl 0 rfl) ?_
  refine lv_iconst (v := 1) hx hb dJ6_numberOfTrailingZeros_0f7a4_76 (by decide) ?_
  refine lv_iushr (v := 0) hx hb dJ6_numberOfTrailingZeros_0f7a4_77 (by decide) ?_
  refine lv_iadd hx hb dJ6_numberOfTrailingZeros_0f7a4_78 ?_
  refine z_i (v := 7) (by decide) ?_
  exact rd_i hx hb hr hlocks (rfl) dJ6_numberOfTrailingZeros_0f7a4_79
set_option maxHeartbeats 4000000 in
set_option maxRecDepth 100000 in
theorem j_ntz8 {l : Launch} : RdE l yJ6_numberOfTrailingZeros_0f7a4 cJ6_numberOfTrailingZeros_0f7a4 2 (some .int) 0 (fun _ => True) [.int 256] (.int 8) := by
  refine RdE.of (by decide) (Nat.le_of_ble_eq_true rfl) ?_
  intro p e s m below meth c ls hx hb hr hml hown hts hlocks hE hl
  have hown : s.vm.findClass "java/lang/Integer" = some m.cls := hown
  have hl : lv_has ls 2 [(0, .int 256)] := hl
  refine lv_iload_n hx hb dJ6_numberOfTrailingZeros_0f7a4_0 rfl (lv_at hl 0 rfl) ?_
  refine lv_iconst (v := (-1)) hx hb dJ6_numberOfTrailingZeros_0f7a4_1 (by decide) ?_
  refine lv_ixor hx hb dJ6_numberOfTrailingZeros_0f7a4_2 ?_
  refine z_i (v := (-257)) (by decide) ?_
  refine lv_iload_n hx hb dJ6_numberOfTrailingZeros_0f7a4_3 rfl (lv_at hl 0 rfl) ?_
  refine lv_iconst (v := 1) hx hb dJ6_numberOfTrailingZeros_0f7a4_4 (by decide) ?_
  refine lv_isub hx hb dJ6_numberOfTrailingZeros_0f7a4_5 ?_
  refine z_i (v := 255) (by decide) ?_
  refine lv_iand hx hb dJ6_numberOfTrailingZeros_0f7a4_6 ?_
  refine z_i (v := 255) (by decide) ?_
  refine lv_istore_n (lv' := [(0, .int 255)]) hx hb dJ6_numberOfTrailingZeros_0f7a4_7 rfl hl (by decide) rfl (fun ls hl => ?_)
  refine lv_iload_n hx hb dJ6_numberOfTrailingZeros_0f7a4_8 rfl (lv_at hl 0 rfl) ?_
  refine lv_if_gt (tgt := 17) hx hb dJ6_numberOfTrailingZeros_0f7a4_9 (by decide) (fun _ => ?_) (fun h => absurd (by decide) h)
  refine lv_iconst (v := 1) hx hb dJ6_numberOfTrailingZeros_0f7a4_17 (by decide) ?_
  refine lv_istore_n (lv' := [(1, .int 1), (0, .int 255)]) hx hb dJ6_numberOfTrailingZeros_0f7a4_18 rfl hl (by decide) rfl (fun ls hl => ?_)
  refine lv_iload_n hx hb dJ6_numberOfTrailingZeros_0f7a4_19 rfl (lv_at hl 1 rfl) ?_
  refine lv_ldcw (v := 65536) hx hb hown (hts _ kw_706) dJ6_numberOfTrailingZeros_0f7a4_20 ?_
  refine lv_icmp_le (tgt := 34) hx hb dJ6_numberOfTrailingZeros_0f7a4_23 (by decide) (fun _ => ?_) (fun h => absurd (by decide) h)
  refine lv_iload_n hx hb dJ6_numberOfTrailingZeros_0f7a4_34 rfl (lv_at hl 1 rfl) ?_
  refine lv_sipush (v := 256) hx hb dJ6_numberOfTrailingZeros_0f7a4_35 (by decide) ?_
  refine lv_icmp_le (tgt := 49) hx hb dJ6_numberOfTrailingZeros_0f7a4_38 (by decide) (fun _ => ?_) (fun h => absurd (by decide) h)
  refine lv_iload_n hx hb dJ6_numberOfTrailingZeros_0f7a4_49 rfl (lv_at hl 1 rfl) ?_
  refine lv_bipush (v := 16) hx hb dJ6_numberOfTrailingZeros_0f7a4_50 (by decide) ?_
  refine lv_icmp_le (tgt := 62) hx hb dJ6_numberOfTrailingZeros_0f7a4_52 (by decide) (fun h => absurd h (by decide)) (fun _ => ?_)
  refine lv_iinc (v := 5) (lv' := [(1, .int 5), (0, .int 255)]) hx hb dJ6_numberOfTrailingZeros_0f7a4_55 hl (k := 0) rfl (by decide) (by decide) rfl (fun ls hl => ?_)
  refine lv_iload_n hx hb dJ6_numberOfTrailingZeros_0f7a4_58 rfl (lv_at hl 1 rfl) ?_
  refine lv_iconst (v := 4) hx hb dJ6_numberOfTrailingZeros_0f7a4_59 (by decide) ?_
  refine lv_iushr (v := 15) hx hb dJ6_numberOfTrailingZeros_0f7a4_60 (by decide) ?_
  refine lv_istore_n (lv' := [(0, .int 15), (1, .int 5)]) hx hb dJ6_numberOfTrailingZeros_0f7a4_61 rfl hl (by decide) rfl (fun ls hl => ?_)
  refine lv_iload_n hx hb dJ6_numberOfTrailingZeros_0f7a4_62 rfl (lv_at hl 0 rfl) ?_
  refine lv_iconst (v := 4) hx hb dJ6_numberOfTrailingZeros_0f7a4_63 (by decide) ?_
  refine lv_icmp_le (tgt := 74) hx hb dJ6_numberOfTrailingZeros_0f7a4_64 (by decide) (fun h => absurd h (by decide)) (fun _ => ?_)
  refine lv_iinc (v := 7) (lv' := [(1, .int 7), (0, .int 15)]) hx hb dJ6_numberOfTrailingZeros_0f7a4_67 hl (k := 1) rfl (by decide) (by decide) rfl (fun ls hl => ?_)
  refine lv_iload_n hx hb dJ6_numberOfTrailingZeros_0f7a4_70 rfl (lv_at hl 1 rfl) ?_
  refine lv_iconst (v := 2) hx hb dJ6_numberOfTrailingZeros_0f7a4_71 (by decide) ?_
  refine lv_iushr (v := 3) hx hb dJ6_numberOfTrailingZeros_0f7a4_72 (by decide) ?_
  refine lv_istore_n (lv' := [(0, .int 3), (1, .int 7)]) hx hb dJ6_numberOfTrailingZeros_0f7a4_73 rfl hl (by decide) rfl (fun ls hl => ?_)
  refine lv_iload_n hx hb dJ6_numberOfTrailingZeros_0f7a4_74 rfl (lv_at hl 1 rfl) ?_
  refine lv_iload_n hx hb dJ6_numberOfTrailingZeros_0f7a4_75 rfl (lv_at hl 0 rfl) ?_
  refine lv_iconst (v := 1) hx hb dJ6_numberOfTrailingZeros_0f7a4_76 (by decide) ?_
  refine lv_iushr (v := 1) hx hb dJ6_numberOfTrailingZeros_0f7a4_77 (by decide) ?_
  refine lv_iadd hx hb dJ6_numberOfTrailingZeros_0f7a4_78 ?_
  refine z_i (v := 8) (by decide) ?_
  exact rd_i hx hb hr hlocks (rfl) dJ6_numberOfTrailingZeros_0f7a4_79
set_option maxHeartbeats 4000000 in
set_option maxRecDepth 100000 in
theorem j_ntz9 {l : Launch} : RdE l yJ6_numberOfTrailingZeros_0f7a4 cJ6_numberOfTrailingZeros_0f7a4 2 (some .int) 0 (fun _ => True) [.int 512] (.int 9) := by
  refine RdE.of (by decide) (Nat.le_of_ble_eq_true rfl) ?_
  intro p e s m below meth c ls hx hb hr hml hown hts hlocks hE hl
  have hown : s.vm.findClass "java/lang/Integer" = some m.cls := hown
  have hl : lv_has ls 2 [(0, .int 512)] := hl
  refine lv_iload_n hx hb dJ6_numberOfTrailingZeros_0f7a4_0 rfl (lv_at hl 0 rfl) ?_
  refine lv_iconst (v := (-1)) hx hb dJ6_numberOfTrailingZeros_0f7a4_1 (by decide) ?_
  refine lv_ixor hx hb dJ6_numberOfTrailingZeros_0f7a4_2 ?_
  refine z_i (v := (-513)) (by decide) ?_
  refine lv_iload_n hx hb dJ6_numberOfTrailingZeros_0f7a4_3 rfl (lv_at hl 0 rfl) ?_
  refine lv_iconst (v := 1) hx hb dJ6_numberOfTrailingZeros_0f7a4_4 (by decide) ?_
  refine lv_isub hx hb dJ6_numberOfTrailingZeros_0f7a4_5 ?_
  refine z_i (v := 511) (by decide) ?_
  refine lv_iand hx hb dJ6_numberOfTrailingZeros_0f7a4_6 ?_
  refine z_i (v := 511) (by decide) ?_
  refine lv_istore_n (lv' := [(0, .int 511)]) hx hb dJ6_numberOfTrailingZeros_0f7a4_7 rfl hl (by decide) rfl (fun ls hl => ?_)
  refine lv_iload_n hx hb dJ6_numberOfTrailingZeros_0f7a4_8 rfl (lv_at hl 0 rfl) ?_
  refine lv_if_gt (tgt := 17) hx hb dJ6_numberOfTrailingZeros_0f7a4_9 (by decide) (fun _ => ?_) (fun h => absurd (by decide) h)
  refine lv_iconst (v := 1) hx hb dJ6_numberOfTrailingZeros_0f7a4_17 (by decide) ?_
  refine lv_istore_n (lv' := [(1, .int 1), (0, .int 511)]) hx hb dJ6_numberOfTrailingZeros_0f7a4_18 rfl hl (by decide) rfl (fun ls hl => ?_)
  refine lv_iload_n hx hb dJ6_numberOfTrailingZeros_0f7a4_19 rfl (lv_at hl 1 rfl) ?_
  refine lv_ldcw (v := 65536) hx hb hown (hts _ kw_706) dJ6_numberOfTrailingZeros_0f7a4_20 ?_
  refine lv_icmp_le (tgt := 34) hx hb dJ6_numberOfTrailingZeros_0f7a4_23 (by decide) (fun _ => ?_) (fun h => absurd (by decide) h)
  refine lv_iload_n hx hb dJ6_numberOfTrailingZeros_0f7a4_34 rfl (lv_at hl 1 rfl) ?_
  refine lv_sipush (v := 256) hx hb dJ6_numberOfTrailingZeros_0f7a4_35 (by decide) ?_
  refine lv_icmp_le (tgt := 49) hx hb dJ6_numberOfTrailingZeros_0f7a4_38 (by decide) (fun h => absurd h (by decide)) (fun _ => ?_)
  refine lv_iinc (v := 9) (lv' := [(1, .int 9), (0, .int 511)]) hx hb dJ6_numberOfTrailingZeros_0f7a4_41 hl (k := 0) rfl (by decide) (by decide) rfl (fun ls hl => ?_)
  refine lv_iload_n hx hb dJ6_numberOfTrailingZeros_0f7a4_44 rfl (lv_at hl 1 rfl) ?_
  refine lv_bipush (v := 8) hx hb dJ6_numberOfTrailingZeros_0f7a4_45 (by decide) ?_
  refine lv_iushr (v := 1) hx hb dJ6_numberOfTrailingZeros_0f7a4_47 (by decide) ?_
  refine lv_istore_n (lv' := [(0, .int 1), (1, .int 9)]) hx hb dJ6_numberOfTrailingZeros_0f7a4_48 rfl hl (by decide) rfl (fun ls hl => ?_)
  refine lv_iload_n hx hb dJ6_numberOfTrailingZeros_0f7a4_49 rfl (lv_at hl 0 rfl) ?_
  refine lv_bipush (v := 16) hx hb dJ6_numberOfTrailingZeros_0f7a4_50 (by decide) ?_
  refine lv_icmp_le (tgt := 62) hx hb dJ6_numberOfTrailingZeros_0f7a4_52 (by decide) (fun _ => ?_) (fun h => absurd (by decide) h)
  refine lv_iload_n hx hb dJ6_numberOfTrailingZeros_0f7a4_62 rfl (lv_at hl 0 rfl) ?_
  refine lv_iconst (v := 4) hx hb dJ6_numberOfTrailingZeros_0f7a4_63 (by decide) ?_
  refine lv_icmp_le (tgt := 74) hx hb dJ6_numberOfTrailingZeros_0f7a4_64 (by decide) (fun _ => ?_) (fun h => absurd (by decide) h)
  refine lv_iload_n hx hb dJ6_numberOfTrailingZeros_0f7a4_74 rfl (lv_at hl 1 rfl) ?_
  refine lv_iload_n hx hb dJ6_numberOfTrailingZeros_0f7a4_75 rfl (lv_at hl 0 rfl) ?_
  refine lv_iconst (v := 1) hx hb dJ6_numberOfTrailingZeros_0f7a4_76 (by decide) ?_
  refine lv_iushr (v := 0) hx hb dJ6_numberOfTrailingZeros_0f7a4_77 (by decide) ?_
  refine lv_iadd hx hb dJ6_numberOfTrailingZeros_0f7a4_78 ?_
  refine z_i (v := 9) (by decide) ?_
  exact rd_i hx hb hr hlocks (rfl) dJ6_numberOfTrailingZeros_0f7a4_79
set_option maxHeartbeats 4000000 in
set_option maxRecDepth 100000 in
theorem j_ntz10 {l : Launch} : RdE l yJ6_numberOfTrailingZeros_0f7a4 cJ6_numberOfTrailingZeros_0f7a4 2 (some .int) 0 (fun _ => True) [.int 1024] (.int 10) := by
  refine RdE.of (by decide) (Nat.le_of_ble_eq_true rfl) ?_
  intro p e s m below meth c ls hx hb hr hml hown hts hlocks hE hl
  have hown : s.vm.findClass "java/lang/Integer" = some m.cls := hown
  have hl : lv_has ls 2 [(0, .int 1024)] := hl
  refine lv_iload_n hx hb dJ6_numberOfTrailingZeros_0f7a4_0 rfl (lv_at hl 0 rfl) ?_
  refine lv_iconst (v := (-1)) hx hb dJ6_numberOfTrailingZeros_0f7a4_1 (by decide) ?_
  refine lv_ixor hx hb dJ6_numberOfTrailingZeros_0f7a4_2 ?_
  refine z_i (v := (-1025)) (by decide) ?_
  refine lv_iload_n hx hb dJ6_numberOfTrailingZeros_0f7a4_3 rfl (lv_at hl 0 rfl) ?_
  refine lv_iconst (v := 1) hx hb dJ6_numberOfTrailingZeros_0f7a4_4 (by decide) ?_
  refine lv_isub hx hb dJ6_numberOfTrailingZeros_0f7a4_5 ?_
  refine z_i (v := 1023) (by decide) ?_
  refine lv_iand hx hb dJ6_numberOfTrailingZeros_0f7a4_6 ?_
  refine z_i (v := 1023) (by decide) ?_
  refine lv_istore_n (lv' := [(0, .int 1023)]) hx hb dJ6_numberOfTrailingZeros_0f7a4_7 rfl hl (by decide) rfl (fun ls hl => ?_)
  refine lv_iload_n hx hb dJ6_numberOfTrailingZeros_0f7a4_8 rfl (lv_at hl 0 rfl) ?_
  refine lv_if_gt (tgt := 17) hx hb dJ6_numberOfTrailingZeros_0f7a4_9 (by decide) (fun _ => ?_) (fun h => absurd (by decide) h)
  refine lv_iconst (v := 1) hx hb dJ6_numberOfTrailingZeros_0f7a4_17 (by decide) ?_
  refine lv_istore_n (lv' := [(1, .int 1), (0, .int 1023)]) hx hb dJ6_numberOfTrailingZeros_0f7a4_18 rfl hl (by decide) rfl (fun ls hl => ?_)
  refine lv_iload_n hx hb dJ6_numberOfTrailingZeros_0f7a4_19 rfl (lv_at hl 1 rfl) ?_
  refine lv_ldcw (v := 65536) hx hb hown (hts _ kw_706) dJ6_numberOfTrailingZeros_0f7a4_20 ?_
  refine lv_icmp_le (tgt := 34) hx hb dJ6_numberOfTrailingZeros_0f7a4_23 (by decide) (fun _ => ?_) (fun h => absurd (by decide) h)
  refine lv_iload_n hx hb dJ6_numberOfTrailingZeros_0f7a4_34 rfl (lv_at hl 1 rfl) ?_
  refine lv_sipush (v := 256) hx hb dJ6_numberOfTrailingZeros_0f7a4_35 (by decide) ?_
  refine lv_icmp_le (tgt := 49) hx hb dJ6_numberOfTrailingZeros_0f7a4_38 (by decide) (fun h => absurd h (by decide)) (fun _ => ?_)
  refine lv_iinc (v := 9) (lv' := [(1, .int 9), (0, .int 1023)]) hx hb dJ6_numberOfTrailingZeros_0f7a4_41 hl (k := 0) rfl (by decide) (by decide) rfl (fun ls hl => ?_)
  refine lv_iload_n hx hb dJ6_numberOfTrailingZeros_0f7a4_44 rfl (lv_at hl 1 rfl) ?_
  refine lv_bipush (v := 8) hx hb dJ6_numberOfTrailingZeros_0f7a4_45 (by decide) ?_
  refine lv_iushr (v := 3) hx hb dJ6_numberOfTrailingZeros_0f7a4_47 (by decide) ?_
  refine lv_istore_n (lv' := [(0, .int 3), (1, .int 9)]) hx hb dJ6_numberOfTrailingZeros_0f7a4_48 rfl hl (by decide) rfl (fun ls hl => ?_)
  refine lv_iload_n hx hb dJ6_numberOfTrailingZeros_0f7a4_49 rfl (lv_at hl 0 rfl) ?_
  refine lv_bipush (v := 16) hx hb dJ6_numberOfTrailingZeros_0f7a4_50 (by decide) ?_
  refine lv_icmp_le (tgt := 62) hx hb dJ6_numberOfTrailingZeros_0f7a4_52 (by decide) (fun _ => ?_) (fun h => absurd (by decide) h)
  refine lv_iload_n hx hb dJ6_numberOfTrailingZeros_0f7a4_62 rfl (lv_at hl 0 rfl) ?_
  refine lv_iconst (v := 4) hx hb dJ6_numberOfTrailingZeros_0f7a4_63 (by decide) ?_
  refine lv_icmp_le (tgt := 74) hx hb dJ6_numberOfTrailingZeros_0f7a4_64 (by decide) (fun _ => ?_) (fun h => absurd (by decide) h)
  refine lv_iload_n hx hb dJ6_numberOfTrailingZeros_0f7a4_74 rfl (lv_at hl 1 rfl) ?_
  refine lv_iload_n hx hb dJ6_numberOfTrailingZeros_0f7a4_75 rfl (lv_at hl 0 rfl) ?_
  refine lv_iconst (v := 1) hx hb dJ6_numberOfTrailingZeros_0f7a4_76 (by decide) ?_
  refine lv_iushr (v := 1) hx hb dJ6_numberOfTrailingZeros_0f7a4_77 (by decide) ?_
  refine lv_iadd hx hb dJ6_numberOfTrailingZeros_0f7a4_78 ?_
  refine z_i (v := 10) (by decide) ?_
  exact rd_i hx hb hr hlocks (rfl) dJ6_numberOfTrailingZeros_0f7a4_79
set_option maxHeartbeats 4000000 in
set_option maxRecDepth 100000 in
theorem j_ntz11 {l : Launch} : RdE l yJ6_numberOfTrailingZeros_0f7a4 cJ6_numberOfTrailingZeros_0f7a4 2 (some .int) 0 (fun _ => True) [.int 2048] (.int 11) := by
  refine RdE.of (by decide) (Nat.le_of_ble_eq_true rfl) ?_
  intro p e s m below meth c ls hx hb hr hml hown hts hlocks hE hl
  have hown : s.vm.findClass "java/lang/Integer" = some m.cls := hown
  have hl : lv_has ls 2 [(0, .int 2048)] := hl
  refine lv_iload_n hx hb dJ6_numberOfTrailingZeros_0f7a4_0 rfl (lv_at hl 0 rfl) ?_
  refine lv_iconst (v := (-1)) hx hb dJ6_numberOfTrailingZeros_0f7a4_1 (by decide) ?_
  refine lv_ixor hx hb dJ6_numberOfTrailingZeros_0f7a4_2 ?_
  refine z_i (v := (-2049)) (by decide) ?_
  refine lv_iload_n hx hb dJ6_numberOfTrailingZeros_0f7a4_3 rfl (lv_at hl 0 rfl) ?_
  refine lv_iconst (v := 1) hx hb dJ6_numberOfTrailingZeros_0f7a4_4 (by decide) ?_
  refine lv_isub hx hb dJ6_numberOfTrailingZeros_0f7a4_5 ?_
  refine z_i (v := 2047) (by decide) ?_
  refine lv_iand hx hb dJ6_numberOfTrailingZeros_0f7a4_6 ?_
  refine z_i (v := 2047) (by decide) ?_
  refine lv_istore_n (lv' := [(0, .int 2047)]) hx hb dJ6_numberOfTrailingZeros_0f7a4_7 rfl hl (by decide) rfl (fun ls hl => ?_)
  refine lv_iload_n hx hb dJ6_numberOfTrailingZeros_0f7a4_8 rfl (lv_at hl 0 rfl) ?_
  refine lv_if_gt (tgt := 17) hx hb dJ6_numberOfTrailingZeros_0f7a4_9 (by decide) (fun _ => ?_) (fun h => absurd (by decide) h)
  refine lv_iconst (v := 1) hx hb dJ6_numberOfTrailingZeros_0f7a4_17 (by decide) ?_
  refine lv_istore_n (lv' := [(1, .int 1), (0, .int 2047)]) hx hb dJ6_numberOfTrailingZeros_0f7a4_18 rfl hl (by decide) rfl (fun ls hl => ?_)
  refine lv_iload_n hx hb dJ6_numberOfTrailingZeros_0f7a4_19 rfl (lv_at hl 1 rfl) ?_
  refine lv_ldcw (v := 65536) hx hb hown (hts _ kw_706) dJ6_numberOfTrailingZeros_0f7a4_20 ?_
  refine lv_icmp_le (tgt := 34) hx hb dJ6_numberOfTrailingZeros_0f7a4_23 (by decide) (fun _ => ?_) (fun h => absurd (by decide) h)
  refine lv_iload_n hx hb dJ6_numberOfTrailingZeros_0f7a4_34 rfl (lv_at hl 1 rfl) ?_
  refine lv_sipush (v := 256) hx hb dJ6_numberOfTrailingZeros_0f7a4_35 (by decide) ?_
  refine lv_icmp_le (tgt := 49) hx hb dJ6_numberOfTrailingZeros_0f7a4_38 (by decide) (fun h => absurd h (by decide)) (fun _ => ?_)
  refine lv_iinc (v := 9) (lv' := [(1, .int 9), (0, .int 2047)]) hx hb dJ6_numberOfTrailingZeros_0f7a4_41 hl (k := 0) rfl (by decide) (by decide) rfl (fun ls hl => ?_)
  refine lv_iload_n hx hb dJ6_numberOfTrailingZeros_0f7a4_44 rfl (lv_at hl 1 rfl) ?_
  refine lv_bipush (v := 8) hx hb dJ6_numberOfTrailingZeros_0f7a4_45 (by decide) ?_
  refine lv_iushr (v := 7) hx hb dJ6_numberOfTrailingZeros_0f7a4_47 (by decide) ?_
  refine lv_istore_n (lv' := [(0, .int 7), (1, .int 9)]) hx hb dJ6_numberOfTrailingZeros_0f7a4_48 rfl hl (by decide) rfl (fun ls hl => ?_)
  refine lv_iload_n hx hb dJ6_numberOfTrailingZeros_0f7a4_49 rfl (lv_at hl 0 rfl) ?_
  refine lv_bipush (v := 16) hx hb dJ6_numberOfTrailingZeros_0f7a4_50 (by decide) ?_
  refine lv_icmp_le (tgt := 62) hx hb dJ6_numberOfTrailingZeros_0f7a4_52 (by decide) (fun _ => ?_) (fun h => absurd (by decide) h)
  refine lv_iload_n hx hb dJ6_numberOfTrailingZeros_0f7a4_62 rfl (lv_at hl 0 rfl) ?_
  refine lv_iconst (v := 4) hx hb dJ6_numberOfTrailingZeros_0f7a4_63 (by decide) ?_
  refine lv_icmp_le (tgt := 74) hx hb dJ6_numberOfTrailingZeros_0f7a4_64 (by decide) (fun h => absurd h (by decide)) (fun _ => ?_)
  refine lv_iinc (v := 11) (lv' := [(1, .int 11), (0, .int 7)]) hx hb dJ6_numberOfTrailingZeros_0f7a4_67 hl (k := 1) rfl (by decide) (by decide) rfl (fun ls hl => ?_)
  refine lv_iload_n hx hb dJ6_numberOfTrailingZeros_0f7a4_70 rfl (lv_at hl 1 rfl) ?_
  refine lv_iconst (v := 2) hx hb dJ6_numberOfTrailingZeros_0f7a4_71 (by decide) ?_
  refine lv_iushr (v := 1) hx hb dJ6_numberOfTrailingZeros_0f7a4_72 (by decide) ?_
  refine lv_istore_n (lv' := [(0, .int 1), (1, .int 11)]) hx hb dJ6_numberOfTrailingZeros_0f7a4_73 rfl hl (by decide) rfl (fun ls hl => ?_)
  refine lv_iload_n hx hb dJ6_numberOfTrailingZeros_0f7a4_74 rfl (lv_at hl 1 rfl) ?_
  refine lv_iload_n hx hb dJ6_numberOfTrailingZeros_0f7a4_75 rfl (lv_at hl 0 rfl) ?_
  refine lv_iconst (v := 1) hx hb dJ6_numberOfTrailingZeros_0f7a4_76 (by decide) ?_
  refine lv_iushr (v := 0) hx hb dJ6_numberOfTrailingZeros_0f7a4_77 (by decide) ?_
  refine lv_iadd hx hb dJ6_numberOfTrailingZeros_0f7a4_78 ?_
  refine z_i (v := 11) (by decide) ?_
  exact rd_i hx hb hr hlocks (rfl) dJ6_numberOfTrailingZeros_0f7a4_79
set_option maxHeartbeats 4000000 in
set_option maxRecDepth 100000 in
theorem j_ntz12 {l : Launch} : RdE l yJ6_numberOfTrailingZeros_0f7a4 cJ6_numberOfTrailingZeros_0f7a4 2 (some .int) 0 (fun _ => True) [.int 4096] (.int 12) := by
  refine RdE.of (by decide) (Nat.le_of_ble_eq_true rfl) ?_
  intro p e s m below meth c ls hx hb hr hml hown hts hlocks hE hl
  have hown : s.vm.findClass "java/lang/Integer" = some m.cls := hown
  have hl : lv_has ls 2 [(0, .int 4096)] := hl
  refine lv_iload_n hx hb dJ6_numberOfTrailingZeros_0f7a4_0 rfl (lv_at hl 0 rfl) ?_
  refine lv_iconst (v := (-1)) hx hb dJ6_numberOfTrailingZeros_0f7a4_1 (by decide) ?_
  refine lv_ixor hx hb dJ6_numberOfTrailingZeros_0f7a4_2 ?_
  refine z_i (v := (-4097)) (by decide) ?_
  refine lv_iload_n hx hb dJ6_numberOfTrailingZeros_0f7a4_3 rfl (lv_at hl 0 rfl) ?_
  refine lv_iconst (v := 1) hx hb dJ6_numberOfTrailingZeros_0f7a4_4 (by decide) ?_
  refine lv_isub hx hb dJ6_numberOfTrailingZeros_0f7a4_5 ?_
  refine z_i (v := 4095) (by decide) ?_
  refine lv_iand hx hb dJ6_numberOfTrailingZeros_0f7a4_6 ?_
  refine z_i (v := 4095) (by decide) ?_
  refine lv_istore_n (lv' := [(0, .int 4095)]) hx hb dJ6_numberOfTrailingZeros_0f7a4_7 rfl hl (by decide) rfl (fun ls hl => ?_)
  refine lv_iload_n hx hb dJ6_numberOfTrailingZeros_0f7a4_8 rfl (lv_at hl 0 rfl) ?_
  refine lv_if_gt (tgt := 17) hx hb dJ6_numberOfTrailingZeros_0f7a4_9 (by decide) (fun _ => ?_) (fun h => absurd (by decide) h)
  refine lv_iconst (v := 1) hx hb dJ6_numberOfTrailingZeros_0f7a4_17 (by decide) ?_
  refine lv_istore_n (lv' := [(1, .int 1), (0, .int 4095)]) hx hb dJ6_numberOfTrailingZeros_0f7a4_18 rfl hl (by decide) rfl (fun ls hl => ?_)
  refine lv_iload_n hx hb dJ6_numberOfTrailingZeros_0f7a4_19 rfl (lv_at hl 1 rfl) ?_
  refine lv_ldcw (v := 65536) hx hb hown (hts _ kw_706) dJ6_numberOfTrailingZeros_0f7a4_20 ?_
  refine lv_icmp_le (tgt := 34) hx hb dJ6_numberOfTrailingZeros_0f7a4_23 (by decide) (fun _ => ?_) (fun h => absurd (by decide) h)
  refine lv_iload_n hx hb dJ6_numberOfTrailingZeros_0f7a4_34 rfl (lv_at hl 1 rfl) ?_
  refine lv_sipush (v := 256) hx hb dJ6_numberOfTrailingZeros_0f7a4_35 (by decide) ?_
  refine lv_icmp_le (tgt := 49) hx hb dJ6_numberOfTrailingZeros_0f7a4_38 (by decide) (fun h => absurd h (by decide)) (fun _ => ?_)
  refine lv_iinc (v := 9) (lv' := [(1, .int 9), (0, .int 4095)]) hx hb dJ6_numberOfTrailingZeros_0f7a4_41 hl (k := 0) rfl (by decide) (by decide) rfl (fun ls hl => ?_)
  refine lv_iload_n hx hb dJ6_numberOfTrailingZeros_0f7a4_44 rfl (lv_at hl 1 rfl) ?_
  refine lv_bipush (v := 8) hx hb dJ6_numberOfTrailingZeros_0f7a4_45 (by decide) ?_
  refine lv_iushr (v := 15) hx hb dJ6_numberOfTrailingZeros_0f7a4_47 (by decide) ?_
  refine lv_istore_n (lv' := [(0, .int 15), (1, .int 9)]) hx hb dJ6_numberOfTrailingZeros_0f7a4_48 rfl hl (by decide) rfl (fun ls hl => ?_)
  refine lv_iload_n hx hb dJ6_numberOfTrailingZeros_0f7a4_49 rfl (lv_at hl 0 rfl) ?_
  refine lv_bipush (v := 16) hx hb dJ6_numberOfTrailingZeros_0f7a4_50 (by decide) ?_
  refine lv_icmp_le (tgt := 62) hx hb dJ6_numberOfTrailingZeros_0f7a4_52 (by decide) (fun _ => ?_) (fun h => absurd (by decide) h)
  refine lv_iload_n hx hb dJ6_numberOfTrailingZeros_0f7a4_62 rfl (lv_at hl 0 rfl) ?_
  refine lv_iconst (v := 4) hx hb dJ6_numberOfTrailingZeros_0f7a4_63 (by decide) ?_
  refine lv_icmp_le (tgt := 74) hx hb dJ6_numberOfTrailingZeros_0f7a4_64 (by decide) (fun h => absurd h (by decide)) (fun _ => ?_)
  refine lv_iinc (v := 11) (lv' := [(1, .int 11), (0, .int 15)]) hx hb dJ6_numberOfTrailingZeros_0f7a4_67 hl (k := 1) rfl (by decide) (by decide) rfl (fun ls hl => ?_)
  refine lv_iload_n hx hb dJ6_numberOfTrailingZeros_0f7a4_70 rfl (lv_at hl 1 rfl) ?_
  refine lv_iconst (v := 2) hx hb dJ6_numberOfTrailingZeros_0f7a4_71 (by decide) ?_
  refine lv_iushr (v := 3) hx hb dJ6_numberOfTrailingZeros_0f7a4_72 (by decide) ?_
  refine lv_istore_n (lv' := [(0, .int 3), (1, .int 11)]) hx hb dJ6_numberOfTrailingZeros_0f7a4_73 rfl hl (by decide) rfl (fun ls hl => ?_)
  refine lv_iload_n hx hb dJ6_numberOfTrailingZeros_0f7a4_74 rfl (lv_at hl 1 rfl) ?_
  refine lv_iload_n hx hb dJ6_numberOfTrailingZeros_0f7a4_75 rfl (lv_at hl 0 rfl) ?_
  refine lv_iconst (v := 1) hx hb dJ6_numberOfTrailingZeros_0f7a4_76 (by decide) ?_
  refine lv_iushr (v := 1) hx hb dJ6_numberOfTrailingZeros_0f7a4_77 (by decide) ?_
  refine lv_iadd hx hb dJ6_numberOfTrailingZeros_0f7a4_78 ?_
  refine z_i (v := 12) (by decide) ?_
  exact rd_i hx hb hr hlocks (rfl) dJ6_numberOfTrailingZeros_0f7a4_79
set_option maxHeartbeats 4000000 in
set_option maxRecDepth 100000 in
theorem j_ntz13 {l : Launch} : RdE l yJ6_numberOfTrailingZeros_0f7a4 cJ6_numberOfTrailingZeros_0f7a4 2 (some .int) 0 (fun _ => True) [.int 8192] (.int 13) := by
  refine RdE.of (by decide) (Nat.le_of_ble_eq_true rfl) ?_
  intro p e s m below meth c ls hx hb hr hml hown hts hlocks hE hl
  have hown : s.vm.findClass "java/lang/Integer" = some m.cls := hown
  have hl : lv_has ls 2 [(0, .int 8192)] := hl
  refine lv_iload_n hx hb dJ6_numberOfTrailingZeros_0f7a4_0 rfl (lv_at hl 0 rfl) ?_
  refine lv_iconst (v := (-1)) hx hb dJ6_numberOfTrailingZeros_0f7a4_1 (by decide) ?_
  refine lv_ixor hx hb dJ6_numberOfTrailingZeros_0f7a4_2 ?_
  refine z_i (v := (-8193)) (by decide) ?_
  refine lv_iload_n hx hb dJ6_numberOfTrailingZeros_0f7a4_3 rfl (lv_at hl 0 rfl) ?_
  refine lv_iconst (v := 1) hx hb dJ6_numberOfTrailingZeros_0f7a4_4 (by decide) ?_
  refine lv_isub hx hb dJ6_numberOfTrailingZeros_0f7a4_5 ?_
  refine z_i (v := 8191) (by decide) ?_
  refine lv_iand hx hb dJ6_numberOfTrailingZeros_0f7a4_6 ?_
  refine z_i (v := 8191) (by decide) ?_
  refine lv_istore_n (lv' := [(0, .int 8191)]) hx hb dJ6_numberOfTrailingZeros_0f7a4_7 rfl hl (by decide) rfl (fun ls hl => ?_)
  refine lv_iload_n hx hb dJ6_numberOfTrailingZeros_0f7a4_8 rfl (lv_at hl 0 rfl) ?_
  refine lv_if_gt (tgt := 17) hx hb dJ6_numberOfTrailingZeros_0f7a4_9 (by decide) (fun _ => ?_) (fun h => absurd (by decide) h)
  refine lv_iconst (v := 1) hx hb dJ6_numberOfTrailingZeros_0f7a4_17 (by decide) ?_
  refine lv_istore_n (lv' := [(1, .int 1), (0, .int 8191)]) hx hb dJ6_numberOfTrailingZeros_0f7a4_18 rfl hl (by decide) rfl (fun ls hl => ?_)
  refine lv_iload_n hx hb dJ6_numberOfTrailingZeros_0f7a4_19 rfl (lv_at hl 1 rfl) ?_
  refine lv_ldcw (v := 65536) hx hb hown (hts _ kw_706) dJ6_numberOfTrailingZeros_0f7a4_20 ?_
  refine lv_icmp_le (tgt := 34) hx hb dJ6_numberOfTrailingZeros_0f7a4_23 (by decide) (fun _ => ?_) (fun h => absurd (by decide) h)
  refine lv_iload_n hx hb dJ6_numberOfTrailingZeros_0f7a4_34 rfl (lv_at hl 1 rfl) ?_
  refine lv_sipush (v := 256) hx hb dJ6_numberOfTrailingZeros_0f7a4_35 (by decide) ?_
  refine lv_icmp_le (tgt := 49) hx hb dJ6_numberOfTrailingZeros_0f7a4_38 (by decide) (fun h => absurd h (by decide)) (fun _ => ?_)
  refine lv_iinc (v := 9) (lv' := [(1, .int 9), (0, .int 8191)]) hx hb dJ6_numberOfTrailingZeros_0f7a4_41 hl (k := 0) rfl (by decide) (by decide) rfl (fun ls hl => ?_)
  refine lv_iload_n hx hb dJ6_numberOfTrailingZeros_0f7a4_44 rfl (lv_at hl 1 rfl) ?_
  refine lv_bipush (v := 8) hx hb dJ6_numberOfTrailingZeros_0f7a4_45 (by decide) ?_
  refine lv_iushr (v := 31) hx hb dJ6_numberOfTrailingZeros_0f7a4_47 (by decide) ?_
  refine lv_istore_n (lv' := [(0, .int 31), (1, .int 9)]) hx hb dJ6_numberOfTrailingZeros_0f7a4_48 rfl hl (by decide) rfl (fun ls hl => ?_)
  refine lv_iload_n hx hb dJ6_numberOfTrailingZeros_0f7a4_49 rfl (lv_at hl 0 rfl) ?_
  refine lv_bipush (v := 16) hx hb dJ6_numberOfTrailingZeros_0f7a4_50 (by decide) ?_
  refine lv_icmp_le (tgt := 62) hx hb dJ6_numberOfTrailingZeros_0f7a4_52 (by decide) (fun h => absurd h (by decide)) (fun _ => ?_)
  refine lv_iinc (v := 13) (lv' := [(1, .int 13), (0, .int 31)]) hx hb dJ6_numberOfTrailingZeros_0f7a4_55 hl (k := 1) rfl (by decide) (by decide) rfl (fun ls hl => ?_)
  refine lv_iload_n hx hb dJ6_numberOfTrailingZeros_0f7a4_58 rfl (lv_at hl 1 rfl) ?_
  refine lv_iconst (v := 4) hx hb dJ6_numberOfTrailingZeros_0f7a4_59 (by decide) ?_
  refine lv_iushr (v := 1) hx hb dJ6_numberOfTrailingZeros_0f7a4_60 (by decide) ?_
  refine lv_istore_n (lv' := [(0, .int 1), (1, .int 13)]) hx hb dJ6_numberOfTrailingZeros_0f7a4_61 rfl hl (by decide) rfl (fun ls hl => ?_)
  refine lv_iload_n hx hb dJ6_numberOfTrailingZeros_0f7a4_62 rfl (lv_at hl 0 rfl) ?_
  refine lv_iconst (v := 4) hx hb dJ6_numberOfTrailingZeros_0f7a4_63 (by decide) ?_
  refine lv_icmp_le (tgt := 74) hx hb dJ6_numberOfTrailingZeros_0f7a4_64 (by decide) (fun _ => ?_) (fun h => absurd (by decide) h)
  refine lv_iload_n hx hb dJ6_numberOfTrailingZeros_0f7a4_74 rfl (lv_at hl 1 rfl) ?_
  refine lv_iload_n hx hb dJ6_numberOfTrailingZeros_0f7a4_75 rfl (lv_at hl 0 rfl) ?_
  refine lv_iconst (v := 1) hx hb dJ6_numberOfTrailingZeros_0f7a4_76 (by decide) ?_
  refine lv_iushr (v := 0) hx hb dJ6_numberOfTrailingZeros_0f7a4_77 (by decide) ?_
  refine lv_iadd hx hb dJ6_numberOfTrailingZeros_0f7a4_78 ?_
  refine z_i (v := 13) (by decide) ?_
  exact rd_i hx hb hr hlocks (rfl) dJ6_numberOfTrailingZeros_0f7a4_79
set_option maxHeartbeats 4000000 in
set_option maxRecDepth 100000 in
theorem j_ntz14 {l : Launch} : RdE l yJ6_numberOfTrailingZeros_0f7a4 cJ6_numberOfTrailingZeros_0f7a4 2 (some .int) 0 (fun _ => True) [.int 16384] (.int 14) := by
  refine RdE.of (by decide) (Nat.le_of_ble_eq_true rfl) ?_
  intro p e s m below meth c ls hx hb hr hml hown hts hlocks hE hl
  have hown : s.vm.findClass "java/lang/Integer" = some m.cls := hown
  have hl : lv_has ls 2 [(0, .int 16384)] := hl
  refine lv_iload_n hx hb dJ6_numberOfTrailingZeros_0f7a4_0 rfl (lv_at hl 0 rfl) ?_
  refine lv_iconst (v := (-1)) hx hb dJ6_numberOfTrailingZeros_0f7a4_1 (by decide) ?_
  refine lv_ixor hx hb dJ6_numberOfTrailingZeros_0f7a4_2 ?_
  refine z_i (v := (-16385)) (by decide) ?_
  refine lv_iload_n hx hb dJ6_numberOfTrailingZeros_0f7a4_3 rfl (lv_at hl 0 rfl) ?_
  refine lv_iconst (v := 1) hx hb dJ6_numberOfTrailingZeros_0f7a4_4 (by decide) ?_
  refine lv_isub hx hb dJ6_numberOfTrailingZeros_0f7a4_5 ?_
  refine z_i (v := 16383) (by decide) ?_
  refine lv_iand hx hb dJ6_numberOfTrailingZeros_0f7a4_6 ?_
  refine z_i (v := 16383) (by decide) ?_
  refine lv_istore_n (lv' := [(0, .int 16383)]) hx hb dJ6_numberOfTrailingZeros_0f7a4_7 rfl hl (by decide) rfl (fun ls hl => ?_)
  refine lv_iload_n hx hb dJ6_numberOfTrailingZeros_0f7a4_8 rfl (lv_at hl 0 rfl) ?_
  refine lv_if_gt (tgt := 17) hx hb dJ6_numberOfTrailingZeros_0f7a4_9 (by decide) (fun _ => ?_) (fun h => absurd (by decide) h)
  refine lv_iconst (v := 1) hx hb dJ6_numberOfTrailingZeros_0f7a4_17 (by decide) ?_
  refine lv_istore_n (lv' := [(1, .int 1), (0, .int 16383)]) hx hb dJ6_numberOfTrailingZeros_0f7a4_18 rfl hl (by decide) rfl (fun ls hl => ?_)
  refine lv_iload_n hx hb dJ6_numberOfTrailingZeros_0f7a4_19 rfl (lv_at hl 1 rfl) ?_
  refine lv_ldcw (v := 65536) hx hb hown (hts _ kw_706) dJ6_numberOfTrailingZeros_0f7a4_20 ?_
  refine lv_icmp_le (tgt := 34) hx hb dJ6_numberOfTrailingZeros_0f7a4_23 (by decide) (fun _ => ?_) (fun h => absurd (by decide) h)
  refine lv_iload_n hx hb dJ6_numberOfTrailingZeros_0f7a4_34 rfl (lv_at hl 1 rfl) ?_
  refine lv_sipush (v := 256) hx hb dJ6_numberOfTrailingZeros_0f7a4_35 (by decide) ?_
  refine lv_icmp_le (tgt := 49) hx hb dJ6_numberOfTrailingZeros_0f7a4_38 (by decide) (fun h => absurd h (by decide)) (fun _ => ?_)
  refine lv_iinc (v := 9) (lv' := [(1, .int 9), (0, .int 16383)]) hx hb dJ6_numberOfTrailingZeros_0f7a4_41 hl (k := 0) rfl (by decide) (by decide) rfl (fun ls hl => ?_)
  refine lv_iload_n hx hb dJ6_numberOfTrailingZeros_0f7a4_44 rfl (lv_at hl 1 rfl) ?_
  refine lv_bipush (v := 8) hx hb dJ6_numberOfTrailingZeros_0f7a4_45 (by decide) ?_
  refine lv_iushr (v := 63) hx hb dJ6_numberOfTrailingZeros_0f7a4_47 (by decide) ?_
  refine lv_istore_n (lv' := [(0, .int 63), (1, .int 9)]) hx hb dJ6_numberOfTrailingZeros_0f7a4_48 rfl hl (by decide) rfl (fun ls hl => ?_)
  refine lv_iload_n hx hb dJ6_numberOfTrailingZeros_0f7a4_49 rfl (lv_at hl 0 rfl) ?_
  refine lv_bipush (v := 16) hx hb dJ6_numberOfTrailingZeros_0f7a4_50 (by decide) ?_
  refine lv_icmp_le (tgt := 62) hx hb dJ6_numberOfTrailingZeros_0f7a4_52 (by decide) (fun h => absurd h (by decide)) (fun _ => ?_)
  refine lv_iinc (v := 13) (lv' := [(1, .int 13), (0, .int 63)]) hx hb dJ6_numberOfTrailingZeros_0f7a4_55 hl (k := 1) rfl (by decide) (by decide) rfl (fun ls hl => ?_)
  refine lv_iload_n hx hb dJ6_numberOfTrailingZeros_0f7a4_58 rfl (lv_at hl 1 rfl) ?_
  refine lv_iconst (v := 4) hx hb dJ6_numberOfTrailingZeros_0f7a4_59 (by decide) ?_
  refine lv_iushr (v := 3) hx hb dJ6_numberOfTrailingZeros_0f7a4_60 (by decide) ?_
  refine lv_istore_n (lv' := [(0, .int 3), (1, .int 13)]) hx hb dJ6_numberOfTrailingZeros_0f7a4_61 rfl hl (by decide) rfl (fun ls hl => ?_)
  refine lv_iload_n hx hb dJ6_numberOfTrailingZeros_0f7a4_62 rfl (lv_at hl 0 rfl) ?_
  refine lv_iconst (v := 4) hx hb dJ6_numberOfTrailingZeros_0f7a4_63 (by decide) ?_
  refine lv_icmp_le (tgt := 74) hx hb dJ6_numberOfTrailingZeros_0f7a4_64 (by decide) (fun _ => ?_) (fun h => absurd (by decide) h)
  refine lv_iload_n hx hb dJ6_numberOfTrailingZeros_0f7a4_74 rfl (lv_at hl 1 rfl) ?_
  refine lv_iload_n hx hb dJ6_numberOfTrailingZeros_0f7a4_75 rfl (lv_at hl 0 rfl) ?_
  refine lv_iconst (v := 1) hx hb dJ6_numberOfTrailingZeros_0f7a4_76 (by decide) ?_
  refine lv_iushr (v := 1) hx hb dJ6_numberOfTrailingZeros_0f7a4_77 (by decide) ?_
  refine lv_iadd hx hb dJ6_numberOfTrailingZeros_0f7a4_78 ?_
  refine z_i (v := 14) (by decide) ?_
  exact rd_i hx hb hr hlocks (rfl) dJ6_numberOfTrailingZeros_0f7a4_79
set_option maxHeartbeats 4000000 in
set_option maxRecDepth 100000 in
theorem j_ntz15 {l : Launch} : RdE l yJ6_numberOfTrailingZeros_0f7a4 cJ6_numberOfTrailingZeros_0f7a4 2 (some .int) 0 (fun _ => True) [.int 32768] (.int 15) := by
  refine RdE.of (by decide) (Nat.le_of_ble_eq_true rfl) ?_
  intro p e s m below meth c ls hx hb hr hml hown hts hlocks hE hl
  have hown : s.vm.findClass "java/lang/Integer" = some m.cls := hown
  have hl : lv_has ls 2 [(0, .int 32768)] := hl
  refine lv_iload_n hx hb dJ6_numberOfTrailingZeros_0f7a4_0 rfl (lv_at hl 0 rfl) ?_
  refine lv_iconst (v := (-1)) hx hb dJ6_numberOfTrailingZeros_0f7a4_1 (by decide) ?_
  refine lv_ixor hx hb dJ6_numberOfTrailingZeros_0f7a4_2 ?_
  refine z_i (v := (-32769)) (by decide) ?_
  refine lv_iload_n hx hb dJ6_numberOfTrailingZeros_0f7a4_3 rfl (lv_at hl 0 rfl) ?_
  refine lv_iconst (v := 1) hx hb dJ6_numberOfTrailingZeros_0f7a4_4 (by decide) ?_
  refine lv_isub hx hb dJ6_numberOfTrailingZeros_0f7a4_5 ?_
  refine z_i (v := 32767) (by decide) ?_
  refine lv_iand hx hb dJ6_numberOfTrailingZeros_0f7a4_6 ?_
  refine z_i (v := 32767) (by decide) ?_
  refine lv_istore_n (lv' := [(0, .int 32767)]) hx hb dJ6_numberOfTrailingZeros_0f7a4_7 rfl hl (by decide) rfl (fun ls hl => ?_)
  refine lv_iload_n hx hb dJ6_numberOfTrailingZeros_0f7a4_8 rfl (lv_at hl 0 rfl) ?_
  refine lv_if_gt (tgt := 17) hx hb dJ6_numberOfTrailingZeros_0f7a4_9 (by decide) (fun _ => ?_) (fun h => absurd (by decide) h)
  refine lv_iconst (v := 1) hx hb dJ6_numberOfTrailingZeros_0f7a4_17 (by decide) ?_
  refine lv_istore_n (lv' := [(1, .int 1), (0, .int 32767)]) hx hb dJ6_numberOfTrailingZeros_0f7a4_18 rfl hl (by decide) rfl (fun ls hl => ?_)
  refine lv_iload_n hx hb dJ6_numberOfTrailingZeros_0f7a4_19 rfl (lv_at hl 1 rfl) ?_
  refine lv_ldcw (v := 65536) hx hb hown (hts _ kw_706) dJ6_numberOfTrailingZeros_0f7a4_20 ?_
  refine lv_icmp_le (tgt := 34) hx hb dJ6_numberOfTrailingZeros_0f7a4_23 (by decide) (fun _ => ?_) (fun h => absurd (by decide) h)
  refine lv_iload_n hx hb dJ6_numberOfTrailingZeros_0f7a4_34 rfl (lv_at hl 1 rfl) ?_
  refine lv_sipush (v := 256) hx hb dJ6_numberOfTrailingZeros_0f7a4_35 (by decide) ?_
  refine lv_icmp_le (tgt := 49) hx hb dJ6_numberOfTrailingZeros_0f7a4_38 (by decide) (fun h => absurd h (by decide)) (fun _ => ?_)
  refine lv_iinc (v := 9) (lv' := [(1, .int 9), (0, .int 32767)]) hx hb dJ6_numberOfTrailingZeros_0f7a4_41 hl (k := 0) rfl (by decide) (by decide) rfl (fun ls hl => ?_)
  refine lv_iload_n hx hb dJ6_numberOfTrailingZeros_0f7a4_44 rfl (lv_at hl 1 rfl) ?_
  refine lv_bipush (v := 8) hx hb dJ6_numberOfTrailingZeros_0f7a4_45 (by decide) ?_
  refine lv_iushr (v := 127) hx hb dJ6_numberOfTrailingZeros_0f7a4_47 (by decide) ?_
  refine lv_istore_n (lv' := [(0, .int 127), (1, .int 9)]) hx hb dJ6_numberOfTrailingZeros_0f7a4_48 rfl hl (by decide) rfl (fun ls hl => ?_)
  refine lv_iload_n hx hb dJ6_numberOfTrailingZeros_0f7a4_49 rfl (lv_at hl 0 rfl) ?_
  refine lv_bipush (v := 16) hx hb dJ6_numberOfTrailingZeros_0f7a4_50 (by decide) ?_
  refine lv_icmp_le (tgt := 62) hx hb dJ6_numberOfTrailingZeros_0f7a4_52 (by decide) (fun h => absurd h (by decide)) (fun _ => ?_)
  refine lv_iinc (v := 13) (lv' := [(1, .int 13), (0, .int 127)]) hx hb dJ6_numberOfTrailingZeros_0f7a4_55 hl (k := 1) rfl (by decide) (by decide) rfl (fun ls hl => ?_)
  refine lv_iload_n hx hb dJ6_numberOfTrailingZeros_0f7a4_58 rfl (lv_at hl 1 rfl) ?_
  refine lv_iconst (v := 4) hx hb dJ6_numberOfTrailingZeros_0f7a4_59 (by decide) ?_
  refine lv_iushr (v := 7) hx hb dJ6_numberOfTrailingZeros_0f7a4_60 (by decide) ?_
  refine lv_istore_n (lv' := [(0, .int 7), (1, .int 13)]) hx hb dJ6_numberOfTrailingZeros_0f7a4_61 rfl hl (by decide) rfl (fun ls hl => ?_)
  refine lv_iload_n hx hb dJ6_numberOfTrailingZeros_0f7a4_62 rfl (lv_at hl 0 rfl) ?_
  refine lv_iconst (v := 4) hx hb dJ6_numberOfTrailingZeros_0f7a4_63 (by decide) ?_
  refine lv_icmp_le (tgt := 74) hx hb dJ6_numberOfTrailingZeros_0f7a4_64 (by decide) (fun h => absurd h (by decide)) (fun _ => ?_)
  refine lv_iinc (v := 15) (lv' := [(1, .int 15), (0, .int 7)]) hx hb dJ6_numberOfTrailingZeros_0f7a4_67 hl (k := 1) rfl (by decide) (by decide) rfl (fun ls hl => ?_)
  refine lv_iload_n hx hb dJ6_numberOfTrailingZeros_0f7a4_70 rfl (lv_at hl 1 rfl) ?_
  refine lv_iconst (v := 2) hx hb dJ6_numberOfTrailingZeros_0f7a4_71 (by decide) ?_
  refine lv_iushr (v := 1) hx hb dJ6_numberOfTrailingZeros_0f7a4_72 (by decide) ?_
  refine lv_istore_n (lv' := [(0, .int 1), (1, .int 15)]) hx hb dJ6_numberOfTrailingZeros_0f7a4_73 rfl hl (by decide) rfl (fun ls hl => ?_)
  refine lv_iload_n hx hb dJ6_numberOfTrailingZeros_0f7a4_74 rfl (lv_at hl 1 rfl) ?_
  refine lv_iload_n hx hb dJ6_numberOfTrailingZeros_0f7a4_75 rfl (lv_at hl 0 rfl) ?_
  refine lv_iconst (v := 1) hx hb dJ6_numberOfTrailingZeros_0f7a4_76 (by decide) ?_
  refine lv_iushr (v := 0) hx hb dJ6_numberOfTrailingZeros_0f7a4_77 (by decide) ?_
  refine lv_iadd hx hb dJ6_numberOfTrailingZeros_0f7a4_78 ?_
  refine z_i (v := 15) (by decide) ?_
  exact rd_i hx hb hr hlocks (rfl) dJ6_numberOfTrailingZeros_0f7a4_79
theorem j_ntz {l : Launch} (j : Nat) (hj : j < 16) : RdE l yJ6_numberOfTrailingZeros_0f7a4 cJ6_numberOfTrailingZeros_0f7a4 2 (some .int) 0 (fun _ => True) [.int (nI (2 ^ j))] (.int (nI j)) := by
  rcases (show j = 0 ∨ j = 1 ∨ j = 2 ∨ j = 3 ∨ j = 4 ∨ j = 5 ∨ j = 6 ∨ j = 7 ∨ j = 8 ∨ j = 9 ∨ j = 10 ∨ j = 11 ∨ j = 12 ∨ j = 13 ∨ j = 14 ∨ j = 15 by omega) with rfl | rfl | rfl | rfl | rfl | rfl | rfl | rfl | rfl | rfl | rfl | rfl | rfl | rfl | rfl | rfl
  · exact j_ntz0
  · exact j_ntz1
  · exact j_ntz2
  · exact j_ntz3
  · exact j_ntz4
  · exact j_ntz5
  · exact j_ntz6
  · exact j_ntz7
  · exact j_ntz8
  · exact j_ntz9
  · exact j_ntz10
  · exact j_ntz11
  · exact j_ntz12
  · exact j_ntz13
  · exact j_ntz14
  · exact j_ntz15
set_option maxHeartbeats 4000000 in
set_option maxRecDepth 100000 in
theorem wX5_listHands {l : Launch} {D : va_G} {sz : Nat} (h0 : Nat) (b0 : Nat) (b1 : Nat) (b2 : Nat) (b3 : Nat) (b4 : Nat) (b5 : Nat) (b6 : Nat) (b7 : Nat) (c2 : Int32) (k5 : ClassId) : Wv l yX5_listHands cX5_listHands 5 1 0 0 D [(h0, .inr (5, [.int 4, .int 4, .int (-1), .int 0, .ref b0, .ref b1, .ref b2, .ref b3, .ref b4, .int 0, .int 16, .int 4, .ref b5, .ref b6, .ref b7, .int c2])), (b7, .inl (k5, 1820, .inl (fun _ => 0)))] [(k5, .int)] [.ref h0] sz (fun _ => True) (fun q k g gl => [(h0, .inr (5, [.int 4, .int 4, .int (-1), .int 0, .ref b0, .ref b1, .ref b2, .ref b3, .ref b4, .int 0, .int 16, .int 4, .ref b5, .ref b6, .ref b7, .int 1820])), (b7, .inl (k5, 1820, .inl (fun j => cl ((g 5) j))))]) (fun k => [(k5, .int)]) := by
  refine Wv.of (by decide) (Nat.le_of_ble_eq_true rfl) ?_
  intro p e s m below meth c ls A hx hb hr hml hown hts hlocks hin hP hK hD hA hS hE hAe hl
  have hown : s.vm.findClass "SignalTable$Laws" = some m.cls := hown
  have hin : meth.name = "listHands" := hin
  skip
  have hl : lv_has ls 5 [(0, .ref h0)] := hl
  generalize hQ : MQ below _ _ _ _ _ _ = Q0
  refine lv_aload_n hx hb dX5_listHands_0 rfl (lv_at hl 0 rfl) ?_
  refine lv_iconst (v := 0) hx hb dX5_listHands_1 (by decide) ?_
  refine va_put (D := D) (ci := 5) (v := .int 0) (ty := .int) (C := RX5) (T := TX5) (N := 16) hx hb hts inX5 tyX5 tyX5_ok nmX5 hown hK hP hD hS 0 rfl rfl 15 (by decide) (hts _ kw_245) (fun _ h9 => h9) rfl (by decide +kernel) rfl rfl (Nat.le_of_ble_eq_true rfl) dX5_listHands_2 (fun H locs hP hD hS => ?_)
  have hP : va_P D vwCl [(h0, .inr (5, [.int 4, .int 4, .int (-1), .int 0, .ref b0, .ref b1, .ref b2, .ref b3, .ref b4, .int 0, .int 16, .int 4, .ref b5, .ref b6, .ref b7, .int 0])), (b7, .inl (k5, 1820, .inl (fun _ => 0)))] H := hP
  have hD : va_D A [(h0, .inr (5, [.int 4, .int 4, .int (-1), .int 0, .ref b0, .ref b1, .ref b2, .ref b3, .ref b4, .int 0, .int 16, .int 4, .ref b5, .ref b6, .ref b7, .int 0])), (b7, .inl (k5, 1820, .inl (fun _ => 0)))] := hD
  refine lv_iconst (v := 1) hx hb dX5_listHands_5 (by decide) ?_
  refine lv_aload_n hx hb dX5_listHands_6 rfl (lv_at hl 0 rfl) ?_
  refine va_get (D := D) (ci := 5) (v := .int 4) (C := RX5) (T := TX5) (N := 16) hx hb hts inX5 hown hK hP 0 rfl rfl 11 (by decide) (hts _ kw_229) (fun _ h9 => h9) rfl dX5_listHands_7 ?_
  refine lv_ishl hx hb dX5_listHands_10 ?_
  refine z_i (v := 16) (by decide) ?_
  refine lv_iconst (v := 1) hx hb dX5_listHands_11 (by decide) ?_
  refine lv_isub hx hb dX5_listHands_12 ?_
  refine z_i (v := 15) (by decide) ?_
  refine W.eq (g2 := F0 m 13 ls [.int 15]) rfl ?_
  refine lv_istore_n (lv' := [(1, .int 15), (0, .ref h0)]) hx hb dX5_listHands_13 rfl hl (by decide) rfl (fun ls hl => ?_)
  refine lv_iconst (v := 0) hx hb dX5_listHands_14 (by decide) ?_
  refine lv_istore_n (lv' := [(2, .int 0), (1, .int 15), (0, .ref h0)]) hx hb dX5_listHands_15 rfl hl (by decide) rfl (fun ls hl => ?_)
  have loop : ∀ (k i : Nat) (x : Int32) (fw : Nat → Int32) (H : Heap) (locs : List Loc) (ls : Array Slot), i + k = 1820 → lchk k x = true → va_P D vwCl [(h0, .inr (5, [.int 4, .int 4, .int (-1), .int 0, .ref b0, .ref b1, .ref b2, .ref b3, .ref b4, .int 0, .int 16, .int 4, .ref b5, .ref b6, .ref b7, .int (nI i)])), (b7, .inl (k5, 1820, .inl (fun j => cl (fw j))))] H → va_D A [(h0, .inr (5, [.int 4, .int 4, .int (-1), .int 0, .ref b0, .ref b1, .ref b2, .ref b3, .ref b4, .int 0, .int 16, .int 4, .ref b5, .ref b6, .ref b7, .int (nI i)])), (b7, .inl (k5, 1820, .inl (fun j => cl (fw j))))] → va_S A s.heap H locs → lv_has ls 5 [(2, .int (nI i)), (1, .int x), (0, .ref h0)] → W p l e (rmU 1 0 0) s m [Value.ref h0].toArray below meth c H locs 0 0 Q0 (F0 m 16 ls []) := by
    intro k
    induction k with
    | zero =>
      intro i x fw H locs ls hi hc hP hD hS hl
      obtain rfl : i = 1820 := by omega
      refine lv_iload_n hx hb dX5_listHands_16 rfl (lv_at hl 0 rfl) ?_
      refine lv_aload_n hx hb dX5_listHands_17 rfl (lv_at hl 2 rfl) ?_
      refine va_get (D := D) (ci := 5) (v := .ref b7) (C := RX5) (T := TX5) (N := 16) hx hb hts inX5 hown hK hP 0 rfl rfl 14 (by decide) (hts _ kw_240) (fun _ h9 => h9) rfl dX5_listHands_18 ?_
      refine va_alen (v := 1820) hx hb hK hP 1 0 rfl rfl rfl dX5_listHands_21 ?_
      refine lv_icmp_ge (tgt := 83) hx hb dX5_listHands_22 (by decide) (fun _ => ?_) (fun h => absurd (nI_le (Nat.le_refl 1820) (by decide)) h)
      rw [← hQ]
      exact wr_v (q := (fun _ => 0)) (k := (fun _ => 0)) (g := (fun i => match i with | 5 => fw | _ => fun _ => 0)) (gl := (fun _ => fun _ => 0)) hx hb hr hlocks hS (hP.sub [0, 1] rfl) (hK.sub [0] rfl) (hD.sub [0, 1] (by decide) rfl) dX5_listHands_83
    | succ k ih =>
      intro i x fw H locs ls hi hc hP hD hS hl
      obtain ⟨j, ej⟩ : ∃ j, j = ltz (x &&& (-x)) := ⟨_, rfl⟩
      simp only [lchk, Bool.and_eq_true, decide_eq_true_eq] at hc
      obtain ⟨hge, hlt, hlo, hj, hch⟩ := hc
      rw [← ej] at hlo hj
      refine lv_iload_n hx hb dX5_listHands_16 rfl (lv_at hl 0 rfl) ?_
      refine W.eq (g2 := F0 m 17 ls [.int (nI i)]) rfl ?_
      refine lv_aload_n hx hb dX5_listHands_17 rfl (lv_at hl 2 rfl) ?_
      refine va_get (D := D) (ci := 5) (v := .ref b7) (C := RX5) (T := TX5) (N := 16) hx hb hts inX5 hown hK hP 0 rfl rfl 14 (by decide) (hts _ kw_240) (fun _ h9 => h9) rfl dX5_listHands_18 ?_
      refine va_alen (v := 1820) hx hb hK hP 1 0 rfl rfl rfl dX5_listHands_21 ?_
      refine lv_icmp_ge (tgt := 83) hx hb dX5_listHands_22 (by decide) (fun h => absurd h (nI_ge (a := i) (b := 1820) (by omega) (by decide))) (fun _ => ?_)
      refine lv_iload_n hx hb dX5_listHands_25 rfl (lv_at hl 1 rfl) ?_
      refine lv_iconst (v := 1) hx hb dX5_listHands_26 (by decide) ?_
      refine lv_aload_n hx hb dX5_listHands_27 rfl (lv_at hl 2 rfl) ?_
      refine va_get (D := D) (ci := 5) (v := .int 16) (C := RX5) (T := TX5) (N := 16) hx hb hts inX5 hown hK hP 0 rfl rfl 10 (by decide) (hts _ kw_222) (fun _ h9 => h9) rfl dX5_listHands_28 ?_
      refine lv_ishl hx hb dX5_listHands_31 ?_
      refine z_i (v := 65536) (by decide) ?_
      refine lv_icmp_ge (tgt := 83) hx hb dX5_listHands_32 (by decide) (fun h => absurd h (Int32.not_le.mpr hlt)) (fun _ => ?_)
      refine W.eq (g2 := F0 m 35 ls []) rfl ?_
      refine lv_aload_n hx hb dX5_listHands_35 rfl (lv_at hl 2 rfl) ?_
      refine va_get (D := D) (ci := 5) (v := .ref b7) (C := RX5) (T := TX5) (N := 16) hx hb hts inX5 hown hK hP 0 rfl rfl 14 (by decide) (hts _ kw_240) (fun _ h9 => h9) rfl dX5_listHands_36 ?_
      refine lv_iload_n hx hb dX5_listHands_39 rfl (lv_at hl 0 rfl) ?_
      refine lv_iload_n hx hb dX5_listHands_40 rfl (lv_at hl 1 rfl) ?_
      refine va_iast hx hb hK hP hD hS 1 0 rfl rfl (vp_in_nI (n := i) (N := 1820) (by omega) (by decide)) dX5_listHands_41 (fun H locs hP hD hS => ?_)
      obtain ⟨f41_1, hf41_1⟩ : ∃ z : Nat → Int32, (fun j => cl (z j)) = upd (fun j => cl (fw j)) ((((nI i) : Int32).toNatClampNeg)) x := cl_upd (cl_rn hge hlt)
      rw [← hf41_1] at hP hD
      have hP : va_P D vwCl [(h0, .inr (5, [.int 4, .int 4, .int (-1), .int 0, .ref b0, .ref b1, .ref b2, .ref b3, .ref b4, .int 0, .int 16, .int 4, .ref b5, .ref b6, .ref b7, .int (nI i)])), (b7, .inl (k5, 1820, .inl (fun j => cl (f41_1 j))))] H := hP
      have hD : va_D A [(h0, .inr (5, [.int 4, .int 4, .int (-1), .int 0, .ref b0, .ref b1, .ref b2, .ref b3, .ref b4, .int 0, .int 16, .int 4, .ref b5, .ref b6, .ref b7, .int (nI i)])), (b7, .inl (k5, 1820, .inl (fun j => cl (f41_1 j))))] := hD
      refine lv_aload_n hx hb dX5_listHands_42 rfl (lv_at hl 2 rfl) ?_
      refine lv_dup hx hb dX5_listHands_43 rfl ?_
      refine va_get (D := D) (ci := 5) (v := .int (nI i)) (C := RX5) (T := TX5) (N := 16) hx hb hts inX5 hown hK hP 0 rfl rfl 15 (by decide) (hts _ kw_245) (fun _ h9 => h9) rfl dX5_listHands_44 ?_
      refine lv_iconst (v := 1) hx hb dX5_listHands_47 (by decide) ?_
      refine lv_iadd hx hb dX5_listHands_48 ?_
      refine z_i (v := (nI (i + 1))) (by exact nI_add _ 1) ?_
      refine W.eq (g2 := F0 m 49 ls [.int (nI (i + 1)), .ref h0]) rfl ?_
      refine va_put (D := D) (ci := 5) (v := .int (nI (i + 1))) (ty := .int) (C := RX5) (T := TX5) (N := 16) hx hb hts inX5 tyX5 tyX5_ok nmX5 hown hK hP hD hS 0 rfl rfl 15 (by decide) (hts _ kw_245) (fun _ h9 => h9) rfl (by decide +kernel) rfl rfl (Nat.le_of_ble_eq_true rfl) dX5_listHands_49 (fun H locs hP hD hS => ?_)
      have hP : va_P D vwCl [(h0, .inr (5, [.int 4, .int 4, .int (-1), .int 0, .ref b0, .ref b1, .ref b2, .ref b3, .ref b4, .int 0, .int 16, .int 4, .ref b5, .ref b6, .ref b7, .int (nI (i + 1))])), (b7, .inl (k5, 1820, .inl (fun j => cl (f41_1 j))))] H := hP
      have hD : va_D A [(h0, .inr (5, [.int 4, .int 4, .int (-1), .int 0, .ref b0, .ref b1, .ref b2, .ref b3, .ref b4, .int 0, .int 16, .int 4, .ref b5, .ref b6, .ref b7, .int (nI (i + 1))])), (b7, .inl (k5, 1820, .inl (fun j => cl (f41_1 j))))] := hD
      refine lv_iload_n hx hb dX5_listHands_52 rfl (lv_at hl 1 rfl) ?_
      refine lv_iload_n hx hb dX5_listHands_53 rfl (lv_at hl 1 rfl) ?_
      refine lv_ineg hx hb dX5_listHands_54 ?_
      refine lv_iand hx hb dX5_listHands_55 ?_
      refine lv_istore_n (lv' := [(3, .int (x &&& (-x))), (2, .int (nI i)), (1, .int x), (0, .ref h0)]) hx hb dX5_listHands_56 rfl hl (by decide) rfl (fun ls hl => ?_)
      refine lv_iload_n hx hb dX5_listHands_57 rfl (lv_at hl 2 rfl) ?_
      refine lv_iload_n hx hb dX5_listHands_58 rfl (lv_at hl 0 rfl) ?_
      refine lv_iadd hx hb dX5_listHands_59 ?_
      refine lv_istore (lv' := [(4, .int (x + (x &&& (-x)))), (3, .int (x &&& (-x))), (2, .int (nI i)), (1, .int x), (0, .ref h0)]) hx hb dX5_listHands_60 hl (by decide) rfl (fun ls hl => ?_)
      refine W.eq (g2 := F0 m 62 ls []) rfl ?_
      refine lv_iload hx hb dX5_listHands_62 (lv_at hl 0 rfl) ?_
      refine lv_iload_n hx hb dX5_listHands_64 rfl (lv_at hl 3 rfl) ?_
      refine lv_iload hx hb dX5_listHands_65 (lv_at hl 0 rfl) ?_
      refine lv_ixor hx hb dX5_listHands_67 ?_
      refine lv_iconst (v := 2) hx hb dX5_listHands_68 (by decide) ?_
      refine lv_iload_n hx hb dX5_listHands_69 rfl (lv_at hl 1 rfl) ?_
      refine re_S (As := [.int (x &&& (-x))]) (rest := [.int 2, .int (x ^^^ (x + (x &&& (-x)))), .int (x + (x &&& (-x)))]) caS_SignalTable_Laws_66 hx hb hml hown hts (show RdE l yJ6_numberOfTrailingZeros_0f7a4 cJ6_numberOfTrailingZeros_0f7a4 2 (some .int) 0 (fun _ => True) [.int (x &&& (-x))] (.int (nI j)) from by rw [hlo]; exact j_ntz j hj) bl_T (fun _ _ _ => trivial) (by decide) rfl hl.1 (Nat.le_of_ble_eq_true rfl) (by decide) dX5_listHands_70 rfl ?_
      refine lv_iadd hx hb dX5_listHands_73 ?_
      refine lv_iushr (v := (jush (x ^^^ (x + (x &&& (-x)))) (2 + (nI j)))) hx hb dX5_listHands_74 rfl ?_
      refine lv_ior hx hb dX5_listHands_75 ?_
      refine W.eq (g2 := F0 m 76 ls [.int ((x + (x &&& (-x))) ||| (jush (x ^^^ (x + (x &&& (-x)))) (2 + (nI j))))]) rfl ?_
      refine lv_istore_n (lv' := [(1, .int ((x + (x &&& (-x))) ||| (jush (x ^^^ (x + (x &&& (-x)))) (2 + (nI j))))), (4, .int (x + (x &&& (-x)))), (3, .int (x &&& (-x))), (2, .int (nI i)), (0, .ref h0)]) hx hb dX5_listHands_76 rfl hl (by decide) rfl (fun ls hl => ?_)
      refine lv_iinc (v := (nI (i + 1))) (lv' := [(2, .int (nI (i + 1))), (1, .int ((x + (x &&& (-x))) ||| (jush (x ^^^ (x + (x &&& (-x)))) (2 + (nI j))))), (4, .int (x + (x &&& (-x)))), (3, .int (x &&& (-x))), (0, .ref h0)]) hx hb dX5_listHands_77 hl (k := 3) rfl (by show (nI i) + 1 = _; exact nI_1 _) (by decide) rfl (fun ls hl => ?_)
      refine lv_goto (tgt := 16) hx hb dX5_listHands_80 (by decide) ?_
      exact ih (i + 1) _ _ _ _ _ (by omega) (by rw [ej]; exact hch) hP hD hS (lv_sub hl [0, 1, 4] rfl)
  rw [cl_0] at hP hD
  exact loop 1820 0 15 (fun _ => 0) _ _ _ (by omega) lchk_all hP hD hS (lv_sub hl [0, 1, 2] rfl)
set_option maxHeartbeats 4000000 in
set_option maxRecDepth 100000 in
theorem wX5_settle {l : Launch} {D : va_G} {sz : Nat} (h0 : Nat) (b0 : Nat) (b1 : Nat) (b2 : Nat) (b3 : Nat) (b4 : Nat) (b5 : Nat) (b6 : Nat) (b7 : Nat) (c0 : Int32) (c1 : Int32) (c2 : Int32) (k3 : ClassId) (k4 : ClassId) (k5 : ClassId) : Wv l yX5_settle cX5_settle 2 2 0 0 D [(h0, .inr (5, [.int 4, .int 4, .int (-1), .int 0, .ref b0, .ref b1, .ref b2, .ref b3, .ref b4, .int 0, .int c0, .int c1, .ref b5, .ref b6, .ref b7, .int c2])), (b5, .inl (k3, 4, .inl (fun _ => 0))), (b6, .inl (k4, 16, .inl (fun _ => 0))), (b7, .inl (k5, 1820, .inl (fun _ => 0)))] [(k3, .int), (k4, .int), (k5, .int)] [.ref h0] sz (fun _ => True) (fun q k g gl => [(h0, .inr (5, [.int 4, .int 4, .int (-1), .int 0, .ref b0, .ref b1, .ref b2, .ref b3, .ref b4, .int 0, .int 16, .int 4, .ref b5, .ref b6, .ref b7, .int 1820])), (b5, .inl (k3, 4, .inl sc0)), (b6, .inl (k4, 16, .inl so0)), (b7, .inl (k5, 1820, .inl (fun j => cl ((g 5) j))))]) (fun k => [(k3, .int), (k4, .int), (k5, .int)]) := by
  refine Wv.of (by decide) (Nat.le_of_ble_eq_true rfl) ?_
  intro p e s m below meth c ls A hx hb hr hml hown hts hlocks hin hP hK hD hA hS hE hAe hl
  have hown : s.vm.findClass "SignalTable$Laws" = some m.cls := hown
  have hin : meth.name = "settle" := hin
  skip
  have hl : lv_has ls 2 [(0, .ref h0)] := hl
  refine lv_aload_n hx hb dX5_settle_0 rfl (lv_at hl 0 rfl) ?_
  refine lv_aload_n hx hb dX5_settle_1 rfl (lv_at hl 0 rfl) ?_
  refine va_get (D := D) (ci := 5) (v := .int 4) (C := RX5) (T := TX5) (N := 16) hx hb hts inX5 hown hK hP 0 rfl rfl 0 (by decide) (hts _ kw_188) (fun _ h9 => h9) rfl dX5_settle_2 ?_
  refine lv_aload_n hx hb dX5_settle_5 rfl (lv_at hl 0 rfl) ?_
  refine va_get (D := D) (ci := 5) (v := .int 4) (C := RX5) (T := TX5) (N := 16) hx hb hts inX5 hown hK hP 0 rfl rfl 1 (by decide) (hts _ kw_192) (fun _ h9 => h9) rfl dX5_settle_6 ?_
  refine lv_imul hx hb dX5_settle_9 ?_
  refine z_i (v := 16) (by decide) ?_
  refine va_put (D := D) (ci := 5) (v := .int 16) (ty := .int) (C := RX5) (T := TX5) (N := 16) hx hb hts inX5 tyX5 tyX5_ok nmX5 hown hK hP hD hS 0 rfl rfl 10 (by decide) (hts _ kw_222) (fun _ h9 => h9) rfl (by decide +kernel) rfl rfl (Nat.le_of_ble_eq_true rfl) dX5_settle_10 (fun H locs hP hD hS => ?_)
  have hP : va_P D vwCl [(h0, .inr (5, [.int 4, .int 4, .int (-1), .int 0, .ref b0, .ref b1, .ref b2, .ref b3, .ref b4, .int 0, .int 16, .int c1, .ref b5, .ref b6, .ref b7, .int c2])), (b5, .inl (k3, 4, .inl (fun _ => 0))), (b6, .inl (k4, 16, .inl (fun _ => 0))), (b7, .inl (k5, 1820, .inl (fun _ => 0)))] H := hP
  have hD : va_D A [(h0, .inr (5, [.int 4, .int 4, .int (-1), .int 0, .ref b0, .ref b1, .ref b2, .ref b3, .ref b4, .int 0, .int 16, .int c1, .ref b5, .ref b6, .ref b7, .int c2])), (b5, .inl (k3, 4, .inl (fun _ => 0))), (b6, .inl (k4, 16, .inl (fun _ => 0))), (b7, .inl (k5, 1820, .inl (fun _ => 0)))] := hD
  refine lv_aload_n hx hb dX5_settle_13 rfl (lv_at hl 0 rfl) ?_
  refine lv_aload_n hx hb dX5_settle_14 rfl (lv_at hl 0 rfl) ?_
  refine W.eq (g2 := F0 m 15 ls [.ref h0, .ref h0]) rfl ?_
  refine va_get (D := D) (ci := 5) (v := .int 16) (C := RX5) (T := TX5) (N := 16) hx hb hts inX5 hown hK hP 0 rfl rfl 10 (by decide) (hts _ kw_222) (fun _ h9 => h9) rfl dX5_settle_15 ?_
  refine lv_iconst (v := 4) hx hb dX5_settle_18 (by decide) ?_
  refine lv_idiv hx hb dX5_settle_19 (by decide) ?_
  refine z_i (v := 4) (by decide) ?_
  refine va_put (D := D) (ci := 5) (v := .int 4) (ty := .int) (C := RX5) (T := TX5) (N := 16) hx hb hts inX5 tyX5 tyX5_ok nmX5 hown hK hP hD hS 0 rfl rfl 11 (by decide) (hts _ kw_229) (fun _ h9 => h9) rfl (by decide +kernel) rfl rfl (Nat.le_of_ble_eq_true rfl) dX5_settle_20 (fun H locs hP hD hS => ?_)
  have hP : va_P D vwCl [(h0, .inr (5, [.int 4, .int 4, .int (-1), .int 0, .ref b0, .ref b1, .ref b2, .ref b3, .ref b4, .int 0, .int 16, .int 4, .ref b5, .ref b6, .ref b7, .int c2])), (b5, .inl (k3, 4, .inl (fun _ => 0))), (b6, .inl (k4, 16, .inl (fun _ => 0))), (b7, .inl (k5, 1820, .inl (fun _ => 0)))] H := hP
  have hD : va_D A [(h0, .inr (5, [.int 4, .int 4, .int (-1), .int 0, .ref b0, .ref b1, .ref b2, .ref b3, .ref b4, .int 0, .int 16, .int 4, .ref b5, .ref b6, .ref b7, .int c2])), (b5, .inl (k3, 4, .inl (fun _ => 0))), (b6, .inl (k4, 16, .inl (fun _ => 0))), (b7, .inl (k5, 1820, .inl (fun _ => 0)))] := hD
  refine lv_aload_n hx hb dX5_settle_23 rfl (lv_at hl 0 rfl) ?_
  refine va_get (D := D) (ci := 5) (v := .int (-1)) (C := RX5) (T := TX5) (N := 16) hx hb hts inX5 hown hK hP 0 rfl rfl 2 (by decide) (hts _ kw_195) (fun _ h9 => h9) rfl dX5_settle_24 ?_
  refine lv_aload_n hx hb dX5_settle_27 rfl (lv_at hl 0 rfl) ?_
  refine va_get (D := D) (ci := 5) (v := .int 4) (C := RX5) (T := TX5) (N := 16) hx hb hts inX5 hown hK hP 0 rfl rfl 0 (by decide) (hts _ kw_188) (fun _ h9 => h9) rfl dX5_settle_28 ?_
  refine lv_icmp_lt (tgt := 39) hx hb dX5_settle_31 (by decide) (fun _ => ?_) (fun h => absurd (by decide) h)
  refine lv_iconst (v := 0) hx hb dX5_settle_39 (by decide) ?_
  refine W.eq (g2 := F0 m 40 ls [.int 0]) rfl ?_
  refine lv_istore_n (lv' := [(1, .int 0), (0, .ref h0)]) hx hb dX5_settle_40 rfl hl (by decide) rfl (fun ls hl => ?_)
  refine lv_iload_n hx hb dX5_settle_41 rfl (lv_at hl 0 rfl) ?_
  refine lv_aload_n hx hb dX5_settle_42 rfl (lv_at hl 1 rfl) ?_
  refine va_get (D := D) (ci := 5) (v := .ref b5) (C := RX5) (T := TX5) (N := 16) hx hb hts inX5 hown hK hP 0 rfl rfl 12 (by decide) (hts _ kw_231) (fun _ h9 => h9) rfl dX5_settle_43 ?_
  refine va_alen (v := 4) hx hb hK hP 1 0 rfl rfl rfl dX5_settle_46 ?_
  refine lv_icmp_ge (tgt := 89) hx hb dX5_settle_47 (by decide) (fun h => absurd h (by decide)) (fun _ => ?_)
  refine lv_aload_n hx hb dX5_settle_50 rfl (lv_at hl 1 rfl) ?_
  refine va_get (D := D) (ci := 5) (v := .ref b5) (C := RX5) (T := TX5) (N := 16) hx hb hts inX5 hown hK hP 0 rfl rfl 12 (by decide) (hts _ kw_231) (fun _ h9 => h9) rfl dX5_settle_51 ?_
  refine lv_iload_n hx hb dX5_settle_54 rfl (lv_at hl 0 rfl) ?_
  refine lv_iload_n hx hb dX5_settle_55 rfl (lv_at hl 0 rfl) ?_
  refine W.eq (g2 := F0 m 56 ls [.int 0, .int 0, .ref b5]) rfl ?_
  refine lv_aload_n hx hb dX5_settle_56 rfl (lv_at hl 1 rfl) ?_
  refine va_get (D := D) (ci := 5) (v := .int 4) (C := RX5) (T := TX5) (N := 16) hx hb hts inX5 hown hK hP 0 rfl rfl 0 (by decide) (hts _ kw_188) (fun _ h9 => h9) rfl dX5_settle_57 ?_
  refine lv_icmp_ge (tgt := 81) hx hb dX5_settle_60 (by decide) (fun h => absurd h (by decide)) (fun _ => ?_)
  refine lv_iconst (v := 1) hx hb dX5_settle_63 (by decide) ?_
  refine lv_aload_n hx hb dX5_settle_64 rfl (lv_at hl 1 rfl) ?_
  refine va_get (D := D) (ci := 5) (v := .int 4) (C := RX5) (T := TX5) (N := 16) hx hb hts inX5 hown hK hP 0 rfl rfl 1 (by decide) (hts _ kw_192) (fun _ h9 => h9) rfl dX5_settle_65 ?_
  refine lv_ishl hx hb dX5_settle_68 ?_
  refine z_i (v := 16) (by decide) ?_
  refine lv_iconst (v := 1) hx hb dX5_settle_69 (by decide) ?_
  refine lv_isub hx hb dX5_settle_70 ?_
  refine z_i (v := 15) (by decide) ?_
  refine lv_iload_n hx hb dX5_settle_71 rfl (lv_at hl 0 rfl) ?_
  refine W.eq (g2 := F0 m 72 ls [.int 0, .int 15, .int 0, .ref b5]) rfl ?_
  refine lv_aload_n hx hb dX5_settle_72 rfl (lv_at hl 1 rfl) ?_
  refine va_get (D := D) (ci := 5) (v := .int 4) (C := RX5) (T := TX5) (N := 16) hx hb hts inX5 hown hK hP 0 rfl rfl 1 (by decide) (hts _ kw_192) (fun _ h9 => h9) rfl dX5_settle_73 ?_
  refine lv_imul hx hb dX5_settle_76 ?_
  refine z_i (v := 0) (by decide) ?_
  refine lv_ishl hx hb dX5_settle_77 ?_
  refine z_i (v := 15) (by decide) ?_
  refine lv_goto (tgt := 82) hx hb dX5_settle_78 (by decide) ?_
  refine va_iast hx hb hK hP hD hS 1 0 rfl rfl (z_in (by decide)) dX5_settle_82 (fun H locs hP hD hS => ?_)
  have hP : va_P D vwCl [(h0, .inr (5, [.int 4, .int 4, .int (-1), .int 0, .ref b0, .ref b1, .ref b2, .ref b3, .ref b4, .int 0, .int 16, .int 4, .ref b5, .ref b6, .ref b7, .int c2])), (b5, .inl (k3, 4, .inl (upd (fun _ => 0) 0 15))), (b6, .inl (k4, 16, .inl (fun _ => 0))), (b7, .inl (k5, 1820, .inl (fun _ => 0)))] H := hP
  have hD : va_D A [(h0, .inr (5, [.int 4, .int 4, .int (-1), .int 0, .ref b0, .ref b1, .ref b2, .ref b3, .ref b4, .int 0, .int 16, .int 4, .ref b5, .ref b6, .ref b7, .int c2])), (b5, .inl (k3, 4, .inl (upd (fun _ => 0) 0 15))), (b6, .inl (k4, 16, .inl (fun _ => 0))), (b7, .inl (k5, 1820, .inl (fun _ => 0)))] := hD
  refine lv_iinc (v := 1) (lv' := [(1, .int 1), (0, .ref h0)]) hx hb dX5_settle_83 hl (k := 0) rfl (by decide) (by decide) rfl (fun ls hl => ?_)
  refine lv_goto (tgt := 41) hx hb dX5_settle_86 (by decide) ?_
  refine lv_iload_n hx hb dX5_settle_41 rfl (lv_at hl 0 rfl) ?_
  refine lv_aload_n hx hb dX5_settle_42 rfl (lv_at hl 1 rfl) ?_
  refine W.eq (g2 := F0 m 43 ls [.ref h0, .int 1]) rfl ?_
  refine va_get (D := D) (ci := 5) (v := .ref b5) (C := RX5) (T := TX5) (N := 16) hx hb hts inX5 hown hK hP 0 rfl rfl 12 (by decide) (hts _ kw_231) (fun _ h9 => h9) rfl dX5_settle_43 ?_
  refine va_alen (v := 4) hx hb hK hP 1 0 rfl rfl rfl dX5_settle_46 ?_
  refine lv_icmp_ge (tgt := 89) hx hb dX5_settle_47 (by decide) (fun h => absurd h (by decide)) (fun _ => ?_)
  refine lv_aload_n hx hb dX5_settle_50 rfl (lv_at hl 1 rfl) ?_
  refine va_get (D := D) (ci := 5) (v := .ref b5) (C := RX5) (T := TX5) (N := 16) hx hb hts inX5 hown hK hP 0 rfl rfl 12 (by decide) (hts _ kw_231) (fun _ h9 => h9) rfl dX5_settle_51 ?_
  refine lv_iload_n hx hb dX5_settle_54 rfl (lv_at hl 0 rfl) ?_
  refine lv_iload_n hx hb dX5_settle_55 rfl (lv_at hl 0 rfl) ?_
  refine lv_aload_n hx hb dX5_settle_56 rfl (lv_at hl 1 rfl) ?_
  refine va_get (D := D) (ci := 5) (v := .int 4) (C := RX5) (T := TX5) (N := 16) hx hb hts inX5 hown hK hP 0 rfl rfl 0 (by decide) (hts _ kw_188) (fun _ h9 => h9) rfl dX5_settle_57 ?_
  refine lv_icmp_ge (tgt := 81) hx hb dX5_settle_60 (by decide) (fun h => absurd h (by decide)) (fun _ => ?_)
  refine W.eq (g2 := F0 m 63 ls [.int 1, .ref b5]) rfl ?_
  refine lv_iconst (v := 1) hx hb dX5_settle_63 (by decide) ?_
  refine lv_aload_n hx hb dX5_settle_64 rfl (lv_at hl 1 rfl) ?_
  refine va_get (D := D) (ci := 5) (v := .int 4) (C := RX5) (T := TX5) (N := 16) hx hb hts inX5 hown hK hP 0 rfl rfl 1 (by decide) (hts _ kw_192) (fun _ h9 => h9) rfl dX5_settle_65 ?_
  refine lv_ishl hx hb dX5_settle_68 ?_
  refine z_i (v := 16) (by decide) ?_
  refine lv_iconst (v := 1) hx hb dX5_settle_69 (by decide) ?_
  refine lv_isub hx hb dX5_settle_70 ?_
  refine z_i (v := 15) (by decide) ?_
  refine lv_iload_n hx hb dX5_settle_71 rfl (lv_at hl 0 rfl) ?_
  refine lv_aload_n hx hb dX5_settle_72 rfl (lv_at hl 1 rfl) ?_
  refine va_get (D := D) (ci := 5) (v := .int 4) (C := RX5) (T := TX5) (N := 16) hx hb hts inX5 hown hK hP 0 rfl rfl 1 (by decide) (hts _ kw_192) (fun _ h9 => h9) rfl dX5_settle_73 ?_
  refine lv_imul hx hb dX5_settle_76 ?_
  refine z_i (v := 4) (by decide) ?_
  refine W.eq (g2 := F0 m 77 ls [.int 4, .int 15, .int 1, .ref b5]) rfl ?_
  refine lv_ishl hx hb dX5_settle_77 ?_
  refine z_i (v := 240) (by decide) ?_
  refine lv_goto (tgt := 82) hx hb dX5_settle_78 (by decide) ?_
  refine va_iast hx hb hK hP hD hS 1 0 rfl rfl (z_in (by decide)) dX5_settle_82 (fun H locs hP hD hS => ?_)
  have hP : va_P D vwCl [(h0, .inr (5, [.int 4, .int 4, .int (-1), .int 0, .ref b0, .ref b1, .ref b2, .ref b3, .ref b4, .int 0, .int 16, .int 4, .ref b5, .ref b6, .ref b7, .int c2])), (b5, .inl (k3, 4, .inl (upd (upd (fun _ => 0) 0 15) 1 240))), (b6, .inl (k4, 16, .inl (fun _ => 0))), (b7, .inl (k5, 1820, .inl (fun _ => 0)))] H := hP
  have hD : va_D A [(h0, .inr (5, [.int 4, .int 4, .int (-1), .int 0, .ref b0, .ref b1, .ref b2, .ref b3, .ref b4, .int 0, .int 16, .int 4, .ref b5, .ref b6, .ref b7, .int c2])), (b5, .inl (k3, 4, .inl (upd (upd (fun _ => 0) 0 15) 1 240))), (b6, .inl (k4, 16, .inl (fun _ => 0))), (b7, .inl (k5, 1820, .inl (fun _ => 0)))] := hD
  refine lv_iinc (v := 2) (lv' := [(1, .int 2), (0, .ref h0)]) hx hb dX5_settle_83 hl (k := 0) rfl (by decide) (by decide) rfl (fun ls hl => ?_)
  refine lv_goto (tgt := 41) hx hb dX5_settle_86 (by decide) ?_
  refine lv_iload_n hx hb dX5_settle_41 rfl (lv_at hl 0 rfl) ?_
  refine lv_aload_n hx hb dX5_settle_42 rfl (lv_at hl 1 rfl) ?_
  refine va_get (D := D) (ci := 5) (v := .ref b5) (C := RX5) (T := TX5) (N := 16) hx hb hts inX5 hown hK hP 0 rfl rfl 12 (by decide) (hts _ kw_231) (fun _ h9 => h9) rfl dX5_settle_43 ?_
  refine va_alen (v := 4) hx hb hK hP 1 0 rfl rfl rfl dX5_settle_46 ?_
  refine lv_icmp_ge (tgt := 89) hx hb dX5_settle_47 (by decide) (fun h => absurd h (by decide)) (fun _ => ?_)
  refine W.eq (g2 := F0 m 50 ls []) rfl ?_
  refine lv_aload_n hx hb dX5_settle_50 rfl (lv_at hl 1 rfl) ?_
  refine va_get (D := D) (ci := 5) (v := .ref b5) (C := RX5) (T := TX5) (N := 16) hx hb hts inX5 hown hK hP 0 rfl rfl 12 (by decide) (hts _ kw_231) (fun _ h9 => h9) rfl dX5_settle_51 ?_
  refine lv_iload_n hx hb dX5_settle_54 rfl (lv_at hl 0 rfl) ?_
  refine lv_iload_n hx hb dX5_settle_55 rfl (lv_at hl 0 rfl) ?_
  refine lv_aload_n hx hb dX5_settle_56 rfl (lv_at hl 1 rfl) ?_
  refine va_get (D := D) (ci := 5) (v := .int 4) (C := RX5) (T := TX5) (N := 16) hx hb hts inX5 hown hK hP 0 rfl rfl 0 (by decide) (hts _ kw_188) (fun _ h9 => h9) rfl dX5_settle_57 ?_
  refine lv_icmp_ge (tgt := 81) hx hb dX5_settle_60 (by decide) (fun h => absurd h (by decide)) (fun _ => ?_)
  refine lv_iconst (v := 1) hx hb dX5_settle_63 (by decide) ?_
  refine lv_aload_n hx hb dX5_settle_64 rfl (lv_at hl 1 rfl) ?_
  refine va_get (D := D) (ci := 5) (v := .int 4) (C := RX5) (T := TX5) (N := 16) hx hb hts inX5 hown hK hP 0 rfl rfl 1 (by decide) (hts _ kw_192) (fun _ h9 => h9) rfl dX5_settle_65 ?_
  refine W.eq (g2 := F0 m 68 ls [.int 4, .int 1, .int 2, .ref b5]) rfl ?_
  refine lv_ishl hx hb dX5_settle_68 ?_
  refine z_i (v := 16) (by decide) ?_
  refine lv_iconst (v := 1) hx hb dX5_settle_69 (by decide) ?_
  refine lv_isub hx hb dX5_settle_70 ?_
  refine z_i (v := 15) (by decide) ?_
  refine lv_iload_n hx hb dX5_settle_71 rfl (lv_at hl 0 rfl) ?_
  refine lv_aload_n hx hb dX5_settle_72 rfl (lv_at hl 1 rfl) ?_
  refine va_get (D := D) (ci := 5) (v := .int 4) (C := RX5) (T := TX5) (N := 16) hx hb hts inX5 hown hK hP 0 rfl rfl 1 (by decide) (hts _ kw_192) (fun _ h9 => h9) rfl dX5_settle_73 ?_
  refine lv_imul hx hb dX5_settle_76 ?_
  refine z_i (v := 8) (by decide) ?_
  refine lv_ishl hx hb dX5_settle_77 ?_
  refine z_i (v := 3840) (by decide) ?_
  refine lv_goto (tgt := 82) hx hb dX5_settle_78 (by decide) ?_
  refine va_iast hx hb hK hP hD hS 1 0 rfl rfl (z_in (by decide)) dX5_settle_82 (fun H locs hP hD hS => ?_)
  have hP : va_P D vwCl [(h0, .inr (5, [.int 4, .int 4, .int (-1), .int 0, .ref b0, .ref b1, .ref b2, .ref b3, .ref b4, .int 0, .int 16, .int 4, .ref b5, .ref b6, .ref b7, .int c2])), (b5, .inl (k3, 4, .inl (upd (upd (upd (fun _ => 0) 0 15) 1 240) 2 3840))), (b6, .inl (k4, 16, .inl (fun _ => 0))), (b7, .inl (k5, 1820, .inl (fun _ => 0)))] H := hP
  have hD : va_D A [(h0, .inr (5, [.int 4, .int 4, .int (-1), .int 0, .ref b0, .ref b1, .ref b2, .ref b3, .ref b4, .int 0, .int 16, .int 4, .ref b5, .ref b6, .ref b7, .int c2])), (b5, .inl (k3, 4, .inl (upd (upd (upd (fun _ => 0) 0 15) 1 240) 2 3840))), (b6, .inl (k4, 16, .inl (fun _ => 0))), (b7, .inl (k5, 1820, .inl (fun _ => 0)))] := hD
  refine W.eq (g2 := F0 m 83 ls []) rfl ?_
  refine lv_iinc (v := 3) (lv' := [(1, .int 3), (0, .ref h0)]) hx hb dX5_settle_83 hl (k := 0) rfl (by decide) (by decide) rfl (fun ls hl => ?_)
  refine lv_goto (tgt := 41) hx hb dX5_settle_86 (by decide) ?_
  refine lv_iload_n hx hb dX5_settle_41 rfl (lv_at hl 0 rfl) ?_
  refine lv_aload_n hx hb dX5_settle_42 rfl (lv_at hl 1 rfl) ?_
  refine va_get (D := D) (ci := 5) (v := .ref b5) (C := RX5) (T := TX5) (N := 16) hx hb hts inX5 hown hK hP 0 rfl rfl 12 (by decide) (hts _ kw_231) (fun _ h9 => h9) rfl dX5_settle_43 ?_
  refine va_alen (v := 4) hx hb hK hP 1 0 rfl rfl rfl dX5_settle_46 ?_
  refine lv_icmp_ge (tgt := 89) hx hb dX5_settle_47 (by decide) (fun h => absurd h (by decide)) (fun _ => ?_)
  refine lv_aload_n hx hb dX5_settle_50 rfl (lv_at hl 1 rfl) ?_
  refine va_get (D := D) (ci := 5) (v := .ref b5) (C := RX5) (T := TX5) (N := 16) hx hb hts inX5 hown hK hP 0 rfl rfl 12 (by decide) (hts _ kw_231) (fun _ h9 => h9) rfl dX5_settle_51 ?_
  refine lv_iload_n hx hb dX5_settle_54 rfl (lv_at hl 0 rfl) ?_
  refine W.eq (g2 := F0 m 55 ls [.int 3, .ref b5]) rfl ?_
  refine lv_iload_n hx hb dX5_settle_55 rfl (lv_at hl 0 rfl) ?_
  refine lv_aload_n hx hb dX5_settle_56 rfl (lv_at hl 1 rfl) ?_
  refine va_get (D := D) (ci := 5) (v := .int 4) (C := RX5) (T := TX5) (N := 16) hx hb hts inX5 hown hK hP 0 rfl rfl 0 (by decide) (hts _ kw_188) (fun _ h9 => h9) rfl dX5_settle_57 ?_
  refine lv_icmp_ge (tgt := 81) hx hb dX5_settle_60 (by decide) (fun h => absurd h (by decide)) (fun _ => ?_)
  refine lv_iconst (v := 1) hx hb dX5_settle_63 (by decide) ?_
  refine lv_aload_n hx hb dX5_settle_64 rfl (lv_at hl 1 rfl) ?_
  refine va_get (D := D) (ci := 5) (v := .int 4) (C := RX5) (T := TX5) (N := 16) hx hb hts inX5 hown hK hP 0 rfl rfl 1 (by decide) (hts _ kw_192) (fun _ h9 => h9) rfl dX5_settle_65 ?_
  refine lv_ishl hx hb dX5_settle_68 ?_
  refine z_i (v := 16) (by decide) ?_
  refine lv_iconst (v := 1) hx hb dX5_settle_69 (by decide) ?_
  refine lv_isub hx hb dX5_settle_70 ?_
  refine z_i (v := 15) (by decide) ?_
  refine W.eq (g2 := F0 m 71 ls [.int 15, .int 3, .ref b5]) rfl ?_
  refine lv_iload_n hx hb dX5_settle_71 rfl (lv_at hl 0 rfl) ?_
  refine lv_aload_n hx hb dX5_settle_72 rfl (lv_at hl 1 rfl) ?_
  refine va_get (D := D) (ci := 5) (v := .int 4) (C := RX5) (T := TX5) (N := 16) hx hb hts inX5 hown hK hP 0 rfl rfl 1 (by decide) (hts _ kw_192) (fun _ h9 => h9) rfl dX5_settle_73 ?_
  refine lv_imul hx hb dX5_settle_76 ?_
  refine z_i (v := 12) (by decide) ?_
  refine lv_ishl hx hb dX5_settle_77 ?_
  refine z_i (v := 61440) (by decide) ?_
  refine lv_goto (tgt := 82) hx hb dX5_settle_78 (by decide) ?_
  refine va_iast hx hb hK hP hD hS 1 0 rfl rfl (z_in (by decide)) dX5_settle_82 (fun H locs hP hD hS => ?_)
  have hP : va_P D vwCl [(h0, .inr (5, [.int 4, .int 4, .int (-1), .int 0, .ref b0, .ref b1, .ref b2, .ref b3, .ref b4, .int 0, .int 16, .int 4, .ref b5, .ref b6, .ref b7, .int c2])), (b5, .inl (k3, 4, .inl (upd (upd (upd (upd (fun _ => 0) 0 15) 1 240) 2 3840) 3 61440))), (b6, .inl (k4, 16, .inl (fun _ => 0))), (b7, .inl (k5, 1820, .inl (fun _ => 0)))] H := hP
  have hD : va_D A [(h0, .inr (5, [.int 4, .int 4, .int (-1), .int 0, .ref b0, .ref b1, .ref b2, .ref b3, .ref b4, .int 0, .int 16, .int 4, .ref b5, .ref b6, .ref b7, .int c2])), (b5, .inl (k3, 4, .inl (upd (upd (upd (upd (fun _ => 0) 0 15) 1 240) 2 3840) 3 61440))), (b6, .inl (k4, 16, .inl (fun _ => 0))), (b7, .inl (k5, 1820, .inl (fun _ => 0)))] := hD
  refine lv_iinc (v := 4) (lv' := [(1, .int 4), (0, .ref h0)]) hx hb dX5_settle_83 hl (k := 0) rfl (by decide) (by decide) rfl (fun ls hl => ?_)
  refine lv_goto (tgt := 41) hx hb dX5_settle_86 (by decide) ?_
  refine lv_iload_n hx hb dX5_settle_41 rfl (lv_at hl 0 rfl) ?_
  refine W.eq (g2 := F0 m 42 ls [.int 4]) rfl ?_
  refine lv_aload_n hx hb dX5_settle_42 rfl (lv_at hl 1 rfl) ?_
  refine va_get (D := D) (ci := 5) (v := .ref b5) (C := RX5) (T := TX5) (N := 16) hx hb hts inX5 hown hK hP 0 rfl rfl 12 (by decide) (hts _ kw_231) (fun _ h9 => h9) rfl dX5_settle_43 ?_
  refine va_alen (v := 4) hx hb hK hP 1 0 rfl rfl rfl dX5_settle_46 ?_
  refine lv_icmp_ge (tgt := 89) hx hb dX5_settle_47 (by decide) (fun _ => ?_) (fun h => absurd (by decide) h)
  refine lv_iconst (v := 0) hx hb dX5_settle_89 (by decide) ?_
  refine lv_istore_n (lv' := [(1, .int 0), (0, .ref h0)]) hx hb dX5_settle_90 rfl hl (by decide) rfl (fun ls hl => ?_)
  refine lv_iload_n hx hb dX5_settle_91 rfl (lv_at hl 0 rfl) ?_
  refine lv_aload_n hx hb dX5_settle_92 rfl (lv_at hl 1 rfl) ?_
  refine va_get (D := D) (ci := 5) (v := .ref b6) (C := RX5) (T := TX5) (N := 16) hx hb hts inX5 hown hK hP 0 rfl rfl 13 (by decide) (hts _ kw_236) (fun _ h9 => h9) rfl dX5_settle_93 ?_
  refine va_alen (v := 16) hx hb hK hP 2 1 rfl rfl rfl dX5_settle_96 ?_
  refine W.eq (g2 := F0 m 97 ls [.int 16, .int 0]) rfl ?_
  refine lv_icmp_ge (tgt := 137) hx hb dX5_settle_97 (by decide) (fun h => absurd h (by decide)) (fun _ => ?_)
  refine lv_aload_n hx hb dX5_settle_100 rfl (lv_at hl 1 rfl) ?_
  refine va_get (D := D) (ci := 5) (v := .ref b6) (C := RX5) (T := TX5) (N := 16) hx hb hts inX5 hown hK hP 0 rfl rfl 13 (by decide) (hts _ kw_236) (fun _ h9 => h9) rfl dX5_settle_101 ?_
  refine lv_iload_n hx hb dX5_settle_104 rfl (lv_at hl 0 rfl) ?_
  refine lv_iload_n hx hb dX5_settle_105 rfl (lv_at hl 0 rfl) ?_
  refine lv_aload_n hx hb dX5_settle_106 rfl (lv_at hl 1 rfl) ?_
  refine va_get (D := D) (ci := 5) (v := .int 16) (C := RX5) (T := TX5) (N := 16) hx hb hts inX5 hown hK hP 0 rfl rfl 10 (by decide) (hts _ kw_222) (fun _ h9 => h9) rfl dX5_settle_107 ?_
  refine lv_icmp_ge (tgt := 129) hx hb dX5_settle_110 (by decide) (fun h => absurd h (by decide)) (fun _ => ?_)
  refine lv_aload_n hx hb dX5_settle_113 rfl (lv_at hl 1 rfl) ?_
  refine va_get (D := D) (ci := 5) (v := .int 4) (C := RX5) (T := TX5) (N := 16) hx hb hts inX5 hown hK hP 0 rfl rfl 1 (by decide) (hts _ kw_192) (fun _ h9 => h9) rfl dX5_settle_114 ?_
  refine W.eq (g2 := F0 m 117 ls [.int 4, .int 0, .ref b6]) rfl ?_
  refine lv_if_le (tgt := 129) hx hb dX5_settle_117 (by decide) (fun h => absurd h (by decide)) (fun _ => ?_)
  refine lv_iload_n hx hb dX5_settle_120 rfl (lv_at hl 0 rfl) ?_
  refine lv_aload_n hx hb dX5_settle_121 rfl (lv_at hl 1 rfl) ?_
  refine va_get (D := D) (ci := 5) (v := .int 4) (C := RX5) (T := TX5) (N := 16) hx hb hts inX5 hown hK hP 0 rfl rfl 1 (by decide) (hts _ kw_192) (fun _ h9 => h9) rfl dX5_settle_122 ?_
  refine lv_idiv hx hb dX5_settle_125 (by decide) ?_
  refine z_i (v := 0) (by decide) ?_
  refine lv_goto (tgt := 130) hx hb dX5_settle_126 (by decide) ?_
  refine va_iast hx hb hK hP hD hS 2 1 rfl rfl (z_in (by decide)) dX5_settle_130 (fun H locs hP hD hS => ?_)
  have hP : va_P D vwCl [(h0, .inr (5, [.int 4, .int 4, .int (-1), .int 0, .ref b0, .ref b1, .ref b2, .ref b3, .ref b4, .int 0, .int 16, .int 4, .ref b5, .ref b6, .ref b7, .int c2])), (b5, .inl (k3, 4, .inl (upd (upd (upd (upd (fun _ => 0) 0 15) 1 240) 2 3840) 3 61440))), (b6, .inl (k4, 16, .inl (upd (fun _ => 0) 0 0))), (b7, .inl (k5, 1820, .inl (fun _ => 0)))] H := hP
  have hD : va_D A [(h0, .inr (5, [.int 4, .int 4, .int (-1), .int 0, .ref b0, .ref b1, .ref b2, .ref b3, .ref b4, .int 0, .int 16, .int 4, .ref b5, .ref b6, .ref b7, .int c2])), (b5, .inl (k3, 4, .inl (upd (upd (upd (upd (fun _ => 0) 0 15) 1 240) 2 3840) 3 61440))), (b6, .inl (k4, 16, .inl (upd (fun _ => 0) 0 0))), (b7, .inl (k5, 1820, .inl (fun _ => 0)))] := hD
  refine lv_iinc (v := 1) (lv' := [(1, .int 1), (0, .ref h0)]) hx hb dX5_settle_131 hl (k := 0) rfl (by decide) (by decide) rfl (fun ls hl => ?_)
  refine lv_goto (tgt := 91) hx hb dX5_settle_134 (by decide) ?_
  refine lv_iload_n hx hb dX5_settle_91 rfl (lv_at hl 0 rfl) ?_
  refine W.eq (g2 := F0 m 92 ls [.int 1]) rfl ?_
  refine lv_aload_n hx hb dX5_settle_92 rfl (lv_at hl 1 rfl) ?_
  refine va_get (D := D) (ci := 5) (v := .ref b6) (C := RX5) (T := TX5) (N := 16) hx hb hts inX5 hown hK hP 0 rfl rfl 13 (by decide) (hts _ kw_236) (fun _ h9 => h9) rfl dX5_settle_93 ?_
  refine va_alen (v := 16) hx hb hK hP 2 1 rfl rfl rfl dX5_settle_96 ?_
  refine lv_icmp_ge (tgt := 137) hx hb dX5_settle_97 (by decide) (fun h => absurd h (by decide)) (fun _ => ?_)
  refine lv_aload_n hx hb dX5_settle_100 rfl (lv_at hl 1 rfl) ?_
  refine va_get (D := D) (ci := 5) (v := .ref b6) (C := RX5) (T := TX5) (N := 16) hx hb hts inX5 hown hK hP 0 rfl rfl 13 (by decide) (hts _ kw_236) (fun _ h9 => h9) rfl dX5_settle_101 ?_
  refine lv_iload_n hx hb dX5_settle_104 rfl (lv_at hl 0 rfl) ?_
  refine lv_iload_n hx hb dX5_settle_105 rfl (lv_at hl 0 rfl) ?_
  refine lv_aload_n hx hb dX5_settle_106 rfl (lv_at hl 1 rfl) ?_
  refine va_get (D := D) (ci := 5) (v := .int 16) (C := RX5) (T := TX5) (N := 16) hx hb hts inX5 hown hK hP 0 rfl rfl 10 (by decide) (hts _ kw_222) (fun _ h9 => h9) rfl dX5_settle_107 ?_
  refine W.eq (g2 := F0 m 110 ls [.int 16, .int 1, .int 1, .ref b6]) rfl ?_
  refine lv_icmp_ge (tgt := 129) hx hb dX5_settle_110 (by decide) (fun h => absurd h (by decide)) (fun _ => ?_)
  refine lv_aload_n hx hb dX5_settle_113 rfl (lv_at hl 1 rfl) ?_
  refine va_get (D := D) (ci := 5) (v := .int 4) (C := RX5) (T := TX5) (N := 16) hx hb hts inX5 hown hK hP 0 rfl rfl 1 (by decide) (hts _ kw_192) (fun _ h9 => h9) rfl dX5_settle_114 ?_
  refine lv_if_le (tgt := 129) hx hb dX5_settle_117 (by decide) (fun h => absurd h (by decide)) (fun _ => ?_)
  refine lv_iload_n hx hb dX5_settle_120 rfl (lv_at hl 0 rfl) ?_
  refine lv_aload_n hx hb dX5_settle_121 rfl (lv_at hl 1 rfl) ?_
  refine va_get (D := D) (ci := 5) (v := .int 4) (C := RX5) (T := TX5) (N := 16) hx hb hts inX5 hown hK hP 0 rfl rfl 1 (by decide) (hts _ kw_192) (fun _ h9 => h9) rfl dX5_settle_122 ?_
  refine lv_idiv hx hb dX5_settle_125 (by decide) ?_
  refine z_i (v := 0) (by decide) ?_
  refine lv_goto (tgt := 130) hx hb dX5_settle_126 (by decide) ?_
  refine va_iast hx hb hK hP hD hS 2 1 rfl rfl (z_in (by decide)) dX5_settle_130 (fun H locs hP hD hS => ?_)
  have hP : va_P D vwCl [(h0, .inr (5, [.int 4, .int 4, .int (-1), .int 0, .ref b0, .ref b1, .ref b2, .ref b3, .ref b4, .int 0, .int 16, .int 4, .ref b5, .ref b6, .ref b7, .int c2])), (b5, .inl (k3, 4, .inl (upd (upd (upd (upd (fun _ => 0) 0 15) 1 240) 2 3840) 3 61440))), (b6, .inl (k4, 16, .inl (upd (upd (fun _ => 0) 0 0) 1 0))), (b7, .inl (k5, 1820, .inl (fun _ => 0)))] H := hP
  have hD : va_D A [(h0, .inr (5, [.int 4, .int 4, .int (-1), .int 0, .ref b0, .ref b1, .ref b2, .ref b3, .ref b4, .int 0, .int 16, .int 4, .ref b5, .ref b6, .ref b7, .int c2])), (b5, .inl (k3, 4, .inl (upd (upd (upd (upd (fun _ => 0) 0 15) 1 240) 2 3840) 3 61440))), (b6, .inl (k4, 16, .inl (upd (upd (fun _ => 0) 0 0) 1 0))), (b7, .inl (k5, 1820, .inl (fun _ => 0)))] := hD
  refine W.eq (g2 := F0 m 131 ls []) rfl ?_
  refine lv_iinc (v := 2) (lv' := [(1, .int 2), (0, .ref h0)]) hx hb dX5_settle_131 hl (k := 0) rfl (by decide) (by decide) rfl (fun ls hl => ?_)
  refine lv_goto (tgt := 91) hx hb dX5_settle_134 (by decide) ?_
  refine lv_iload_n hx hb dX5_settle_91 rfl (lv_at hl 0 rfl) ?_
  refine lv_aload_n hx hb dX5_settle_92 rfl (lv_at hl 1 rfl) ?_
  refine va_get (D := D) (ci := 5) (v := .ref b6) (C := RX5) (T := TX5) (N := 16) hx hb hts inX5 hown hK hP 0 rfl rfl 13 (by decide) (hts _ kw_236) (fun _ h9 => h9) rfl dX5_settle_93 ?_
  refine va_alen (v := 16) hx hb hK hP 2 1 rfl rfl rfl dX5_settle_96 ?_
  refine lv_icmp_ge (tgt := 137) hx hb dX5_settle_97 (by decide) (fun h => absurd h (by decide)) (fun _ => ?_)
  refine lv_aload_n hx hb dX5_settle_100 rfl (lv_at hl 1 rfl) ?_
  refine va_get (D := D) (ci := 5) (v := .ref b6) (C := RX5) (T := TX5) (N := 16) hx hb hts inX5 hown hK hP 0 rfl rfl 13 (by decide) (hts _ kw_236) (fun _ h9 => h9) rfl dX5_settle_101 ?_
  refine lv_iload_n hx hb dX5_settle_104 rfl (lv_at hl 0 rfl) ?_
  refine W.eq (g2 := F0 m 105 ls [.int 2, .ref b6]) rfl ?_
  refine lv_iload_n hx hb dX5_settle_105 rfl (lv_at hl 0 rfl) ?_
  refine lv_aload_n hx hb dX5_settle_106 rfl (lv_at hl 1 rfl) ?_
  refine va_get (D := D) (ci := 5) (v := .int 16) (C := RX5) (T := TX5) (N := 16) hx hb hts inX5 hown hK hP 0 rfl rfl 10 (by decide) (hts _ kw_222) (fun _ h9 => h9) rfl dX5_settle_107 ?_
  refine lv_icmp_ge (tgt := 129) hx hb dX5_settle_110 (by decide) (fun h => absurd h (by decide)) (fun _ => ?_)
  refine lv_aload_n hx hb dX5_settle_113 rfl (lv_at hl 1 rfl) ?_
  refine va_get (D := D) (ci := 5) (v := .int 4) (C := RX5) (T := TX5) (N := 16) hx hb hts inX5 hown hK hP 0 rfl rfl 1 (by decide) (hts _ kw_192) (fun _ h9 => h9) rfl dX5_settle_114 ?_
  refine lv_if_le (tgt := 129) hx hb dX5_settle_117 (by decide) (fun h => absurd h (by decide)) (fun _ => ?_)
  refine lv_iload_n hx hb dX5_settle_120 rfl (lv_at hl 0 rfl) ?_
  refine lv_aload_n hx hb dX5_settle_121 rfl (lv_at hl 1 rfl) ?_
  refine va_get (D := D) (ci := 5) (v := .int 4) (C := RX5) (T := TX5) (N := 16) hx hb hts inX5 hown hK hP 0 rfl rfl 1 (by decide) (hts _ kw_192) (fun _ h9 => h9) rfl dX5_settle_122 ?_
  refine W.eq (g2 := F0 m 125 ls [.int 4, .int 2, .int 2, .ref b6]) rfl ?_
  refine lv_idiv hx hb dX5_settle_125 (by decide) ?_
  refine z_i (v := 0) (by decide) ?_
  refine lv_goto (tgt := 130) hx hb dX5_settle_126 (by decide) ?_
  refine va_iast hx hb hK hP hD hS 2 1 rfl rfl (z_in (by decide)) dX5_settle_130 (fun H locs hP hD hS => ?_)
  have hP : va_P D vwCl [(h0, .inr (5, [.int 4, .int 4, .int (-1), .int 0, .ref b0, .ref b1, .ref b2, .ref b3, .ref b4, .int 0, .int 16, .int 4, .ref b5, .ref b6, .ref b7, .int c2])), (b5, .inl (k3, 4, .inl (upd (upd (upd (upd (fun _ => 0) 0 15) 1 240) 2 3840) 3 61440))), (b6, .inl (k4, 16, .inl (upd (upd (upd (fun _ => 0) 0 0) 1 0) 2 0))), (b7, .inl (k5, 1820, .inl (fun _ => 0)))] H := hP
  have hD : va_D A [(h0, .inr (5, [.int 4, .int 4, .int (-1), .int 0, .ref b0, .ref b1, .ref b2, .ref b3, .ref b4, .int 0, .int 16, .int 4, .ref b5, .ref b6, .ref b7, .int c2])), (b5, .inl (k3, 4, .inl (upd (upd (upd (upd (fun _ => 0) 0 15) 1 240) 2 3840) 3 61440))), (b6, .inl (k4, 16, .inl (upd (upd (upd (fun _ => 0) 0 0) 1 0) 2 0))), (b7, .inl (k5, 1820, .inl (fun _ => 0)))] := hD
  refine lv_iinc (v := 3) (lv' := [(1, .int 3), (0, .ref h0)]) hx hb dX5_settle_131 hl (k := 0) rfl (by decide) (by decide) rfl (fun ls hl => ?_)
  refine lv_goto (tgt := 91) hx hb dX5_settle_134 (by decide) ?_
  refine lv_iload_n hx hb dX5_settle_91 rfl (lv_at hl 0 rfl) ?_
  refine lv_aload_n hx hb dX5_settle_92 rfl (lv_at hl 1 rfl) ?_
  refine va_get (D := D) (ci := 5) (v := .ref b6) (C := RX5) (T := TX5) (N := 16) hx hb hts inX5 hown hK hP 0 rfl rfl 13 (by decide) (hts _ kw_236) (fun _ h9 => h9) rfl dX5_settle_93 ?_
  refine va_alen (v := 16) hx hb hK hP 2 1 rfl rfl rfl dX5_settle_96 ?_
  refine lv_icmp_ge (tgt := 137) hx hb dX5_settle_97 (by decide) (fun h => absurd h (by decide)) (fun _ => ?_)
  refine W.eq (g2 := F0 m 100 ls []) rfl ?_
  refine lv_aload_n hx hb dX5_settle_100 rfl (lv_at hl 1 rfl) ?_
  refine va_get (D := D) (ci := 5) (v := .ref b6) (C := RX5) (T := TX5) (N := 16) hx hb hts inX5 hown hK hP 0 rfl rfl 13 (by decide) (hts _ kw_236) (fun _ h9 => h9) rfl dX5_settle_101 ?_
  refine lv_iload_n hx hb dX5_settle_104 rfl (lv_at hl 0 rfl) ?_
  refine lv_iload_n hx hb dX5_settle_105 rfl (lv_at hl 0 rfl) ?_
  refine lv_aload_n hx hb dX5_settle_106 rfl (lv_at hl 1 rfl) ?_
  refine va_get (D := D) (ci := 5) (v := .int 16) (C := RX5) (T := TX5) (N := 16) hx hb hts inX5 hown hK hP 0 rfl rfl 10 (by decide) (hts _ kw_222) (fun _ h9 => h9) rfl dX5_settle_107 ?_
  refine lv_icmp_ge (tgt := 129) hx hb dX5_settle_110 (by decide) (fun h => absurd h (by decide)) (fun _ => ?_)
  refine lv_aload_n hx hb dX5_settle_113 rfl (lv_at hl 1 rfl) ?_
  refine va_get (D := D) (ci := 5) (v := .int 4) (C := RX5) (T := TX5) (N := 16) hx hb hts inX5 hown hK hP 0 rfl rfl 1 (by decide) (hts _ kw_192) (fun _ h9 => h9) rfl dX5_settle_114 ?_
  refine lv_if_le (tgt := 129) hx hb dX5_settle_117 (by decide) (fun h => absurd h (by decide)) (fun _ => ?_)
  refine W.eq (g2 := F0 m 120 ls [.int 3, .ref b6]) rfl ?_
  refine lv_iload_n hx hb dX5_settle_120 rfl (lv_at hl 0 rfl) ?_
  refine lv_aload_n hx hb dX5_settle_121 rfl (lv_at hl 1 rfl) ?_
  refine va_get (D := D) (ci := 5) (v := .int 4) (C := RX5) (T := TX5) (N := 16) hx hb hts inX5 hown hK hP 0 rfl rfl 1 (by decide) (hts _ kw_192) (fun _ h9 => h9) rfl dX5_settle_122 ?_
  refine lv_idiv hx hb dX5_settle_125 (by decide) ?_
  refine z_i (v := 0) (by decide) ?_
  refine lv_goto (tgt := 130) hx hb dX5_settle_126 (by decide) ?_
  refine va_iast hx hb hK hP hD hS 2 1 rfl rfl (z_in (by decide)) dX5_settle_130 (fun H locs hP hD hS => ?_)
  have hP : va_P D vwCl [(h0, .inr (5, [.int 4, .int 4, .int (-1), .int 0, .ref b0, .ref b1, .ref b2, .ref b3, .ref b4, .int 0, .int 16, .int 4, .ref b5, .ref b6, .ref b7, .int c2])), (b5, .inl (k3, 4, .inl (upd (upd (upd (upd (fun _ => 0) 0 15) 1 240) 2 3840) 3 61440))), (b6, .inl (k4, 16, .inl (upd (upd (upd (upd (fun _ => 0) 0 0) 1 0) 2 0) 3 0))), (b7, .inl (k5, 1820, .inl (fun _ => 0)))] H := hP
  have hD : va_D A [(h0, .inr (5, [.int 4, .int 4, .int (-1), .int 0, .ref b0, .ref b1, .ref b2, .ref b3, .ref b4, .int 0, .int 16, .int 4, .ref b5, .ref b6, .ref b7, .int c2])), (b5, .inl (k3, 4, .inl (upd (upd (upd (upd (fun _ => 0) 0 15) 1 240) 2 3840) 3 61440))), (b6, .inl (k4, 16, .inl (upd (upd (upd (upd (fun _ => 0) 0 0) 1 0) 2 0) 3 0))), (b7, .inl (k5, 1820, .inl (fun _ => 0)))] := hD
  refine lv_iinc (v := 4) (lv' := [(1, .int 4), (0, .ref h0)]) hx hb dX5_settle_131 hl (k := 0) rfl (by decide) (by decide) rfl (fun ls hl => ?_)
  refine lv_goto (tgt := 91) hx hb dX5_settle_134 (by decide) ?_
  refine lv_iload_n hx hb dX5_settle_91 rfl (lv_at hl 0 rfl) ?_
  refine lv_aload_n hx hb dX5_settle_92 rfl (lv_at hl 1 rfl) ?_
  refine W.eq (g2 := F0 m 93 ls [.ref h0, .int 4]) rfl ?_
  refine va_get (D := D) (ci := 5) (v := .ref b6) (C := RX5) (T := TX5) (N := 16) hx hb hts inX5 hown hK hP 0 rfl rfl 13 (by decide) (hts _ kw_236) (fun _ h9 => h9) rfl dX5_settle_93 ?_
  refine va_alen (v := 16) hx hb hK hP 2 1 rfl rfl rfl dX5_settle_96 ?_
  refine lv_icmp_ge (tgt := 137) hx hb dX5_settle_97 (by decide) (fun h => absurd h (by decide)) (fun _ => ?_)
  refine lv_aload_n hx hb dX5_settle_100 rfl (lv_at hl 1 rfl) ?_
  refine va_get (D := D) (ci := 5) (v := .ref b6) (C := RX5) (T := TX5) (N := 16) hx hb hts inX5 hown hK hP 0 rfl rfl 13 (by decide) (hts _ kw_236) (fun _ h9 => h9) rfl dX5_settle_101 ?_
  refine lv_iload_n hx hb dX5_settle_104 rfl (lv_at hl 0 rfl) ?_
  refine lv_iload_n hx hb dX5_settle_105 rfl (lv_at hl 0 rfl) ?_
  refine lv_aload_n hx hb dX5_settle_106 rfl (lv_at hl 1 rfl) ?_
  refine va_get (D := D) (ci := 5) (v := .int 16) (C := RX5) (T := TX5) (N := 16) hx hb hts inX5 hown hK hP 0 rfl rfl 10 (by decide) (hts _ kw_222) (fun _ h9 => h9) rfl dX5_settle_107 ?_
  refine lv_icmp_ge (tgt := 129) hx hb dX5_settle_110 (by decide) (fun h => absurd h (by decide)) (fun _ => ?_)
  refine W.eq (g2 := F0 m 113 ls [.int 4, .ref b6]) rfl ?_
  refine lv_aload_n hx hb dX5_settle_113 rfl (lv_at hl 1 rfl) ?_
  refine va_get (D := D) (ci := 5) (v := .int 4) (C := RX5) (T := TX5) (N := 16) hx hb hts inX5 hown hK hP 0 rfl rfl 1 (by decide) (hts _ kw_192) (fun _ h9 => h9) rfl dX5_settle_114 ?_
  refine lv_if_le (tgt := 129) hx hb dX5_settle_117 (by decide) (fun h => absurd h (by decide)) (fun _ => ?_)
  refine lv_iload_n hx hb dX5_settle_120 rfl (lv_at hl 0 rfl) ?_
  refine lv_aload_n hx hb dX5_settle_121 rfl (lv_at hl 1 rfl) ?_
  refine va_get (D := D) (ci := 5) (v := .int 4) (C := RX5) (T := TX5) (N := 16) hx hb hts inX5 hown hK hP 0 rfl rfl 1 (by decide) (hts _ kw_192) (fun _ h9 => h9) rfl dX5_settle_122 ?_
  refine lv_idiv hx hb dX5_settle_125 (by decide) ?_
  refine z_i (v := 1) (by decide) ?_
  refine lv_goto (tgt := 130) hx hb dX5_settle_126 (by decide) ?_
  refine va_iast hx hb hK hP hD hS 2 1 rfl rfl (z_in (by decide)) dX5_settle_130 (fun H locs hP hD hS => ?_)
  have hP : va_P D vwCl [(h0, .inr (5, [.int 4, .int 4, .int (-1), .int 0, .ref b0, .ref b1, .ref b2, .ref b3, .ref b4, .int 0, .int 16, .int 4, .ref b5, .ref b6, .ref b7, .int c2])), (b5, .inl (k3, 4, .inl (upd (upd (upd (upd (fun _ => 0) 0 15) 1 240) 2 3840) 3 61440))), (b6, .inl (k4, 16, .inl (upd (upd (upd (upd (upd (fun _ => 0) 0 0) 1 0) 2 0) 3 0) 4 1))), (b7, .inl (k5, 1820, .inl (fun _ => 0)))] H := hP
  have hD : va_D A [(h0, .inr (5, [.int 4, .int 4, .int (-1), .int 0, .ref b0, .ref b1, .ref b2, .ref b3, .ref b4, .int 0, .int 16, .int 4, .ref b5, .ref b6, .ref b7, .int c2])), (b5, .inl (k3, 4, .inl (upd (upd (upd (upd (fun _ => 0) 0 15) 1 240) 2 3840) 3 61440))), (b6, .inl (k4, 16, .inl (upd (upd (upd (upd (upd (fun _ => 0) 0 0) 1 0) 2 0) 3 0) 4 1))), (b7, .inl (k5, 1820, .inl (fun _ => 0)))] := hD
  refine lv_iinc (v := 5) (lv' := [(1, .int 5), (0, .ref h0)]) hx hb dX5_settle_131 hl (k := 0) rfl (by decide) (by decide) rfl (fun ls hl => ?_)
  refine W.eq (g2 := F0 m 134 ls []) rfl ?_
  refine lv_goto (tgt := 91) hx hb dX5_settle_134 (by decide) ?_
  refine lv_iload_n hx hb dX5_settle_91 rfl (lv_at hl 0 rfl) ?_
  refine lv_aload_n hx hb dX5_settle_92 rfl (lv_at hl 1 rfl) ?_
  refine va_get (D := D) (ci := 5) (v := .ref b6) (C := RX5) (T := TX5) (N := 16) hx hb hts inX5 hown hK hP 0 rfl rfl 13 (by decide) (hts _ kw_236) (fun _ h9 => h9) rfl dX5_settle_93 ?_
  refine va_alen (v := 16) hx hb hK hP 2 1 rfl rfl rfl dX5_settle_96 ?_
  refine lv_icmp_ge (tgt := 137) hx hb dX5_settle_97 (by decide) (fun h => absurd h (by decide)) (fun _ => ?_)
  refine lv_aload_n hx hb dX5_settle_100 rfl (lv_at hl 1 rfl) ?_
  refine va_get (D := D) (ci := 5) (v := .ref b6) (C := RX5) (T := TX5) (N := 16) hx hb hts inX5 hown hK hP 0 rfl rfl 13 (by decide) (hts _ kw_236) (fun _ h9 => h9) rfl dX5_settle_101 ?_
  refine lv_iload_n hx hb dX5_settle_104 rfl (lv_at hl 0 rfl) ?_
  refine lv_iload_n hx hb dX5_settle_105 rfl (lv_at hl 0 rfl) ?_
  refine W.eq (g2 := F0 m 106 ls [.int 5, .int 5, .ref b6]) rfl ?_
  refine lv_aload_n hx hb dX5_settle_106 rfl (lv_at hl 1 rfl) ?_
  refine va_get (D := D) (ci := 5) (v := .int 16) (C := RX5) (T := TX5) (N := 16) hx hb hts inX5 hown hK hP 0 rfl rfl 10 (by decide) (hts _ kw_222) (fun _ h9 => h9) rfl dX5_settle_107 ?_
  refine lv_icmp_ge (tgt := 129) hx hb dX5_settle_110 (by decide) (fun h => absurd h (by decide)) (fun _ => ?_)
  refine lv_aload_n hx hb dX5_settle_113 rfl (lv_at hl 1 rfl) ?_
  refine va_get (D := D) (ci := 5) (v := .int 4) (C := RX5) (T := TX5) (N := 16) hx hb hts inX5 hown hK hP 0 rfl rfl 1 (by decide) (hts _ kw_192) (fun _ h9 => h9) rfl dX5_settle_114 ?_
  refine lv_if_le (tgt := 129) hx hb dX5_settle_117 (by decide) (fun h => absurd h (by decide)) (fun _ => ?_)
  refine lv_iload_n hx hb dX5_settle_120 rfl (lv_at hl 0 rfl) ?_
  refine lv_aload_n hx hb dX5_settle_121 rfl (lv_at hl 1 rfl) ?_
  refine va_get (D := D) (ci := 5) (v := .int 4) (C := RX5) (T := TX5) (N := 16) hx hb hts inX5 hown hK hP 0 rfl rfl 1 (by decide) (hts _ kw_192) (fun _ h9 => h9) rfl dX5_settle_122 ?_
  refine lv_idiv hx hb dX5_settle_125 (by decide) ?_
  refine z_i (v := 1) (by decide) ?_
  refine W.eq (g2 := F0 m 126 ls [.int 1, .int 5, .ref b6]) rfl ?_
  refine lv_goto (tgt := 130) hx hb dX5_settle_126 (by decide) ?_
  refine va_iast hx hb hK hP hD hS 2 1 rfl rfl (z_in (by decide)) dX5_settle_130 (fun H locs hP hD hS => ?_)
  have hP : va_P D vwCl [(h0, .inr (5, [.int 4, .int 4, .int (-1), .int 0, .ref b0, .ref b1, .ref b2, .ref b3, .ref b4, .int 0, .int 16, .int 4, .ref b5, .ref b6, .ref b7, .int c2])), (b5, .inl (k3, 4, .inl (upd (upd (upd (upd (fun _ => 0) 0 15) 1 240) 2 3840) 3 61440))), (b6, .inl (k4, 16, .inl (upd (upd (upd (upd (upd (upd (fun _ => 0) 0 0) 1 0) 2 0) 3 0) 4 1) 5 1))), (b7, .inl (k5, 1820, .inl (fun _ => 0)))] H := hP
  have hD : va_D A [(h0, .inr (5, [.int 4, .int 4, .int (-1), .int 0, .ref b0, .ref b1, .ref b2, .ref b3, .ref b4, .int 0, .int 16, .int 4, .ref b5, .ref b6, .ref b7, .int c2])), (b5, .inl (k3, 4, .inl (upd (upd (upd (upd (fun _ => 0) 0 15) 1 240) 2 3840) 3 61440))), (b6, .inl (k4, 16, .inl (upd (upd (upd (upd (upd (upd (fun _ => 0) 0 0) 1 0) 2 0) 3 0) 4 1) 5 1))), (b7, .inl (k5, 1820, .inl (fun _ => 0)))] := hD
  refine lv_iinc (v := 6) (lv' := [(1, .int 6), (0, .ref h0)]) hx hb dX5_settle_131 hl (k := 0) rfl (by decide) (by decide) rfl (fun ls hl => ?_)
  refine lv_goto (tgt := 91) hx hb dX5_settle_134 (by decide) ?_
  refine lv_iload_n hx hb dX5_settle_91 rfl (lv_at hl 0 rfl) ?_
  refine lv_aload_n hx hb dX5_settle_92 rfl (lv_at hl 1 rfl) ?_
  refine va_get (D := D) (ci := 5) (v := .ref b6) (C := RX5) (T := TX5) (N := 16) hx hb hts inX5 hown hK hP 0 rfl rfl 13 (by decide) (hts _ kw_236) (fun _ h9 => h9) rfl dX5_settle_93 ?_
  refine va_alen (v := 16) hx hb hK hP 2 1 rfl rfl rfl dX5_settle_96 ?_
  refine lv_icmp_ge (tgt := 137) hx hb dX5_settle_97 (by decide) (fun h => absurd h (by decide)) (fun _ => ?_)
  refine lv_aload_n hx hb dX5_settle_100 rfl (lv_at hl 1 rfl) ?_
  refine W.eq (g2 := F0 m 101 ls [.ref h0]) rfl ?_
  refine va_get (D := D) (ci := 5) (v := .ref b6) (C := RX5) (T := TX5) (N := 16) hx hb hts inX5 hown hK hP 0 rfl rfl 13 (by decide) (hts _ kw_236) (fun _ h9 => h9) rfl dX5_settle_101 ?_
  refine lv_iload_n hx hb dX5_settle_104 rfl (lv_at hl 0 rfl) ?_
  refine lv_iload_n hx hb dX5_settle_105 rfl (lv_at hl 0 rfl) ?_
  refine lv_aload_n hx hb dX5_settle_106 rfl (lv_at hl 1 rfl) ?_
  refine va_get (D := D) (ci := 5) (v := .int 16) (C := RX5) (T := TX5) (N := 16) hx hb hts inX5 hown hK hP 0 rfl rfl 10 (by decide) (hts _ kw_222) (fun _ h9 => h9) rfl dX5_settle_107 ?_
  refine lv_icmp_ge (tgt := 129) hx hb dX5_settle_110 (by decide) (fun h => absurd h (by decide)) (fun _ => ?_)
  refine lv_aload_n hx hb dX5_settle_113 rfl (lv_at hl 1 rfl) ?_
  refine va_get (D := D) (ci := 5) (v := .int 4) (C := RX5) (T := TX5) (N := 16) hx hb hts inX5 hown hK hP 0 rfl rfl 1 (by decide) (hts _ kw_192) (fun _ h9 => h9) rfl dX5_settle_114 ?_
  refine lv_if_le (tgt := 129) hx hb dX5_settle_117 (by decide) (fun h => absurd h (by decide)) (fun _ => ?_)
  refine lv_iload_n hx hb dX5_settle_120 rfl (lv_at hl 0 rfl) ?_
  refine W.eq (g2 := F0 m 121 ls [.int 6, .int 6, .ref b6]) rfl ?_
  refine lv_aload_n hx hb dX5_settle_121 rfl (lv_at hl 1 rfl) ?_
  refine va_get (D := D) (ci := 5) (v := .int 4) (C := RX5) (T := TX5) (N := 16) hx hb hts inX5 hown hK hP 0 rfl rfl 1 (by decide) (hts _ kw_192) (fun _ h9 => h9) rfl dX5_settle_122 ?_
  refine lv_idiv hx hb dX5_settle_125 (by decide) ?_
  refine z_i (v := 1) (by decide) ?_
  refine lv_goto (tgt := 130) hx hb dX5_settle_126 (by decide) ?_
  refine va_iast hx hb hK hP hD hS 2 1 rfl rfl (z_in (by decide)) dX5_settle_130 (fun H locs hP hD hS => ?_)
  have hP : va_P D vwCl [(h0, .inr (5, [.int 4, .int 4, .int (-1), .int 0, .ref b0, .ref b1, .ref b2, .ref b3, .ref b4, .int 0, .int 16, .int 4, .ref b5, .ref b6, .ref b7, .int c2])), (b5, .inl (k3, 4, .inl (upd (upd (upd (upd (fun _ => 0) 0 15) 1 240) 2 3840) 3 61440))), (b6, .inl (k4, 16, .inl (upd (upd (upd (upd (upd (upd (upd (fun _ => 0) 0 0) 1 0) 2 0) 3 0) 4 1) 5 1) 6 1))), (b7, .inl (k5, 1820, .inl (fun _ => 0)))] H := hP
  have hD : va_D A [(h0, .inr (5, [.int 4, .int 4, .int (-1), .int 0, .ref b0, .ref b1, .ref b2, .ref b3, .ref b4, .int 0, .int 16, .int 4, .ref b5, .ref b6, .ref b7, .int c2])), (b5, .inl (k3, 4, .inl (upd (upd (upd (upd (fun _ => 0) 0 15) 1 240) 2 3840) 3 61440))), (b6, .inl (k4, 16, .inl (upd (upd (upd (upd (upd (upd (upd (fun _ => 0) 0 0) 1 0) 2 0) 3 0) 4 1) 5 1) 6 1))), (b7, .inl (k5, 1820, .inl (fun _ => 0)))] := hD
  refine lv_iinc (v := 7) (lv' := [(1, .int 7), (0, .ref h0)]) hx hb dX5_settle_131 hl (k := 0) rfl (by decide) (by decide) rfl (fun ls hl => ?_)
  refine lv_goto (tgt := 91) hx hb dX5_settle_134 (by decide) ?_
  refine lv_iload_n hx hb dX5_settle_91 rfl (lv_at hl 0 rfl) ?_
  refine lv_aload_n hx hb dX5_settle_92 rfl (lv_at hl 1 rfl) ?_
  refine va_get (D := D) (ci := 5) (v := .ref b6) (C := RX5) (T := TX5) (N := 16) hx hb hts inX5 hown hK hP 0 rfl rfl 13 (by decide) (hts _ kw_236) (fun _ h9 => h9) rfl dX5_settle_93 ?_
  refine W.eq (g2 := F0 m 96 ls [.ref b6, .int 7]) rfl ?_
  refine va_alen (v := 16) hx hb hK hP 2 1 rfl rfl rfl dX5_settle_96 ?_
  refine lv_icmp_ge (tgt := 137) hx hb dX5_settle_97 (by decide) (fun h => absurd h (by decide)) (fun _ => ?_)
  refine lv_aload_n hx hb dX5_settle_100 rfl (lv_at hl 1 rfl) ?_
  refine va_get (D := D) (ci := 5) (v := .ref b6) (C := RX5) (T := TX5) (N := 16) hx hb hts inX5 hown hK hP 0 rfl rfl 13 (by decide) (hts _ kw_236) (fun _ h9 => h9) rfl dX5_settle_101 ?_
  refine lv_iload_n hx hb dX5_settle_104 rfl (lv_at hl 0 rfl) ?_
  refine lv_iload_n hx hb dX5_settle_105 rfl (lv_at hl 0 rfl) ?_
  refine lv_aload_n hx hb dX5_settle_106 rfl (lv_at hl 1 rfl) ?_
  refine va_get (D := D) (ci := 5) (v := .int 16) (C := RX5) (T := TX5) (N := 16) hx hb hts inX5 hown hK hP 0 rfl rfl 10 (by decide) (hts _ kw_222) (fun _ h9 => h9) rfl dX5_settle_107 ?_
  refine lv_icmp_ge (tgt := 129) hx hb dX5_settle_110 (by decide) (fun h => absurd h (by decide)) (fun _ => ?_)
  refine lv_aload_n hx hb dX5_settle_113 rfl (lv_at hl 1 rfl) ?_
  refine W.eq (g2 := F0 m 114 ls [.ref h0, .int 7, .ref b6]) rfl ?_
  refine va_get (D := D) (ci := 5) (v := .int 4) (C := RX5) (T := TX5) (N := 16) hx hb hts inX5 hown hK hP 0 rfl rfl 1 (by decide) (hts _ kw_192) (fun _ h9 => h9) rfl dX5_settle_114 ?_
  refine lv_if_le (tgt := 129) hx hb dX5_settle_117 (by decide) (fun h => absurd h (by decide)) (fun _ => ?_)
  refine lv_iload_n hx hb dX5_settle_120 rfl (lv_at hl 0 rfl) ?_
  refine lv_aload_n hx hb dX5_settle_121 rfl (lv_at hl 1 rfl) ?_
  refine va_get (D := D) (ci := 5) (v := .int 4) (C := RX5) (T := TX5) (N := 16) hx hb hts inX5 hown hK hP 0 rfl rfl 1 (by decide) (hts _ kw_192) (fun _ h9 => h9) rfl dX5_settle_122 ?_
  refine lv_idiv hx hb dX5_settle_125 (by decide) ?_
  refine z_i (v := 1) (by decide) ?_
  refine lv_goto (tgt := 130) hx hb dX5_settle_126 (by decide) ?_
  refine va_iast hx hb hK hP hD hS 2 1 rfl rfl (z_in (by decide)) dX5_settle_130 (fun H locs hP hD hS => ?_)
  have hP : va_P D vwCl [(h0, .inr (5, [.int 4, .int 4, .int (-1), .int 0, .ref b0, .ref b1, .ref b2, .ref b3, .ref b4, .int 0, .int 16, .int 4, .ref b5, .ref b6, .ref b7, .int c2])), (b5, .inl (k3, 4, .inl (upd (upd (upd (upd (fun _ => 0) 0 15) 1 240) 2 3840) 3 61440))), (b6, .inl (k4, 16, .inl (upd (upd (upd (upd (upd (upd (upd (upd (fun _ => 0) 0 0) 1 0) 2 0) 3 0) 4 1) 5 1) 6 1) 7 1))), (b7, .inl (k5, 1820, .inl (fun _ => 0)))] H := hP
  have hD : va_D A [(h0, .inr (5, [.int 4, .int 4, .int (-1), .int 0, .ref b0, .ref b1, .ref b2, .ref b3, .ref b4, .int 0, .int 16, .int 4, .ref b5, .ref b6, .ref b7, .int c2])), (b5, .inl (k3, 4, .inl (upd (upd (upd (upd (fun _ => 0) 0 15) 1 240) 2 3840) 3 61440))), (b6, .inl (k4, 16, .inl (upd (upd (upd (upd (upd (upd (upd (upd (fun _ => 0) 0 0) 1 0) 2 0) 3 0) 4 1) 5 1) 6 1) 7 1))), (b7, .inl (k5, 1820, .inl (fun _ => 0)))] := hD
  refine lv_iinc (v := 8) (lv' := [(1, .int 8), (0, .ref h0)]) hx hb dX5_settle_131 hl (k := 0) rfl (by decide) (by decide) rfl (fun ls hl => ?_)
  refine lv_goto (tgt := 91) hx hb dX5_settle_134 (by decide) ?_
  refine W.eq (g2 := F0 m 91 ls []) rfl ?_
  refine lv_iload_n hx hb dX5_settle_91 rfl (lv_at hl 0 rfl) ?_
  refine lv_aload_n hx hb dX5_settle_92 rfl (lv_at hl 1 rfl) ?_
  refine va_get (D := D) (ci := 5) (v := .ref b6) (C := RX5) (T := TX5) (N := 16) hx hb hts inX5 hown hK hP 0 rfl rfl 13 (by decide) (hts _ kw_236) (fun _ h9 => h9) rfl dX5_settle_93 ?_
  refine va_alen (v := 16) hx hb hK hP 2 1 rfl rfl rfl dX5_settle_96 ?_
  refine lv_icmp_ge (tgt := 137) hx hb dX5_settle_97 (by decide) (fun h => absurd h (by decide)) (fun _ => ?_)
  refine lv_aload_n hx hb dX5_settle_100 rfl (lv_at hl 1 rfl) ?_
  refine va_get (D := D) (ci := 5) (v := .ref b6) (C := RX5) (T := TX5) (N := 16) hx hb hts inX5 hown hK hP 0 rfl rfl 13 (by decide) (hts _ kw_236) (fun _ h9 => h9) rfl dX5_settle_101 ?_
  refine lv_iload_n hx hb dX5_settle_104 rfl (lv_at hl 0 rfl) ?_
  refine lv_iload_n hx hb dX5_settle_105 rfl (lv_at hl 0 rfl) ?_
  refine lv_aload_n hx hb dX5_settle_106 rfl (lv_at hl 1 rfl) ?_
  refine W.eq (g2 := F0 m 107 ls [.ref h0, .int 8, .int 8, .ref b6]) rfl ?_
  refine va_get (D := D) (ci := 5) (v := .int 16) (C := RX5) (T := TX5) (N := 16) hx hb hts inX5 hown hK hP 0 rfl rfl 10 (by decide) (hts _ kw_222) (fun _ h9 => h9) rfl dX5_settle_107 ?_
  refine lv_icmp_ge (tgt := 129) hx hb dX5_settle_110 (by decide) (fun h => absurd h (by decide)) (fun _ => ?_)
  refine lv_aload_n hx hb dX5_settle_113 rfl (lv_at hl 1 rfl) ?_
  refine va_get (D := D) (ci := 5) (v := .int 4) (C := RX5) (T := TX5) (N := 16) hx hb hts inX5 hown hK hP 0 rfl rfl 1 (by decide) (hts _ kw_192) (fun _ h9 => h9) rfl dX5_settle_114 ?_
  refine lv_if_le (tgt := 129) hx hb dX5_settle_117 (by decide) (fun h => absurd h (by decide)) (fun _ => ?_)
  refine lv_iload_n hx hb dX5_settle_120 rfl (lv_at hl 0 rfl) ?_
  refine lv_aload_n hx hb dX5_settle_121 rfl (lv_at hl 1 rfl) ?_
  refine va_get (D := D) (ci := 5) (v := .int 4) (C := RX5) (T := TX5) (N := 16) hx hb hts inX5 hown hK hP 0 rfl rfl 1 (by decide) (hts _ kw_192) (fun _ h9 => h9) rfl dX5_settle_122 ?_
  refine lv_idiv hx hb dX5_settle_125 (by decide) ?_
  refine z_i (v := 2) (by decide) ?_
  refine lv_goto (tgt := 130) hx hb dX5_settle_126 (by decide) ?_
  refine W.eq (g2 := F0 m 130 ls [.int 2, .int 8, .ref b6]) rfl ?_
  refine va_iast hx hb hK hP hD hS 2 1 rfl rfl (z_in (by decide)) dX5_settle_130 (fun H locs hP hD hS => ?_)
  have hP : va_P D vwCl [(h0, .inr (5, [.int 4, .int 4, .int (-1), .int 0, .ref b0, .ref b1, .ref b2, .ref b3, .ref b4, .int 0, .int 16, .int 4, .ref b5, .ref b6, .ref b7, .int c2])), (b5, .inl (k3, 4, .inl (upd (upd (upd (upd (fun _ => 0) 0 15) 1 240) 2 3840) 3 61440))), (b6, .inl (k4, 16, .inl (upd (upd (upd (upd (upd (upd (upd (upd (upd (fun _ => 0) 0 0) 1 0) 2 0) 3 0) 4 1) 5 1) 6 1) 7 1) 8 2))), (b7, .inl (k5, 1820, .inl (fun _ => 0)))] H := hP
  have hD : va_D A [(h0, .inr (5, [.int 4, .int 4, .int (-1), .int 0, .ref b0, .ref b1, .ref b2, .ref b3, .ref b4, .int 0, .int 16, .int 4, .ref b5, .ref b6, .ref b7, .int c2])), (b5, .inl (k3, 4, .inl (upd (upd (upd (upd (fun _ => 0) 0 15) 1 240) 2 3840) 3 61440))), (b6, .inl (k4, 16, .inl (upd (upd (upd (upd (upd (upd (upd (upd (upd (fun _ => 0) 0 0) 1 0) 2 0) 3 0) 4 1) 5 1) 6 1) 7 1) 8 2))), (b7, .inl (k5, 1820, .inl (fun _ => 0)))] := hD
  refine lv_iinc (v := 9) (lv' := [(1, .int 9), (0, .ref h0)]) hx hb dX5_settle_131 hl (k := 0) rfl (by decide) (by decide) rfl (fun ls hl => ?_)
  refine lv_goto (tgt := 91) hx hb dX5_settle_134 (by decide) ?_
  refine lv_iload_n hx hb dX5_settle_91 rfl (lv_at hl 0 rfl) ?_
  refine lv_aload_n hx hb dX5_settle_92 rfl (lv_at hl 1 rfl) ?_
  refine va_get (D := D) (ci := 5) (v := .ref b6) (C := RX5) (T := TX5) (N := 16) hx hb hts inX5 hown hK hP 0 rfl rfl 13 (by decide) (hts _ kw_236) (fun _ h9 => h9) rfl dX5_settle_93 ?_
  refine va_alen (v := 16) hx hb hK hP 2 1 rfl rfl rfl dX5_settle_96 ?_
  refine lv_icmp_ge (tgt := 137) hx hb dX5_settle_97 (by decide) (fun h => absurd h (by decide)) (fun _ => ?_)
  refine lv_aload_n hx hb dX5_settle_100 rfl (lv_at hl 1 rfl) ?_
  refine va_get (D := D) (ci := 5) (v := .ref b6) (C := RX5) (T := TX5) (N := 16) hx hb hts inX5 hown hK hP 0 rfl rfl 13 (by decide) (hts _ kw_236) (fun _ h9 => h9) rfl dX5_settle_101 ?_
  refine W.eq (g2 := F0 m 104 ls [.ref b6]) rfl ?_
  refine lv_iload_n hx hb dX5_settle_104 rfl (lv_at hl 0 rfl) ?_
  refine lv_iload_n hx hb dX5_settle_105 rfl (lv_at hl 0 rfl) ?_
  refine lv_aload_n hx hb dX5_settle_106 rfl (lv_at hl 1 rfl) ?_
  refine va_get (D := D) (ci := 5) (v := .int 16) (C := RX5) (T := TX5) (N := 16) hx hb hts inX5 hown hK hP 0 rfl rfl 10 (by decide) (hts _ kw_222) (fun _ h9 => h9) rfl dX5_settle_107 ?_
  refine lv_icmp_ge (tgt := 129) hx hb dX5_settle_110 (by decide) (fun h => absurd h (by decide)) (fun _ => ?_)
  refine lv_aload_n hx hb dX5_settle_113 rfl (lv_at hl 1 rfl) ?_
  refine va_get (D := D) (ci := 5) (v := .int 4) (C := RX5) (T := TX5) (N := 16) hx hb hts inX5 hown hK hP 0 rfl rfl 1 (by decide) (hts _ kw_192) (fun _ h9 => h9) rfl dX5_settle_114 ?_
  refine lv_if_le (tgt := 129) hx hb dX5_settle_117 (by decide) (fun h => absurd h (by decide)) (fun _ => ?_)
  refine lv_iload_n hx hb dX5_settle_120 rfl (lv_at hl 0 rfl) ?_
  refine lv_aload_n hx hb dX5_settle_121 rfl (lv_at hl 1 rfl) ?_
  refine W.eq (g2 := F0 m 122 ls [.ref h0, .int 9, .int 9, .ref b6]) rfl ?_
  refine va_get (D := D) (ci := 5) (v := .int 4) (C := RX5) (T := TX5) (N := 16) hx hb hts inX5 hown hK hP 0 rfl rfl 1 (by decide) (hts _ kw_192) (fun _ h9 => h9) rfl dX5_settle_122 ?_
  refine lv_idiv hx hb dX5_settle_125 (by decide) ?_
  refine z_i (v := 2) (by decide) ?_
  refine lv_goto (tgt := 130) hx hb dX5_settle_126 (by decide) ?_
  refine va_iast hx hb hK hP hD hS 2 1 rfl rfl (z_in (by decide)) dX5_settle_130 (fun H locs hP hD hS => ?_)
  have hP : va_P D vwCl [(h0, .inr (5, [.int 4, .int 4, .int (-1), .int 0, .ref b0, .ref b1, .ref b2, .ref b3, .ref b4, .int 0, .int 16, .int 4, .ref b5, .ref b6, .ref b7, .int c2])), (b5, .inl (k3, 4, .inl (upd (upd (upd (upd (fun _ => 0) 0 15) 1 240) 2 3840) 3 61440))), (b6, .inl (k4, 16, .inl (upd (upd (upd (upd (upd (upd (upd (upd (upd (upd (fun _ => 0) 0 0) 1 0) 2 0) 3 0) 4 1) 5 1) 6 1) 7 1) 8 2) 9 2))), (b7, .inl (k5, 1820, .inl (fun _ => 0)))] H := hP
  have hD : va_D A [(h0, .inr (5, [.int 4, .int 4, .int (-1), .int 0, .ref b0, .ref b1, .ref b2, .ref b3, .ref b4, .int 0, .int 16, .int 4, .ref b5, .ref b6, .ref b7, .int c2])), (b5, .inl (k3, 4, .inl (upd (upd (upd (upd (fun _ => 0) 0 15) 1 240) 2 3840) 3 61440))), (b6, .inl (k4, 16, .inl (upd (upd (upd (upd (upd (upd (upd (upd (upd (upd (fun _ => 0) 0 0) 1 0) 2 0) 3 0) 4 1) 5 1) 6 1) 7 1) 8 2) 9 2))), (b7, .inl (k5, 1820, .inl (fun _ => 0)))] := hD
  refine lv_iinc (v := 10) (lv' := [(1, .int 10), (0, .ref h0)]) hx hb dX5_settle_131 hl (k := 0) rfl (by decide) (by decide) rfl (fun ls hl => ?_)
  refine lv_goto (tgt := 91) hx hb dX5_settle_134 (by decide) ?_
  refine lv_iload_n hx hb dX5_settle_91 rfl (lv_at hl 0 rfl) ?_
  refine lv_aload_n hx hb dX5_settle_92 rfl (lv_at hl 1 rfl) ?_
  refine va_get (D := D) (ci := 5) (v := .ref b6) (C := RX5) (T := TX5) (N := 16) hx hb hts inX5 hown hK hP 0 rfl rfl 13 (by decide) (hts _ kw_236) (fun _ h9 => h9) rfl dX5_settle_93 ?_
  refine va_alen (v := 16) hx hb hK hP 2 1 rfl rfl rfl dX5_settle_96 ?_
  refine W.eq (g2 := F0 m 97 ls [.int 16, .int 10]) rfl ?_
  refine lv_icmp_ge (tgt := 137) hx hb dX5_settle_97 (by decide) (fun h => absurd h (by decide)) (fun _ => ?_)
  refine lv_aload_n hx hb dX5_settle_100 rfl (lv_at hl 1 rfl) ?_
  refine va_get (D := D) (ci := 5) (v := .ref b6) (C := RX5) (T := TX5) (N := 16) hx hb hts inX5 hown hK hP 0 rfl rfl 13 (by decide) (hts _ kw_236) (fun _ h9 => h9) rfl dX5_settle_101 ?_
  refine lv_iload_n hx hb dX5_settle_104 rfl (lv_at hl 0 rfl) ?_
  refine lv_iload_n hx hb dX5_settle_105 rfl (lv_at hl 0 rfl) ?_
  refine lv_aload_n hx hb dX5_settle_106 rfl (lv_at hl 1 rfl) ?_
  refine va_get (D := D) (ci := 5) (v := .int 16) (C := RX5) (T := TX5) (N := 16) hx hb hts inX5 hown hK hP 0 rfl rfl 10 (by decide) (hts _ kw_222) (fun _ h9 => h9) rfl dX5_settle_107 ?_
  refine lv_icmp_ge (tgt := 129) hx hb dX5_settle_110 (by decide) (fun h => absurd h (by decide)) (fun _ => ?_)
  refine lv_aload_n hx hb dX5_settle_113 rfl (lv_at hl 1 rfl) ?_
  refine va_get (D := D) (ci := 5) (v := .int 4) (C := RX5) (T := TX5) (N := 16) hx hb hts inX5 hown hK hP 0 rfl rfl 1 (by decide) (hts _ kw_192) (fun _ h9 => h9) rfl dX5_settle_114 ?_
  refine W.eq (g2 := F0 m 117 ls [.int 4, .int 10, .ref b6]) rfl ?_
  refine lv_if_le (tgt := 129) hx hb dX5_settle_117 (by decide) (fun h => absurd h (by decide)) (fun _ => ?_)
  refine lv_iload_n hx hb dX5_settle_120 rfl (lv_at hl 0 rfl) ?_
  refine lv_aload_n hx hb dX5_settle_121 rfl (lv_at hl 1 rfl) ?_
  refine va_get (D := D) (ci := 5) (v := .int 4) (C := RX5) (T := TX5) (N := 16) hx hb hts inX5 hown hK hP 0 rfl rfl 1 (by decide) (hts _ kw_192) (fun _ h9 => h9) rfl dX5_settle_122 ?_
  refine lv_idiv hx hb dX5_settle_125 (by decide) ?_
  refine z_i (v := 2) (by decide) ?_
  refine lv_goto (tgt := 130) hx hb dX5_settle_126 (by decide) ?_
  refine va_iast hx hb hK hP hD hS 2 1 rfl rfl (z_in (by decide)) dX5_settle_130 (fun H locs hP hD hS => ?_)
  have hP : va_P D vwCl [(h0, .inr (5, [.int 4, .int 4, .int (-1), .int 0, .ref b0, .ref b1, .ref b2, .ref b3, .ref b4, .int 0, .int 16, .int 4, .ref b5, .ref b6, .ref b7, .int c2])), (b5, .inl (k3, 4, .inl (upd (upd (upd (upd (fun _ => 0) 0 15) 1 240) 2 3840) 3 61440))), (b6, .inl (k4, 16, .inl (upd (upd (upd (upd (upd (upd (upd (upd (upd (upd (upd (fun _ => 0) 0 0) 1 0) 2 0) 3 0) 4 1) 5 1) 6 1) 7 1) 8 2) 9 2) 10 2))), (b7, .inl (k5, 1820, .inl (fun _ => 0)))] H := hP
  have hD : va_D A [(h0, .inr (5, [.int 4, .int 4, .int (-1), .int 0, .ref b0, .ref b1, .ref b2, .ref b3, .ref b4, .int 0, .int 16, .int 4, .ref b5, .ref b6, .ref b7, .int c2])), (b5, .inl (k3, 4, .inl (upd (upd (upd (upd (fun _ => 0) 0 15) 1 240) 2 3840) 3 61440))), (b6, .inl (k4, 16, .inl (upd (upd (upd (upd (upd (upd (upd (upd (upd (upd (upd (fun _ => 0) 0 0) 1 0) 2 0) 3 0) 4 1) 5 1) 6 1) 7 1) 8 2) 9 2) 10 2))), (b7, .inl (k5, 1820, .inl (fun _ => 0)))] := hD
  refine lv_iinc (v := 11) (lv' := [(1, .int 11), (0, .ref h0)]) hx hb dX5_settle_131 hl (k := 0) rfl (by decide) (by decide) rfl (fun ls hl => ?_)
  refine lv_goto (tgt := 91) hx hb dX5_settle_134 (by decide) ?_
  refine lv_iload_n hx hb dX5_settle_91 rfl (lv_at hl 0 rfl) ?_
  refine W.eq (g2 := F0 m 92 ls [.int 11]) rfl ?_
  refine lv_aload_n hx hb dX5_settle_92 rfl (lv_at hl 1 rfl) ?_
  refine va_get (D := D) (ci := 5) (v := .ref b6) (C := RX5) (T := TX5) (N := 16) hx hb hts inX5 hown hK hP 0 rfl rfl 13 (by decide) (hts _ kw_236) (fun _ h9 => h9) rfl dX5_settle_93 ?_
  refine va_alen (v := 16) hx hb hK hP 2 1 rfl rfl rfl dX5_settle_96 ?_
  refine lv_icmp_ge (tgt := 137) hx hb dX5_settle_97 (by decide) (fun h => absurd h (by decide)) (fun _ => ?_)
  refine lv_aload_n hx hb dX5_settle_100 rfl (lv_at hl 1 rfl) ?_
  refine va_get (D := D) (ci := 5) (v := .ref b6) (C := RX5) (T := TX5) (N := 16) hx hb hts inX5 hown hK hP 0 rfl rfl 13 (by decide) (hts _ kw_236) (fun _ h9 => h9) rfl dX5_settle_101 ?_
  refine lv_iload_n hx hb dX5_settle_104 rfl (lv_at hl 0 rfl) ?_
  refine lv_iload_n hx hb dX5_settle_105 rfl (lv_at hl 0 rfl) ?_
  refine lv_aload_n hx hb dX5_settle_106 rfl (lv_at hl 1 rfl) ?_
  refine va_get (D := D) (ci := 5) (v := .int 16) (C := RX5) (T := TX5) (N := 16) hx hb hts inX5 hown hK hP 0 rfl rfl 10 (by decide) (hts _ kw_222) (fun _ h9 => h9) rfl dX5_settle_107 ?_
  refine W.eq (g2 := F0 m 110 ls [.int 16, .int 11, .int 11, .ref b6]) rfl ?_
  refine lv_icmp_ge (tgt := 129) hx hb dX5_settle_110 (by decide) (fun h => absurd h (by decide)) (fun _ => ?_)
  refine lv_aload_n hx hb dX5_settle_113 rfl (lv_at hl 1 rfl) ?_
  refine va_get (D := D) (ci := 5) (v := .int 4) (C := RX5) (T := TX5) (N := 16) hx hb hts inX5 hown hK hP 0 rfl rfl 1 (by decide) (hts _ kw_192) (fun _ h9 => h9) rfl dX5_settle_114 ?_
  refine lv_if_le (tgt := 129) hx hb dX5_settle_117 (by decide) (fun h => absurd h (by decide)) (fun _ => ?_)
  refine lv_iload_n hx hb dX5_settle_120 rfl (lv_at hl 0 rfl) ?_
  refine lv_aload_n hx hb dX5_settle_121 rfl (lv_at hl 1 rfl) ?_
  refine va_get (D := D) (ci := 5) (v := .int 4) (C := RX5) (T := TX5) (N := 16) hx hb hts inX5 hown hK hP 0 rfl rfl 1 (by decide) (hts _ kw_192) (fun _ h9 => h9) rfl dX5_settle_122 ?_
  refine lv_idiv hx hb dX5_settle_125 (by decide) ?_
  refine z_i (v := 2) (by decide) ?_
  refine lv_goto (tgt := 130) hx hb dX5_settle_126 (by decide) ?_
  refine va_iast hx hb hK hP hD hS 2 1 rfl rfl (z_in (by decide)) dX5_settle_130 (fun H locs hP hD hS => ?_)
  have hP : va_P D vwCl [(h0, .inr (5, [.int 4, .int 4, .int (-1), .int 0, .ref b0, .ref b1, .ref b2, .ref b3, .ref b4, .int 0, .int 16, .int 4, .ref b5, .ref b6, .ref b7, .int c2])), (b5, .inl (k3, 4, .inl (upd (upd (upd (upd (fun _ => 0) 0 15) 1 240) 2 3840) 3 61440))), (b6, .inl (k4, 16, .inl (upd (upd (upd (upd (upd (upd (upd (upd (upd (upd (upd (upd (fun _ => 0) 0 0) 1 0) 2 0) 3 0) 4 1) 5 1) 6 1) 7 1) 8 2) 9 2) 10 2) 11 2))), (b7, .inl (k5, 1820, .inl (fun _ => 0)))] H := hP
  have hD : va_D A [(h0, .inr (5, [.int 4, .int 4, .int (-1), .int 0, .ref b0, .ref b1, .ref b2, .ref b3, .ref b4, .int 0, .int 16, .int 4, .ref b5, .ref b6, .ref b7, .int c2])), (b5, .inl (k3, 4, .inl (upd (upd (upd (upd (fun _ => 0) 0 15) 1 240) 2 3840) 3 61440))), (b6, .inl (k4, 16, .inl (upd (upd (upd (upd (upd (upd (upd (upd (upd (upd (upd (upd (fun _ => 0) 0 0) 1 0) 2 0) 3 0) 4 1) 5 1) 6 1) 7 1) 8 2) 9 2) 10 2) 11 2))), (b7, .inl (k5, 1820, .inl (fun _ => 0)))] := hD
  refine W.eq (g2 := F0 m 131 ls []) rfl ?_
  refine lv_iinc (v := 12) (lv' := [(1, .int 12), (0, .ref h0)]) hx hb dX5_settle_131 hl (k := 0) rfl (by decide) (by decide) rfl (fun ls hl => ?_)
  refine lv_goto (tgt := 91) hx hb dX5_settle_134 (by decide) ?_
  refine lv_iload_n hx hb dX5_settle_91 rfl (lv_at hl 0 rfl) ?_
  refine lv_aload_n hx hb dX5_settle_92 rfl (lv_at hl 1 rfl) ?_
  refine va_get (D := D) (ci := 5) (v := .ref b6) (C := RX5) (T := TX5) (N := 16) hx hb hts inX5 hown hK hP 0 rfl rfl 13 (by decide) (hts _ kw_236) (fun _ h9 => h9) rfl dX5_settle_93 ?_
  refine va_alen (v := 16) hx hb hK hP 2 1 rfl rfl rfl dX5_settle_96 ?_
  refine lv_icmp_ge (tgt := 137) hx hb dX5_settle_97 (by decide) (fun h => absurd h (by decide)) (fun _ => ?_)
  refine lv_aload_n hx hb dX5_settle_100 rfl (lv_at hl 1 rfl) ?_
  refine va_get (D := D) (ci := 5) (v := .ref b6) (C := RX5) (T := TX5) (N := 16) hx hb hts inX5 hown hK hP 0 rfl rfl 13 (by decide) (hts _ kw_236) (fun _ h9 => h9) rfl dX5_settle_101 ?_
  refine lv_iload_n hx hb dX5_settle_104 rfl (lv_at hl 0 rfl) ?_
  refine W.eq (g2 := F0 m 105 ls [.int 12, .ref b6]) rfl ?_
  refine lv_iload_n hx hb dX5_settle_105 rfl (lv_at hl 0 rfl) ?_
  refine lv_aload_n hx hb dX5_settle_106 rfl (lv_at hl 1 rfl) ?_
  refine va_get (D := D) (ci := 5) (v := .int 16) (C := RX5) (T := TX5) (N := 16) hx hb hts inX5 hown hK hP 0 rfl rfl 10 (by decide) (hts _ kw_222) (fun _ h9 => h9) rfl dX5_settle_107 ?_
  refine lv_icmp_ge (tgt := 129) hx hb dX5_settle_110 (by decide) (fun h => absurd h (by decide)) (fun _ => ?_)
  refine lv_aload_n hx hb dX5_settle_113 rfl (lv_at hl 1 rfl) ?_
  refine va_get (D := D) (ci := 5) (v := .int 4) (C := RX5) (T := TX5) (N := 16) hx hb hts inX5 hown hK hP 0 rfl rfl 1 (by decide) (hts _ kw_192) (fun _ h9 => h9) rfl dX5_settle_114 ?_
  refine lv_if_le (tgt := 129) hx hb dX5_settle_117 (by decide) (fun h => absurd h (by decide)) (fun _ => ?_)
  refine lv_iload_n hx hb dX5_settle_120 rfl (lv_at hl 0 rfl) ?_
  refine lv_aload_n hx hb dX5_settle_121 rfl (lv_at hl 1 rfl) ?_
  refine va_get (D := D) (ci := 5) (v := .int 4) (C := RX5) (T := TX5) (N := 16) hx hb hts inX5 hown hK hP 0 rfl rfl 1 (by decide) (hts _ kw_192) (fun _ h9 => h9) rfl dX5_settle_122 ?_
  refine W.eq (g2 := F0 m 125 ls [.int 4, .int 12, .int 12, .ref b6]) rfl ?_
  refine lv_idiv hx hb dX5_settle_125 (by decide) ?_
  refine z_i (v := 3) (by decide) ?_
  refine lv_goto (tgt := 130) hx hb dX5_settle_126 (by decide) ?_
  refine va_iast hx hb hK hP hD hS 2 1 rfl rfl (z_in (by decide)) dX5_settle_130 (fun H locs hP hD hS => ?_)
  have hP : va_P D vwCl [(h0, .inr (5, [.int 4, .int 4, .int (-1), .int 0, .ref b0, .ref b1, .ref b2, .ref b3, .ref b4, .int 0, .int 16, .int 4, .ref b5, .ref b6, .ref b7, .int c2])), (b5, .inl (k3, 4, .inl (upd (upd (upd (upd (fun _ => 0) 0 15) 1 240) 2 3840) 3 61440))), (b6, .inl (k4, 16, .inl (upd (upd (upd (upd (upd (upd (upd (upd (upd (upd (upd (upd (upd (fun _ => 0) 0 0) 1 0) 2 0) 3 0) 4 1) 5 1) 6 1) 7 1) 8 2) 9 2) 10 2) 11 2) 12 3))), (b7, .inl (k5, 1820, .inl (fun _ => 0)))] H := hP
  have hD : va_D A [(h0, .inr (5, [.int 4, .int 4, .int (-1), .int 0, .ref b0, .ref b1, .ref b2, .ref b3, .ref b4, .int 0, .int 16, .int 4, .ref b5, .ref b6, .ref b7, .int c2])), (b5, .inl (k3, 4, .inl (upd (upd (upd (upd (fun _ => 0) 0 15) 1 240) 2 3840) 3 61440))), (b6, .inl (k4, 16, .inl (upd (upd (upd (upd (upd (upd (upd (upd (upd (upd (upd (upd (upd (fun _ => 0) 0 0) 1 0) 2 0) 3 0) 4 1) 5 1) 6 1) 7 1) 8 2) 9 2) 10 2) 11 2) 12 3))), (b7, .inl (k5, 1820, .inl (fun _ => 0)))] := hD
  refine lv_iinc (v := 13) (lv' := [(1, .int 13), (0, .ref h0)]) hx hb dX5_settle_131 hl (k := 0) rfl (by decide) (by decide) rfl (fun ls hl => ?_)
  refine lv_goto (tgt := 91) hx hb dX5_settle_134 (by decide) ?_
  refine lv_iload_n hx hb dX5_settle_91 rfl (lv_at hl 0 rfl) ?_
  refine lv_aload_n hx hb dX5_settle_92 rfl (lv_at hl 1 rfl) ?_
  refine va_get (D := D) (ci := 5) (v := .ref b6) (C := RX5) (T := TX5) (N := 16) hx hb hts inX5 hown hK hP 0 rfl rfl 13 (by decide) (hts _ kw_236) (fun _ h9 => h9) rfl dX5_settle_93 ?_
  refine va_alen (v := 16) hx hb hK hP 2 1 rfl rfl rfl dX5_settle_96 ?_
  refine lv_icmp_ge (tgt := 137) hx hb dX5_settle_97 (by decide) (fun h => absurd h (by decide)) (fun _ => ?_)
  refine W.eq (g2 := F0 m 100 ls []) rfl ?_
  refine lv_aload_n hx hb dX5_settle_100 rfl (lv_at hl 1 rfl) ?_
  refine va_get (D := D) (ci := 5) (v := .ref b6) (C := RX5) (T := TX5) (N := 16) hx hb hts inX5 hown hK hP 0 rfl rfl 13 (by decide) (hts _ kw_236) (fun _ h9 => h9) rfl dX5_settle_101 ?_
  refine lv_iload_n hx hb dX5_settle_104 rfl (lv_at hl 0 rfl) ?_
  refine lv_iload_n hx hb dX5_settle_105 rfl (lv_at hl 0 rfl) ?_
  refine lv_aload_n hx hb dX5_settle_106 rfl (lv_at hl 1 rfl) ?_
  refine va_get (D := D) (ci := 5) (v := .int 16) (C := RX5) (T := TX5) (N := 16) hx hb hts inX5 hown hK hP 0 rfl rfl 10 (by decide) (hts _ kw_222) (fun _ h9 => h9) rfl dX5_settle_107 ?_
  refine lv_icmp_ge (tgt := 129) hx hb dX5_settle_110 (by decide) (fun h => absurd h (by decide)) (fun _ => ?_)
  refine lv_aload_n hx hb dX5_settle_113 rfl (lv_at hl 1 rfl) ?_
  refine va_get (D := D) (ci := 5) (v := .int 4) (C := RX5) (T := TX5) (N := 16) hx hb hts inX5 hown hK hP 0 rfl rfl 1 (by decide) (hts _ kw_192) (fun _ h9 => h9) rfl dX5_settle_114 ?_
  refine lv_if_le (tgt := 129) hx hb dX5_settle_117 (by decide) (fun h => absurd h (by decide)) (fun _ => ?_)
  refine W.eq (g2 := F0 m 120 ls [.int 13, .ref b6]) rfl ?_
  refine lv_iload_n hx hb dX5_settle_120 rfl (lv_at hl 0 rfl) ?_
  refine lv_aload_n hx hb dX5_settle_121 rfl (lv_at hl 1 rfl) ?_
  refine va_get (D := D) (ci := 5) (v := .int 4) (C := RX5) (T := TX5) (N := 16) hx hb hts inX5 hown hK hP 0 rfl rfl 1 (by decide) (hts _ kw_192) (fun _ h9 => h9) rfl dX5_settle_122 ?_
  refine lv_idiv hx hb dX5_settle_125 (by decide) ?_
  refine z_i (v := 3) (by decide) ?_
  refine lv_goto (tgt := 130) hx hb dX5_settle_126 (by decide) ?_
  refine va_iast hx hb hK hP hD hS 2 1 rfl rfl (z_in (by decide)) dX5_settle_130 (fun H locs hP hD hS => ?_)
  have hP : va_P D vwCl [(h0, .inr (5, [.int 4, .int 4, .int (-1), .int 0, .ref b0, .ref b1, .ref b2, .ref b3, .ref b4, .int 0, .int 16, .int 4, .ref b5, .ref b6, .ref b7, .int c2])), (b5, .inl (k3, 4, .inl (upd (upd (upd (upd (fun _ => 0) 0 15) 1 240) 2 3840) 3 61440))), (b6, .inl (k4, 16, .inl (upd (upd (upd (upd (upd (upd (upd (upd (upd (upd (upd (upd (upd (upd (fun _ => 0) 0 0) 1 0) 2 0) 3 0) 4 1) 5 1) 6 1) 7 1) 8 2) 9 2) 10 2) 11 2) 12 3) 13 3))), (b7, .inl (k5, 1820, .inl (fun _ => 0)))] H := hP
  have hD : va_D A [(h0, .inr (5, [.int 4, .int 4, .int (-1), .int 0, .ref b0, .ref b1, .ref b2, .ref b3, .ref b4, .int 0, .int 16, .int 4, .ref b5, .ref b6, .ref b7, .int c2])), (b5, .inl (k3, 4, .inl (upd (upd (upd (upd (fun _ => 0) 0 15) 1 240) 2 3840) 3 61440))), (b6, .inl (k4, 16, .inl (upd (upd (upd (upd (upd (upd (upd (upd (upd (upd (upd (upd (upd (upd (fun _ => 0) 0 0) 1 0) 2 0) 3 0) 4 1) 5 1) 6 1) 7 1) 8 2) 9 2) 10 2) 11 2) 12 3) 13 3))), (b7, .inl (k5, 1820, .inl (fun _ => 0)))] := hD
  refine lv_iinc (v := 14) (lv' := [(1, .int 14), (0, .ref h0)]) hx hb dX5_settle_131 hl (k := 0) rfl (by decide) (by decide) rfl (fun ls hl => ?_)
  refine lv_goto (tgt := 91) hx hb dX5_settle_134 (by decide) ?_
  refine lv_iload_n hx hb dX5_settle_91 rfl (lv_at hl 0 rfl) ?_
  refine lv_aload_n hx hb dX5_settle_92 rfl (lv_at hl 1 rfl) ?_
  refine W.eq (g2 := F0 m 93 ls [.ref h0, .int 14]) rfl ?_
  refine va_get (D := D) (ci := 5) (v := .ref b6) (C := RX5) (T := TX5) (N := 16) hx hb hts inX5 hown hK hP 0 rfl rfl 13 (by decide) (hts _ kw_236) (fun _ h9 => h9) rfl dX5_settle_93 ?_
  refine va_alen (v := 16) hx hb hK hP 2 1 rfl rfl rfl dX5_settle_96 ?_
  refine lv_icmp_ge (tgt := 137) hx hb dX5_settle_97 (by decide) (fun h => absurd h (by decide)) (fun _ => ?_)
  refine lv_aload_n hx hb dX5_settle_100 rfl (lv_at hl 1 rfl) ?_
  refine va_get (D := D) (ci := 5) (v := .ref b6) (C := RX5) (T := TX5) (N := 16) hx hb hts inX5 hown hK hP 0 rfl rfl 13 (by decide) (hts _ kw_236) (fun _ h9 => h9) rfl dX5_settle_101 ?_
  refine lv_iload_n hx hb dX5_settle_104 rfl (lv_at hl 0 rfl) ?_
  refine lv_iload_n hx hb dX5_settle_105 rfl (lv_at hl 0 rfl) ?_
  refine lv_aload_n hx hb dX5_settle_106 rfl (lv_at hl 1 rfl) ?_
  refine va_get (D := D) (ci := 5) (v := .int 16) (C := RX5) (T := TX5) (N := 16) hx hb hts inX5 hown hK hP 0 rfl rfl 10 (by decide) (hts _ kw_222) (fun _ h9 => h9) rfl dX5_settle_107 ?_
  refine lv_icmp_ge (tgt := 129) hx hb dX5_settle_110 (by decide) (fun h => absurd h (by decide)) (fun _ => ?_)
  refine W.eq (g2 := F0 m 113 ls [.int 14, .ref b6]) rfl ?_
  refine lv_aload_n hx hb dX5_settle_113 rfl (lv_at hl 1 rfl) ?_
  refine va_get (D := D) (ci := 5) (v := .int 4) (C := RX5) (T := TX5) (N := 16) hx hb hts inX5 hown hK hP 0 rfl rfl 1 (by decide) (hts _ kw_192) (fun _ h9 => h9) rfl dX5_settle_114 ?_
  refine lv_if_le (tgt := 129) hx hb dX5_settle_117 (by decide) (fun h => absurd h (by decide)) (fun _ => ?_)
  refine lv_iload_n hx hb dX5_settle_120 rfl (lv_at hl 0 rfl) ?_
  refine lv_aload_n hx hb dX5_settle_121 rfl (lv_at hl 1 rfl) ?_
  refine va_get (D := D) (ci := 5) (v := .int 4) (C := RX5) (T := TX5) (N := 16) hx hb hts inX5 hown hK hP 0 rfl rfl 1 (by decide) (hts _ kw_192) (fun _ h9 => h9) rfl dX5_settle_122 ?_
  refine lv_idiv hx hb dX5_settle_125 (by decide) ?_
  refine z_i (v := 3) (by decide) ?_
  refine lv_goto (tgt := 130) hx hb dX5_settle_126 (by decide) ?_
  refine va_iast hx hb hK hP hD hS 2 1 rfl rfl (z_in (by decide)) dX5_settle_130 (fun H locs hP hD hS => ?_)
  have hP : va_P D vwCl [(h0, .inr (5, [.int 4, .int 4, .int (-1), .int 0, .ref b0, .ref b1, .ref b2, .ref b3, .ref b4, .int 0, .int 16, .int 4, .ref b5, .ref b6, .ref b7, .int c2])), (b5, .inl (k3, 4, .inl (upd (upd (upd (upd (fun _ => 0) 0 15) 1 240) 2 3840) 3 61440))), (b6, .inl (k4, 16, .inl (upd (upd (upd (upd (upd (upd (upd (upd (upd (upd (upd (upd (upd (upd (upd (fun _ => 0) 0 0) 1 0) 2 0) 3 0) 4 1) 5 1) 6 1) 7 1) 8 2) 9 2) 10 2) 11 2) 12 3) 13 3) 14 3))), (b7, .inl (k5, 1820, .inl (fun _ => 0)))] H := hP
  have hD : va_D A [(h0, .inr (5, [.int 4, .int 4, .int (-1), .int 0, .ref b0, .ref b1, .ref b2, .ref b3, .ref b4, .int 0, .int 16, .int 4, .ref b5, .ref b6, .ref b7, .int c2])), (b5, .inl (k3, 4, .inl (upd (upd (upd (upd (fun _ => 0) 0 15) 1 240) 2 3840) 3 61440))), (b6, .inl (k4, 16, .inl (upd (upd (upd (upd (upd (upd (upd (upd (upd (upd (upd (upd (upd (upd (upd (fun _ => 0) 0 0) 1 0) 2 0) 3 0) 4 1) 5 1) 6 1) 7 1) 8 2) 9 2) 10 2) 11 2) 12 3) 13 3) 14 3))), (b7, .inl (k5, 1820, .inl (fun _ => 0)))] := hD
  refine lv_iinc (v := 15) (lv' := [(1, .int 15), (0, .ref h0)]) hx hb dX5_settle_131 hl (k := 0) rfl (by decide) (by decide) rfl (fun ls hl => ?_)
  refine W.eq (g2 := F0 m 134 ls []) rfl ?_
  refine lv_goto (tgt := 91) hx hb dX5_settle_134 (by decide) ?_
  refine lv_iload_n hx hb dX5_settle_91 rfl (lv_at hl 0 rfl) ?_
  refine lv_aload_n hx hb dX5_settle_92 rfl (lv_at hl 1 rfl) ?_
  refine va_get (D := D) (ci := 5) (v := .ref b6) (C := RX5) (T := TX5) (N := 16) hx hb hts inX5 hown hK hP 0 rfl rfl 13 (by decide) (hts _ kw_236) (fun _ h9 => h9) rfl dX5_settle_93 ?_
  refine va_alen (v := 16) hx hb hK hP 2 1 rfl rfl rfl dX5_settle_96 ?_
  refine lv_icmp_ge (tgt := 137) hx hb dX5_settle_97 (by decide) (fun h => absurd h (by decide)) (fun _ => ?_)
  refine lv_aload_n hx hb dX5_settle_100 rfl (lv_at hl 1 rfl) ?_
  refine va_get (D := D) (ci := 5) (v := .ref b6) (C := RX5) (T := TX5) (N := 16) hx hb hts inX5 hown hK hP 0 rfl rfl 13 (by decide) (hts _ kw_236) (fun _ h9 => h9) rfl dX5_settle_101 ?_
  refine lv_iload_n hx hb dX5_settle_104 rfl (lv_at hl 0 rfl) ?_
  refine lv_iload_n hx hb dX5_settle_105 rfl (lv_at hl 0 rfl) ?_
  refine W.eq (g2 := F0 m 106 ls [.int 15, .int 15, .ref b6]) rfl ?_
  refine lv_aload_n hx hb dX5_settle_106 rfl (lv_at hl 1 rfl) ?_
  refine va_get (D := D) (ci := 5) (v := .int 16) (C := RX5) (T := TX5) (N := 16) hx hb hts inX5 hown hK hP 0 rfl rfl 10 (by decide) (hts _ kw_222) (fun _ h9 => h9) rfl dX5_settle_107 ?_
  refine lv_icmp_ge (tgt := 129) hx hb dX5_settle_110 (by decide) (fun h => absurd h (by decide)) (fun _ => ?_)
  refine lv_aload_n hx hb dX5_settle_113 rfl (lv_at hl 1 rfl) ?_
  refine va_get (D := D) (ci := 5) (v := .int 4) (C := RX5) (T := TX5) (N := 16) hx hb hts inX5 hown hK hP 0 rfl rfl 1 (by decide) (hts _ kw_192) (fun _ h9 => h9) rfl dX5_settle_114 ?_
  refine lv_if_le (tgt := 129) hx hb dX5_settle_117 (by decide) (fun h => absurd h (by decide)) (fun _ => ?_)
  refine lv_iload_n hx hb dX5_settle_120 rfl (lv_at hl 0 rfl) ?_
  refine lv_aload_n hx hb dX5_settle_121 rfl (lv_at hl 1 rfl) ?_
  refine va_get (D := D) (ci := 5) (v := .int 4) (C := RX5) (T := TX5) (N := 16) hx hb hts inX5 hown hK hP 0 rfl rfl 1 (by decide) (hts _ kw_192) (fun _ h9 => h9) rfl dX5_settle_122 ?_
  refine lv_idiv hx hb dX5_settle_125 (by decide) ?_
  refine z_i (v := 3) (by decide) ?_
  refine W.eq (g2 := F0 m 126 ls [.int 3, .int 15, .ref b6]) rfl ?_
  refine lv_goto (tgt := 130) hx hb dX5_settle_126 (by decide) ?_
  refine va_iast hx hb hK hP hD hS 2 1 rfl rfl (z_in (by decide)) dX5_settle_130 (fun H locs hP hD hS => ?_)
  have hP : va_P D vwCl [(h0, .inr (5, [.int 4, .int 4, .int (-1), .int 0, .ref b0, .ref b1, .ref b2, .ref b3, .ref b4, .int 0, .int 16, .int 4, .ref b5, .ref b6, .ref b7, .int c2])), (b5, .inl (k3, 4, .inl (upd (upd (upd (upd (fun _ => 0) 0 15) 1 240) 2 3840) 3 61440))), (b6, .inl (k4, 16, .inl (upd (upd (upd (upd (upd (upd (upd (upd (upd (upd (upd (upd (upd (upd (upd (upd (fun _ => 0) 0 0) 1 0) 2 0) 3 0) 4 1) 5 1) 6 1) 7 1) 8 2) 9 2) 10 2) 11 2) 12 3) 13 3) 14 3) 15 3))), (b7, .inl (k5, 1820, .inl (fun _ => 0)))] H := hP
  have hD : va_D A [(h0, .inr (5, [.int 4, .int 4, .int (-1), .int 0, .ref b0, .ref b1, .ref b2, .ref b3, .ref b4, .int 0, .int 16, .int 4, .ref b5, .ref b6, .ref b7, .int c2])), (b5, .inl (k3, 4, .inl (upd (upd (upd (upd (fun _ => 0) 0 15) 1 240) 2 3840) 3 61440))), (b6, .inl (k4, 16, .inl (upd (upd (upd (upd (upd (upd (upd (upd (upd (upd (upd (upd (upd (upd (upd (upd (fun _ => 0) 0 0) 1 0) 2 0) 3 0) 4 1) 5 1) 6 1) 7 1) 8 2) 9 2) 10 2) 11 2) 12 3) 13 3) 14 3) 15 3))), (b7, .inl (k5, 1820, .inl (fun _ => 0)))] := hD
  refine lv_iinc (v := 16) (lv' := [(1, .int 16), (0, .ref h0)]) hx hb dX5_settle_131 hl (k := 0) rfl (by decide) (by decide) rfl (fun ls hl => ?_)
  refine lv_goto (tgt := 91) hx hb dX5_settle_134 (by decide) ?_
  refine lv_iload_n hx hb dX5_settle_91 rfl (lv_at hl 0 rfl) ?_
  refine lv_aload_n hx hb dX5_settle_92 rfl (lv_at hl 1 rfl) ?_
  refine va_get (D := D) (ci := 5) (v := .ref b6) (C := RX5) (T := TX5) (N := 16) hx hb hts inX5 hown hK hP 0 rfl rfl 13 (by decide) (hts _ kw_236) (fun _ h9 => h9) rfl dX5_settle_93 ?_
  refine va_alen (v := 16) hx hb hK hP 2 1 rfl rfl rfl dX5_settle_96 ?_
  refine lv_icmp_ge (tgt := 137) hx hb dX5_settle_97 (by decide) (fun _ => ?_) (fun h => absurd (by decide) h)
  refine lv_aload_n hx hb dX5_settle_137 rfl (lv_at hl 1 rfl) ?_
  refine W.eq (g2 := F0 m 138 ls [.ref h0]) rfl ?_
  refine wr_V (As := []) (rest := []) caV_SignalTable_Laws_60 hx hb hml hown hts hP hD hK hS hA (isC := [0, 3]) (isR := [1, 2]) (isT := [2]) (wr := [(b5, .inl (k3, 4, .inl (upd (upd (upd (upd (fun _ => 0) 0 15) 1 240) 2 3840) 3 61440))), (b6, .inl (k4, 16, .inl (upd (upd (upd (upd (upd (upd (upd (upd (upd (upd (upd (upd (upd (upd (upd (upd (fun _ => 0) 0 0) 1 0) 2 0) 3 0) 4 1) 5 1) 6 1) 7 1) 8 2) 9 2) 10 2) 11 2) 12 3) 13 3) 14 3) 15 3)))]) ⟨rfl, rfl, rfl, rfl, by decide⟩ rfl (wX5_listHands h0 b0 b1 b2 b3 b4 b5 b6 b7 c2 k5) bl_T (fun _ _ _ => trivial) (ci := 5) (q0 := 0) rfl rfl (by decide) rfl hl.1 (Nat.le_of_ble_eq_true rfl) (by decide) dX5_settle_138 rfl (fun q1 k1 g1 l1 H locs hP hD hK hS => ?_)
  have hP : va_P D vwCl [(b5, .inl (k3, 4, .inl (upd (upd (upd (upd (fun _ => 0) 0 15) 1 240) 2 3840) 3 61440))), (b6, .inl (k4, 16, .inl (upd (upd (upd (upd (upd (upd (upd (upd (upd (upd (upd (upd (upd (upd (upd (upd (fun _ => 0) 0 0) 1 0) 2 0) 3 0) 4 1) 5 1) 6 1) 7 1) 8 2) 9 2) 10 2) 11 2) 12 3) 13 3) 14 3) 15 3))), (h0, .inr (5, [.int 4, .int 4, .int (-1), .int 0, .ref b0, .ref b1, .ref b2, .ref b3, .ref b4, .int 0, .int 16, .int 4, .ref b5, .ref b6, .ref b7, .int 1820])), (b7, .inl (k5, 1820, .inl (fun j => cl ((g1 5) j))))] H := hP
  have hD : va_D A [(b5, .inl (k3, 4, .inl (upd (upd (upd (upd (fun _ => 0) 0 15) 1 240) 2 3840) 3 61440))), (b6, .inl (k4, 16, .inl (upd (upd (upd (upd (upd (upd (upd (upd (upd (upd (upd (upd (upd (upd (upd (upd (fun _ => 0) 0 0) 1 0) 2 0) 3 0) 4 1) 5 1) 6 1) 7 1) 8 2) 9 2) 10 2) 11 2) 12 3) 13 3) 14 3) 15 3))), (h0, .inr (5, [.int 4, .int 4, .int (-1), .int 0, .ref b0, .ref b1, .ref b2, .ref b3, .ref b4, .int 0, .int 16, .int 4, .ref b5, .ref b6, .ref b7, .int 1820])), (b7, .inl (k5, 1820, .inl (fun j => cl ((g1 5) j))))] := hD
  have hK : va_K D vwCl [(k3, .int), (k4, .int), (k5, .int), (k5, .int)] s := hK
  refine W.cs (cells' := 0) (slots' := 0) rfl rfl ?_
  have hK : va_K D vwCl [(k3, .int), (k4, .int), (k5, .int)] s := hK.sub [0, 1, 2] rfl
  exact wr_v (q := (fun _ => 0)) (k := (fun _ => 0)) (g := (fun i => match i with | 5 => (g1 5) | _ => fun _ => 0)) (gl := (fun _ => fun _ => 0)) hx hb hr hlocks hS (hP.sub [2, 0, 1, 3] rfl) (hK.sub [0, 1, 2] rfl) (hD.sub [2, 0, 1, 3] (by decide) rfl) dX5_settle_141
