set_option maxHeartbeats 4000000 in
set_option maxRecDepth 100000 in
theorem j_coder {l : Launch} (a v n : Nat) (f : Nat → Int32) (fm : Option Nat) : RdE l yJ0_coder_7d493 cJ0_coder_7d493 1 (some .byte) 0 (SF a v n f fm) [.ref a] (.int 0) := by
  refine RdE.of (by decide) (Nat.le_of_ble_eq_true rfl) ?_
  intro p e s m below meth c ls hx hb hr hml hown hts hlocks hE hl
  have hown : s.vm.findClass "java/lang/String" = some m.cls := hown
  have hl : lv_has ls 1 [(0, .ref a)] := hl
  have hS : va_S (fun _ => False) s.heap s.heap [] := va_S.rf
  refine va_gets hx hb hE.2.2.2.2.1 hS hown (hts _ kw_318) (fun _ h9 => h9) dJ0_coder_7d493_0 ?_
  refine lv_if_eq (tgt := 13) hx hb dJ0_coder_7d493_3 (by decide) (fun h => absurd h (by decide)) (fun _ => ?_)
  refine lv_aload_n hx hb dJ0_coder_7d493_6 rfl (lv_at hl 0 rfl) ?_
  refine vk_getf hx hb hE.2.1 hS hown (hts _ kw_2375) (fun _ h9 => h9) dJ0_coder_7d493_7 ?_
  refine lv_goto (tgt := 14) hx hb dJ0_coder_7d493_10 (by decide) ?_
  exact rd_b hx hb hr hlocks rfl rfl dJ0_coder_7d493_14
set_option maxHeartbeats 4000000 in
set_option maxRecDepth 100000 in
theorem j_isLatin1 {l : Launch} (a v n : Nat) (f : Nat → Int32) (fm : Option Nat) : RdE l yJ0_isLatin1_aae02 cJ0_isLatin1_aae02 1 (some .boolean) 0 (SF a v n f fm) [.ref a] (.int 1) := by
  refine RdE.of (by decide) (Nat.le_of_ble_eq_true rfl) ?_
  intro p e s m below meth c ls hx hb hr hml hown hts hlocks hE hl
  have hown : s.vm.findClass "java/lang/String" = some m.cls := hown
  have hl : lv_has ls 1 [(0, .ref a)] := hl
  have hS : va_S (fun _ => False) s.heap s.heap [] := va_S.rf
  refine va_gets hx hb hE.2.2.2.2.1 hS hown (hts _ kw_318) (fun _ h9 => h9) dJ0_isLatin1_aae02_0 ?_
  refine lv_if_eq (tgt := 17) hx hb dJ0_isLatin1_aae02_3 (by decide) (fun h => absurd h (by decide)) (fun _ => ?_)
  refine lv_aload_n hx hb dJ0_isLatin1_aae02_6 rfl (lv_at hl 0 rfl) ?_
  refine vk_getf hx hb hE.2.1 hS hown (hts _ kw_2375) (fun _ h9 => h9) dJ0_isLatin1_aae02_7 ?_
  refine lv_if_ne (tgt := 17) hx hb dJ0_isLatin1_aae02_10 (by decide) (fun h => absurd (by decide) h) (fun _ => ?_)
  refine lv_iconst (v := 1) hx hb dJ0_isLatin1_aae02_13 (by decide) ?_
  refine lv_goto (tgt := 18) hx hb dJ0_isLatin1_aae02_14 (by decide) ?_
  exact rd_b hx hb hr hlocks rfl rfl dJ0_isLatin1_aae02_18
set_option maxHeartbeats 4000000 in
set_option maxRecDepth 100000 in
theorem j_length {l : Launch} (a v n : Nat) (f : Nat → Int32) (fm : Option Nat) (hn : n < 2 ^ 31) : RdE l yJ0_length_8abf5 cJ0_length_8abf5 1 (some .int) 1 (SF a v n f fm) [.ref a] (.int (nI n)) := by
  refine RdE.of (by decide) (Nat.le_of_ble_eq_true rfl) ?_
  intro p e s m below meth c ls hx hb hr hml hown hts hlocks hE hl
  have hown : s.vm.findClass "java/lang/String" = some m.cls := hown
  have hl : lv_has ls 1 [(0, .ref a)] := hl
  have hS : va_S (fun _ => False) s.heap s.heap [] := va_S.rf
  refine lv_aload_n hx hb dJ0_length_8abf5_0 rfl (lv_at hl 0 rfl) ?_
  refine vk_getf hx hb hE.2.2.1 hS hown (hts _ kw_2374) (fun _ h9 => h9) dJ0_length_8abf5_1 ?_
  refine va_tlen (v := nI n) hx hb hE.2.2.2.1 hS rfl dJ0_length_8abf5_4 ?_
  refine lv_aload_n hx hb dJ0_length_8abf5_5 rfl (lv_at hl 0 rfl) ?_
  refine re_V (As := []) (rest := [.int (nI n)]) caV_java_lang_String_335 hx hb hml hown hts (j_coder a v n f fm) SF_bl (SF_of hE hS) (by obtain ⟨cell, h1, h2, h3, _⟩ := hE.1; exact ⟨cell, h1, h2, h3⟩) (by decide) rfl hl.1 (Nat.le_of_ble_eq_true rfl) (by decide) dJ0_length_8abf5_6 rfl ?_
  refine lv_ishr hx hb dJ0_length_8abf5_9 ?_
  exact rd_i hx hb hr hlocks (congrArg Value.int (sc_shr0 hn)) dJ0_length_8abf5_10
set_option maxHeartbeats 4000000 in
set_option maxRecDepth 100000 in
theorem j_preN {l : Launch} (i n : Nat) (hi : i < n) (hn : n < 2 ^ 31) : RdE l yJ3_checkIndex_8e157 cJ3_checkIndex_8e157 3 (some .int) 0 (fun _ => True) [.int (nI i), .int (nI n), .null] (.int (nI i)) := by
  refine RdE.of (by decide) (Nat.le_of_ble_eq_true rfl) ?_
  intro p e s m below meth c ls hx hb hr hml hown hts hlocks hE hl
  have hown : s.vm.findClass "jdk/internal/util/Preconditions" = some m.cls := hown
  have hl : lv_has ls 3 [(0, .int (nI i)), (1, .int (nI n)), (2, .null)] := hl
  have hS : va_S (fun _ => False) s.heap s.heap [] := va_S.rf
  refine lv_iload_n hx hb dJ3_checkIndex_8e157_0 rfl (lv_at hl 0 rfl) ?_
  refine lv_if_lt (tgt := 9) hx hb dJ3_checkIndex_8e157_1 (by decide) (fun h => absurd h (nI_pos (by omega))) (fun _ => ?_)
  refine lv_iload_n hx hb dJ3_checkIndex_8e157_4 rfl (lv_at hl 0 rfl) ?_
  refine lv_iload_n hx hb dJ3_checkIndex_8e157_5 rfl (lv_at hl 1 rfl) ?_
  refine lv_icmp_lt (tgt := 16) hx hb dJ3_checkIndex_8e157_6 (by decide) (fun _ => ?_) (fun h => absurd (nI_lt hi hn) h)
  refine lv_iload_n hx hb dJ3_checkIndex_8e157_16 rfl (lv_at hl 0 rfl) ?_
  exact rd_i hx hb hr hlocks rfl dJ3_checkIndex_8e157_17
set_option maxHeartbeats 4000000 in
set_option maxRecDepth 100000 in
theorem j_preR {l : Launch} (x : Nat) (i n : Nat) (hi : i < n) (hn : n < 2 ^ 31) : RdE l yJ3_checkIndex_8e157 cJ3_checkIndex_8e157 3 (some .int) 0 (fun _ => True) [.int (nI i), .int (nI n), .ref x] (.int (nI i)) := by
  refine RdE.of (by decide) (Nat.le_of_ble_eq_true rfl) ?_
  intro p e s m below meth c ls hx hb hr hml hown hts hlocks hE hl
  have hown : s.vm.findClass "jdk/internal/util/Preconditions" = some m.cls := hown
  have hl : lv_has ls 3 [(0, .int (nI i)), (1, .int (nI n)), (2, .ref x)] := hl
  have hS : va_S (fun _ => False) s.heap s.heap [] := va_S.rf
  refine lv_iload_n hx hb dJ3_checkIndex_8e157_0 rfl (lv_at hl 0 rfl) ?_
  refine lv_if_lt (tgt := 9) hx hb dJ3_checkIndex_8e157_1 (by decide) (fun h => absurd h (nI_pos (by omega))) (fun _ => ?_)
  refine lv_iload_n hx hb dJ3_checkIndex_8e157_4 rfl (lv_at hl 0 rfl) ?_
  refine lv_iload_n hx hb dJ3_checkIndex_8e157_5 rfl (lv_at hl 1 rfl) ?_
  refine lv_icmp_lt (tgt := 16) hx hb dJ3_checkIndex_8e157_6 (by decide) (fun _ => ?_) (fun h => absurd (nI_lt hi hn) h)
  refine lv_iload_n hx hb dJ3_checkIndex_8e157_16 rfl (lv_at hl 0 rfl) ?_
  exact rd_i hx hb hr hlocks rfl dJ3_checkIndex_8e157_17
theorem j_pre {l : Launch} (fm : Option Nat) (i n : Nat) (hi : i < n) (hn : n < 2 ^ 31) : RdE l yJ3_checkIndex_8e157 cJ3_checkIndex_8e157 3 (some .int) 0 (fun _ => True) [.int (nI i), .int (nI n), va_rf fm] (.int (nI i)) := by
  cases fm with
  | none => exact j_preN i n hi hn
  | some x => exact j_preR x i n hi hn
set_option maxHeartbeats 4000000 in
set_option maxRecDepth 100000 in
theorem j_checkIndex {l : Launch} (a v n : Nat) (f : Nat → Int32) (fm : Option Nat) (i k : Nat) (hi : i < k) (hk : k < 2 ^ 31) : RdN l yJ0_checkIndex_df160 cJ0_checkIndex_df160 2 1 (SF a v n f fm) [.int (nI i), .int (nI k)] := by
  refine RdN.of (by decide) (Nat.le_of_ble_eq_true rfl) ?_
  intro p e s m below meth c ls hx hb hr hml hown hts hlocks hE hl
  have hown : s.vm.findClass "java/lang/String" = some m.cls := hown
  have hl : lv_has ls 2 [(0, .int (nI i)), (1, .int (nI k))] := hl
  have hS : va_S (fun _ => False) s.heap s.heap [] := va_S.rf
  refine lv_iload_n hx hb dJ0_checkIndex_df160_0 rfl (lv_at hl 0 rfl) ?_
  refine lv_iload_n hx hb dJ0_checkIndex_df160_1 rfl (lv_at hl 1 rfl) ?_
  refine va_gets hx hb hE.2.2.2.2.2 hS hown (hts _ kw_334) (fun _ h9 => h9) dJ0_checkIndex_df160_2 ?_
  refine re_S (As := [.int (nI i), .int (nI k), va_rf fm]) (rest := []) caS_java_lang_String_1059 hx hb hml hown hts (j_pre fm i k hi hk) bl_T (fun _ _ _ => trivial) (by decide) rfl hl.1 (Nat.le_of_ble_eq_true rfl) (by decide) dJ0_checkIndex_df160_5 rfl ?_
  refine lv_pop hx hb dJ0_checkIndex_df160_8 rfl ?_
  exact rd_n hx hb hr hlocks dJ0_checkIndex_df160_9
def jch (f : Nat → Int32) (i : Nat) : Int32 := f i &&& 255
set_option maxHeartbeats 4000000 in
set_option maxRecDepth 100000 in
theorem j_latin {l : Launch} (a v n : Nat) (f : Nat → Int32) (fm : Option Nat) (i : Nat) (hi : i < n) (hn : n < 2 ^ 31) : RdE l yJ1_charAt_3b067 cJ1_charAt_3b067 2 (some .char) 2 (SF a v n f fm) [.ref v, .int (nI i)] (.int (jch f i)) := by
  refine RdE.of (by decide) (Nat.le_of_ble_eq_true rfl) ?_
  intro p e s m below meth c ls hx hb hr hml hown hts hlocks hE hl
  have hown : s.vm.findClass "java/lang/StringLatin1" = some m.cls := hown
  have hl : lv_has ls 2 [(0, .ref v), (1, .int (nI i))] := hl
  have hS : va_S (fun _ => False) s.heap s.heap [] := va_S.rf
  refine lv_iload_n hx hb dJ1_charAt_3b067_0 rfl (lv_at hl 1 rfl) ?_
  refine lv_aload_n hx hb dJ1_charAt_3b067_1 rfl (lv_at hl 0 rfl) ?_
  refine va_tlen (v := nI n) hx hb hE.2.2.2.1 hS rfl dJ1_charAt_3b067_2 ?_
  refine re_SN (As := [.int (nI i), .int (nI n)]) (rest := []) caS_java_lang_StringLatin1_9 hx hb hml hown hts (j_checkIndex a v n f fm i n hi hn) SF_bl (SF_of hE hS) (by decide) rfl hl.1 (Nat.le_of_ble_eq_true rfl) (by decide) dJ1_charAt_3b067_3 rfl ?_
  refine lv_aload_n hx hb dJ1_charAt_3b067_6 rfl (lv_at hl 0 rfl) ?_
  refine lv_iload_n hx hb dJ1_charAt_3b067_7 rfl (lv_at hl 1 rfl) ?_
  refine va_tb (v := .int (f i)) hx hb hE.2.2.2.1 hS (vp_in_nI hi hn) (by rw [nI_clamp (by omega)]) dJ1_charAt_3b067_8 ?_
  refine lv_sipush (v := 255) hx hb dJ1_charAt_3b067_9 (by decide) ?_
  refine lv_iand hx hb dJ1_charAt_3b067_12 ?_
  refine lv_i2c (v := f i &&& 255) hx hb dJ1_charAt_3b067_13 (sc_c2 _) ?_
  exact rd_b hx hb hr hlocks (sc_nar _) rfl dJ1_charAt_3b067_14
set_option maxHeartbeats 4000000 in
set_option maxRecDepth 100000 in
theorem j_charAt {l : Launch} (a v n : Nat) (f : Nat → Int32) (fm : Option Nat) (i : Nat) (hi : i < n) (hn : n < 2 ^ 31) : RdE l yJ0_charAt_5068e cJ0_charAt_5068e 2 (some .char) 3 (SF a v n f fm) [.ref a, .int (nI i)] (.int (jch f i)) := by
  refine RdE.of (by decide) (Nat.le_of_ble_eq_true rfl) ?_
  intro p e s m below meth c ls hx hb hr hml hown hts hlocks hE hl
  have hown : s.vm.findClass "java/lang/String" = some m.cls := hown
  have hl : lv_has ls 2 [(0, .ref a), (1, .int (nI i))] := hl
  have hS : va_S (fun _ => False) s.heap s.heap [] := va_S.rf
  refine lv_aload_n hx hb dJ0_charAt_5068e_0 rfl (lv_at hl 0 rfl) ?_
  refine re_V (As := []) (rest := []) caV_java_lang_String_492 hx hb hml hown hts (j_isLatin1 a v n f fm) SF_bl (SF_of hE hS) (by obtain ⟨cell, h1, h2, h3, _⟩ := hE.1; exact ⟨cell, h1, h2, h3⟩) (by decide) rfl hl.1 (Nat.le_of_ble_eq_true rfl) (by decide) dJ0_charAt_5068e_1 rfl ?_
  refine lv_if_eq (tgt := 16) hx hb dJ0_charAt_5068e_4 (by decide) (fun h => absurd h (by decide)) (fun _ => ?_)
  refine lv_aload_n hx hb dJ0_charAt_5068e_7 rfl (lv_at hl 0 rfl) ?_
  refine vk_getf hx hb hE.2.2.1 hS hown (hts _ kw_2374) (fun _ h9 => h9) dJ0_charAt_5068e_8 ?_
  refine lv_iload_n hx hb dJ0_charAt_5068e_11 rfl (lv_at hl 1 rfl) ?_
  refine re_S (As := [.ref v, .int (nI i)]) (rest := []) caS_java_lang_String_495 hx hb hml hown hts (j_latin a v n f fm i hi hn) SF_bl (SF_of hE hS) (by decide) rfl hl.1 (Nat.le_of_ble_eq_true rfl) (by decide) dJ0_charAt_5068e_12 rfl ?_
  exact rd_b hx hb hr hlocks (sc_nar _) rfl dJ0_charAt_5068e_15
