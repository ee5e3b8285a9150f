set_option maxHeartbeats 4000000 in
set_option maxRecDepth 100000 in
theorem wX12_suitOf {l : Launch} {D : va_G} (q : Nat → Nat) (k : Nat → ClassId) (g : Nat → Nat → Int32) (gl : Nat → Nat → Int64) (p1 : Int32) : Rd l yX12_suitOf cX12_suitOf 2 (some .int) 0 D [((q 0), .inr (12, mObj q)), ((q 7), .inl ((k 7), 2, .inl (upd (fun _ => 0) 0 4)))] [((k 7), .int)] [.ref (q 0), .int p1] (.int (p1 / 4)) := by
  refine Rd.of (by decide) (Nat.le_of_ble_eq_true rfl) ?_
  intro p e s m below meth c ls hx hb hr hml hown hts hlocks hP hK hl
  have hown : s.vm.findClass "SignalTableModel" = some m.cls := hown
  have hl : lv_has ls 2 [(0, .ref (q 0)), (1, .int p1)] := hl
  refine lv_iload_n hx hb dX12_suitOf_0 rfl (lv_at hl 1 rfl) ?_
  refine lv_aload_n hx hb dX12_suitOf_1 rfl (lv_at hl 0 rfl) ?_
  refine va_get (D := D) (ci := 12) (v := .ref (q 7)) (C := RX12) (T := TX12) (N := 95) hx hb hts inX12 hown hK hP 0 rfl rfl 23 (by decide) (hts _ kw_1537) (fun _ h9 => h9) rfl dX12_suitOf_2 ?_
  refine lv_aload_n hx hb dX12_suitOf_5 rfl (lv_at hl 0 rfl) ?_
  refine va_get (D := D) (ci := 12) (v := .int 0) (C := RX12) (T := TX12) (N := 95) hx hb hts inX12 hown hK hP 0 rfl rfl 18 (by decide) (hts _ kw_1532) (fun _ h9 => h9) rfl dX12_suitOf_6 ?_
  refine va_iald hx hb hK hP 1 0 rfl rfl (z_in (by decide)) dX12_suitOf_9 ?_
  refine z_i (v := 4) (by rfl) ?_
  refine lv_idiv hx hb dX12_suitOf_10 (by decide) ?_
  exact rd_i hx hb hr hlocks (rfl) dX12_suitOf_11
set_option maxHeartbeats 4000000 in
set_option maxRecDepth 100000 in
theorem wX12_rankOf {l : Launch} {D : va_G} (q : Nat → Nat) (k : Nat → ClassId) (g : Nat → Nat → Int32) (gl : Nat → Nat → Int64) (p1 : Int32) : Rd l yX12_rankOf cX12_rankOf 2 (some .int) 0 D [((q 0), .inr (12, mObj q)), ((q 7), .inl ((k 7), 2, .inl (upd (fun _ => 0) 0 4)))] [((k 7), .int)] [.ref (q 0), .int p1] (.int (p1 - p1 / 4 * 4)) := by
  refine Rd.of (by decide) (Nat.le_of_ble_eq_true rfl) ?_
  intro p e s m below meth c ls hx hb hr hml hown hts hlocks hP hK hl
  have hown : s.vm.findClass "SignalTableModel" = some m.cls := hown
  have hl : lv_has ls 2 [(0, .ref (q 0)), (1, .int p1)] := hl
  refine lv_iload_n hx hb dX12_rankOf_0 rfl (lv_at hl 1 rfl) ?_
  refine lv_aload_n hx hb dX12_rankOf_1 rfl (lv_at hl 0 rfl) ?_
  refine va_get (D := D) (ci := 12) (v := .ref (q 7)) (C := RX12) (T := TX12) (N := 95) hx hb hts inX12 hown hK hP 0 rfl rfl 23 (by decide) (hts _ kw_1537) (fun _ h9 => h9) rfl dX12_rankOf_2 ?_
  refine lv_aload_n hx hb dX12_rankOf_5 rfl (lv_at hl 0 rfl) ?_
  refine va_get (D := D) (ci := 12) (v := .int 0) (C := RX12) (T := TX12) (N := 95) hx hb hts inX12 hown hK hP 0 rfl rfl 18 (by decide) (hts _ kw_1532) (fun _ h9 => h9) rfl dX12_rankOf_6 ?_
  refine va_iald hx hb hK hP 1 0 rfl rfl (z_in (by decide)) dX12_rankOf_9 ?_
  refine z_i (v := 4) (by rfl) ?_
  refine lv_irem hx hb dX12_rankOf_10 (by decide) ?_
  exact rd_i hx hb hr hlocks (rfl) dX12_rankOf_11
set_option maxHeartbeats 4000000 in
set_option maxRecDepth 100000 in
theorem wX12_sees {l : Launch} {D : va_G} {sz : Nat} (q : Nat → Nat) (k : Nat → ClassId) (g : Nat → Nat → Int32) (gl : Nat → Nat → Int64) (f13 : Nat → Int32) (p1 : Int32) (p2 : Int32) (p3 : Int32) (p4 : Int32) : Wv l yX12_sees cX12_sees 6 1 0 0 D [((q 0), .inr (12, mObj q)), ((q 7), .inl ((k 7), 2, .inl (upd (fun _ => 0) 0 4))), ((q 13), .inl ((k 13), 14, .inl f13))] [((k 7), .int), ((k 13), .int)] [.ref (q 0), .int p1, .int p2, .int p3, .int p4] sz (fun _ => True) (fun qz kz gz lz => [((q 0), .inr (12, mObj q)), ((q 7), .inl ((k 7), 2, .inl (upd (fun _ => 0) 0 4))), ((q 13), .inl ((k 13), 14, .inl (gz 13)))]) (fun kz => [((k 7), .int), ((k 13), .int)]) := by
  refine Wv.of (by decide) (Nat.le_of_ble_eq_true rfl) ?_
  intro p e s m below meth c ls A hx hb hr hml hown hts hlocks hin hP hK hD hA hS hE hAe hl
  have hown : s.vm.findClass "SignalTableModel" = some m.cls := hown
  have hin : meth.name = "sees" := hin
  skip
  have hl : lv_has ls 6 [(0, .ref (q 0)), (1, .int p1), (2, .int p2), (3, .int p3), (4, .int p4)] := hl
  refine lv_iconst (v := 0) hx hb dX12_sees_0 (by decide) ?_
  refine lv_istore (lv' := [(5, .int 0), (0, .ref (q 0)), (1, .int p1), (2, .int p2), (3, .int p3), (4, .int p4)]) hx hb dX12_sees_1 hl (by decide) rfl (fun ls hl => ?_)
  refine lv_iload hx hb dX12_sees_3 (lv_at hl 0 rfl) ?_
  refine lv_bipush (v := 14) hx hb dX12_sees_5 (by decide) ?_
  refine lv_icmp_ge (tgt := 24) hx hb dX12_sees_7 (by decide) (fun h => absurd h (by decide)) (fun _ => ?_)
  refine lv_aload_n hx hb dX12_sees_10 rfl (lv_at hl 1 rfl) ?_
  refine va_get (D := D) (ci := 12) (v := .ref (q 13)) (C := RX12) (T := TX12) (N := 95) hx hb hts inX12 hown hK hP 0 rfl rfl 42 (by decide) (hts _ kw_1556) (fun _ h9 => h9) rfl dX12_sees_11 ?_
  refine lv_iload hx hb dX12_sees_14 (lv_at hl 0 rfl) ?_
  refine lv_iconst (v := 0) hx hb dX12_sees_16 (by decide) ?_
  refine W.eq (g2 := F0 m 17 ls [.int 0, .int 0, .ref (q 13)]) rfl ?_
  refine va_iast hx hb hK hP hD hS 2 1 rfl rfl (z_in (by decide)) dX12_sees_17 (fun H locs hP hD hS => ?_)
  obtain ⟨f17_1, hf17_1⟩ : ∃ z, z = upd f13 ((0 : Int32).toNatClampNeg) 0 := ⟨_, rfl⟩
  rw [← hf17_1] at hP hD
  have hP : va_P D vwCl [((q 0), .inr (12, mObj q)), ((q 7), .inl ((k 7), 2, .inl (upd (fun _ => 0) 0 4))), ((q 13), .inl ((k 13), 14, .inl f17_1))] H := hP
  have hD : va_D A [((q 0), .inr (12, mObj q)), ((q 7), .inl ((k 7), 2, .inl (upd (fun _ => 0) 0 4))), ((q 13), .inl ((k 13), 14, .inl f17_1))] := hD
  refine lv_iinc (v := 1) (lv' := [(5, .int 1), (0, .ref (q 0)), (1, .int p1), (2, .int p2), (3, .int p3), (4, .int p4)]) hx hb dX12_sees_18 hl (k := 0) rfl (by decide) (by decide) rfl (fun ls hl => ?_)
  refine lv_goto (tgt := 3) hx hb dX12_sees_21 (by decide) ?_
  refine lv_iload hx hb dX12_sees_3 (lv_at hl 0 rfl) ?_
  refine lv_bipush (v := 14) hx hb dX12_sees_5 (by decide) ?_
  refine lv_icmp_ge (tgt := 24) hx hb dX12_sees_7 (by decide) (fun h => absurd h (by decide)) (fun _ => ?_)
  refine lv_aload_n hx hb dX12_sees_10 rfl (lv_at hl 1 rfl) ?_
  refine va_get (D := D) (ci := 12) (v := .ref (q 13)) (C := RX12) (T := TX12) (N := 95) hx hb hts inX12 hown hK hP 0 rfl rfl 42 (by decide) (hts _ kw_1556) (fun _ h9 => h9) rfl dX12_sees_11 ?_
  refine lv_iload hx hb dX12_sees_14 (lv_at hl 0 rfl) ?_
  refine lv_iconst (v := 0) hx hb dX12_sees_16 (by decide) ?_
  refine W.eq (g2 := F0 m 17 ls [.int 0, .int 1, .ref (q 13)]) rfl ?_
  refine va_iast hx hb hK hP hD hS 2 1 rfl rfl (z_in (by decide)) dX12_sees_17 (fun H locs hP hD hS => ?_)
  obtain ⟨f17_2, hf17_2⟩ : ∃ z, z = upd f17_1 ((1 : Int32).toNatClampNeg) 0 := ⟨_, rfl⟩
  rw [← hf17_2] at hP hD
  have hP : va_P D vwCl [((q 0), .inr (12, mObj q)), ((q 7), .inl ((k 7), 2, .inl (upd (fun _ => 0) 0 4))), ((q 13), .inl ((k 13), 14, .inl f17_2))] H := hP
  have hD : va_D A [((q 0), .inr (12, mObj q)), ((q 7), .inl ((k 7), 2, .inl (upd (fun _ => 0) 0 4))), ((q 13), .inl ((k 13), 14, .inl f17_2))] := hD
  refine lv_iinc (v := 2) (lv' := [(5, .int 2), (0, .ref (q 0)), (1, .int p1), (2, .int p2), (3, .int p3), (4, .int p4)]) hx hb dX12_sees_18 hl (k := 0) rfl (by decide) (by decide) rfl (fun ls hl => ?_)
  refine lv_goto (tgt := 3) hx hb dX12_sees_21 (by decide) ?_
  refine lv_iload hx hb dX12_sees_3 (lv_at hl 0 rfl) ?_
  refine lv_bipush (v := 14) hx hb dX12_sees_5 (by decide) ?_
  refine lv_icmp_ge (tgt := 24) hx hb dX12_sees_7 (by decide) (fun h => absurd h (by decide)) (fun _ => ?_)
  refine lv_aload_n hx hb dX12_sees_10 rfl (lv_at hl 1 rfl) ?_
  refine va_get (D := D) (ci := 12) (v := .ref (q 13)) (C := RX12) (T := TX12) (N := 95) hx hb hts inX12 hown hK hP 0 rfl rfl 42 (by decide) (hts _ kw_1556) (fun _ h9 => h9) rfl dX12_sees_11 ?_
  refine lv_iload hx hb dX12_sees_14 (lv_at hl 0 rfl) ?_
  refine lv_iconst (v := 0) hx hb dX12_sees_16 (by decide) ?_
  refine W.eq (g2 := F0 m 17 ls [.int 0, .int 2, .ref (q 13)]) rfl ?_
  refine va_iast hx hb hK hP hD hS 2 1 rfl rfl (z_in (by decide)) dX12_sees_17 (fun H locs hP hD hS => ?_)
  obtain ⟨f17_3, hf17_3⟩ : ∃ z, z = upd f17_2 ((2 : Int32).toNatClampNeg) 0 := ⟨_, rfl⟩
  rw [← hf17_3] at hP hD
  have hP : va_P D vwCl [((q 0), .inr (12, mObj q)), ((q 7), .inl ((k 7), 2, .inl (upd (fun _ => 0) 0 4))), ((q 13), .inl ((k 13), 14, .inl f17_3))] H := hP
  have hD : va_D A [((q 0), .inr (12, mObj q)), ((q 7), .inl ((k 7), 2, .inl (upd (fun _ => 0) 0 4))), ((q 13), .inl ((k 13), 14, .inl f17_3))] := hD
  refine lv_iinc (v := 3) (lv' := [(5, .int 3), (0, .ref (q 0)), (1, .int p1), (2, .int p2), (3, .int p3), (4, .int p4)]) hx hb dX12_sees_18 hl (k := 0) rfl (by decide) (by decide) rfl (fun ls hl => ?_)
  refine lv_goto (tgt := 3) hx hb dX12_sees_21 (by decide) ?_
  refine lv_iload hx hb dX12_sees_3 (lv_at hl 0 rfl) ?_
  refine lv_bipush (v := 14) hx hb dX12_sees_5 (by decide) ?_
  refine lv_icmp_ge (tgt := 24) hx hb dX12_sees_7 (by decide) (fun h => absurd h (by decide)) (fun _ => ?_)
  refine lv_aload_n hx hb dX12_sees_10 rfl (lv_at hl 1 rfl) ?_
  refine va_get (D := D) (ci := 12) (v := .ref (q 13)) (C := RX12) (T := TX12) (N := 95) hx hb hts inX12 hown hK hP 0 rfl rfl 42 (by decide) (hts _ kw_1556) (fun _ h9 => h9) rfl dX12_sees_11 ?_
  refine lv_iload hx hb dX12_sees_14 (lv_at hl 0 rfl) ?_
  refine lv_iconst (v := 0) hx hb dX12_sees_16 (by decide) ?_
  refine W.eq (g2 := F0 m 17 ls [.int 0, .int 3, .ref (q 13)]) rfl ?_
  refine va_iast hx hb hK hP hD hS 2 1 rfl rfl (z_in (by decide)) dX12_sees_17 (fun H locs hP hD hS => ?_)
  obtain ⟨f17_4, hf17_4⟩ : ∃ z, z = upd f17_3 ((3 : Int32).toNatClampNeg) 0 := ⟨_, rfl⟩
  rw [← hf17_4] at hP hD
  have hP : va_P D vwCl [((q 0), .inr (12, mObj q)), ((q 7), .inl ((k 7), 2, .inl (upd (fun _ => 0) 0 4))), ((q 13), .inl ((k 13), 14, .inl f17_4))] H := hP
  have hD : va_D A [((q 0), .inr (12, mObj q)), ((q 7), .inl ((k 7), 2, .inl (upd (fun _ => 0) 0 4))), ((q 13), .inl ((k 13), 14, .inl f17_4))] := hD
  refine lv_iinc (v := 4) (lv' := [(5, .int 4), (0, .ref (q 0)), (1, .int p1), (2, .int p2), (3, .int p3), (4, .int p4)]) hx hb dX12_sees_18 hl (k := 0) rfl (by decide) (by decide) rfl (fun ls hl => ?_)
  refine lv_goto (tgt := 3) hx hb dX12_sees_21 (by decide) ?_
  refine lv_iload hx hb dX12_sees_3 (lv_at hl 0 rfl) ?_
  refine lv_bipush (v := 14) hx hb dX12_sees_5 (by decide) ?_
  refine lv_icmp_ge (tgt := 24) hx hb dX12_sees_7 (by decide) (fun h => absurd h (by decide)) (fun _ => ?_)
  refine lv_aload_n hx hb dX12_sees_10 rfl (lv_at hl 1 rfl) ?_
  refine va_get (D := D) (ci := 12) (v := .ref (q 13)) (C := RX12) (T := TX12) (N := 95) hx hb hts inX12 hown hK hP 0 rfl rfl 42 (by decide) (hts _ kw_1556) (fun _ h9 => h9) rfl dX12_sees_11 ?_
  refine lv_iload hx hb dX12_sees_14 (lv_at hl 0 rfl) ?_
  refine lv_iconst (v := 0) hx hb dX12_sees_16 (by decide) ?_
  refine W.eq (g2 := F0 m 17 ls [.int 0, .int 4, .ref (q 13)]) rfl ?_
  refine va_iast hx hb hK hP hD hS 2 1 rfl rfl (z_in (by decide)) dX12_sees_17 (fun H locs hP hD hS => ?_)
  obtain ⟨f17_5, hf17_5⟩ : ∃ z, z = upd f17_4 ((4 : Int32).toNatClampNeg) 0 := ⟨_, rfl⟩
  rw [← hf17_5] at hP hD
  have hP : va_P D vwCl [((q 0), .inr (12, mObj q)), ((q 7), .inl ((k 7), 2, .inl (upd (fun _ => 0) 0 4))), ((q 13), .inl ((k 13), 14, .inl f17_5))] H := hP
  have hD : va_D A [((q 0), .inr (12, mObj q)), ((q 7), .inl ((k 7), 2, .inl (upd (fun _ => 0) 0 4))), ((q 13), .inl ((k 13), 14, .inl f17_5))] := hD
  refine lv_iinc (v := 5) (lv' := [(5, .int 5), (0, .ref (q 0)), (1, .int p1), (2, .int p2), (3, .int p3), (4, .int p4)]) hx hb dX12_sees_18 hl (k := 0) rfl (by decide) (by decide) rfl (fun ls hl => ?_)
  refine lv_goto (tgt := 3) hx hb dX12_sees_21 (by decide) ?_
  refine lv_iload hx hb dX12_sees_3 (lv_at hl 0 rfl) ?_
  refine lv_bipush (v := 14) hx hb dX12_sees_5 (by decide) ?_
  refine lv_icmp_ge (tgt := 24) hx hb dX12_sees_7 (by decide) (fun h => absurd h (by decide)) (fun _ => ?_)
  refine lv_aload_n hx hb dX12_sees_10 rfl (lv_at hl 1 rfl) ?_
  refine va_get (D := D) (ci := 12) (v := .ref (q 13)) (C := RX12) (T := TX12) (N := 95) hx hb hts inX12 hown hK hP 0 rfl rfl 42 (by decide) (hts _ kw_1556) (fun _ h9 => h9) rfl dX12_sees_11 ?_
  refine lv_iload hx hb dX12_sees_14 (lv_at hl 0 rfl) ?_
  refine lv_iconst (v := 0) hx hb dX12_sees_16 (by decide) ?_
  refine W.eq (g2 := F0 m 17 ls [.int 0, .int 5, .ref (q 13)]) rfl ?_
  refine va_iast hx hb hK hP hD hS 2 1 rfl rfl (z_in (by decide)) dX12_sees_17 (fun H locs hP hD hS => ?_)
  obtain ⟨f17_6, hf17_6⟩ : ∃ z, z = upd f17_5 ((5 : Int32).toNatClampNeg) 0 := ⟨_, rfl⟩
  rw [← hf17_6] at hP hD
  have hP : va_P D vwCl [((q 0), .inr (12, mObj q)), ((q 7), .inl ((k 7), 2, .inl (upd (fun _ => 0) 0 4))), ((q 13), .inl ((k 13), 14, .inl f17_6))] H := hP
  have hD : va_D A [((q 0), .inr (12, mObj q)), ((q 7), .inl ((k 7), 2, .inl (upd (fun _ => 0) 0 4))), ((q 13), .inl ((k 13), 14, .inl f17_6))] := hD
  refine lv_iinc (v := 6) (lv' := [(5, .int 6), (0, .ref (q 0)), (1, .int p1), (2, .int p2), (3, .int p3), (4, .int p4)]) hx hb dX12_sees_18 hl (k := 0) rfl (by decide) (by decide) rfl (fun ls hl => ?_)
  refine lv_goto (tgt := 3) hx hb dX12_sees_21 (by decide) ?_
  refine lv_iload hx hb dX12_sees_3 (lv_at hl 0 rfl) ?_
  refine lv_bipush (v := 14) hx hb dX12_sees_5 (by decide) ?_
  refine lv_icmp_ge (tgt := 24) hx hb dX12_sees_7 (by decide) (fun h => absurd h (by decide)) (fun _ => ?_)
  refine lv_aload_n hx hb dX12_sees_10 rfl (lv_at hl 1 rfl) ?_
  refine va_get (D := D) (ci := 12) (v := .ref (q 13)) (C := RX12) (T := TX12) (N := 95) hx hb hts inX12 hown hK hP 0 rfl rfl 42 (by decide) (hts _ kw_1556) (fun _ h9 => h9) rfl dX12_sees_11 ?_
  refine lv_iload hx hb dX12_sees_14 (lv_at hl 0 rfl) ?_
  refine lv_iconst (v := 0) hx hb dX12_sees_16 (by decide) ?_
  refine W.eq (g2 := F0 m 17 ls [.int 0, .int 6, .ref (q 13)]) rfl ?_
  refine va_iast hx hb hK hP hD hS 2 1 rfl rfl (z_in (by decide)) dX12_sees_17 (fun H locs hP hD hS => ?_)
  obtain ⟨f17_7, hf17_7⟩ : ∃ z, z = upd f17_6 ((6 : Int32).toNatClampNeg) 0 := ⟨_, rfl⟩
  rw [← hf17_7] at hP hD
  have hP : va_P D vwCl [((q 0), .inr (12, mObj q)), ((q 7), .inl ((k 7), 2, .inl (upd (fun _ => 0) 0 4))), ((q 13), .inl ((k 13), 14, .inl f17_7))] H := hP
  have hD : va_D A [((q 0), .inr (12, mObj q)), ((q 7), .inl ((k 7), 2, .inl (upd (fun _ => 0) 0 4))), ((q 13), .inl ((k 13), 14, .inl f17_7))] := hD
  refine lv_iinc (v := 7) (lv' := [(5, .int 7), (0, .ref (q 0)), (1, .int p1), (2, .int p2), (3, .int p3), (4, .int p4)]) hx hb dX12_sees_18 hl (k := 0) rfl (by decide) (by decide) rfl (fun ls hl => ?_)
  refine lv_goto (tgt := 3) hx hb dX12_sees_21 (by decide) ?_
  refine lv_iload hx hb dX12_sees_3 (lv_at hl 0 rfl) ?_
  refine lv_bipush (v := 14) hx hb dX12_sees_5 (by decide) ?_
  refine lv_icmp_ge (tgt := 24) hx hb dX12_sees_7 (by decide) (fun h => absurd h (by decide)) (fun _ => ?_)
  refine lv_aload_n hx hb dX12_sees_10 rfl (lv_at hl 1 rfl) ?_
  refine va_get (D := D) (ci := 12) (v := .ref (q 13)) (C := RX12) (T := TX12) (N := 95) hx hb hts inX12 hown hK hP 0 rfl rfl 42 (by decide) (hts _ kw_1556) (fun _ h9 => h9) rfl dX12_sees_11 ?_
  refine lv_iload hx hb dX12_sees_14 (lv_at hl 0 rfl) ?_
  refine lv_iconst (v := 0) hx hb dX12_sees_16 (by decide) ?_
  refine W.eq (g2 := F0 m 17 ls [.int 0, .int 7, .ref (q 13)]) rfl ?_
  refine va_iast hx hb hK hP hD hS 2 1 rfl rfl (z_in (by decide)) dX12_sees_17 (fun H locs hP hD hS => ?_)
  obtain ⟨f17_8, hf17_8⟩ : ∃ z, z = upd f17_7 ((7 : Int32).toNatClampNeg) 0 := ⟨_, rfl⟩
  rw [← hf17_8] at hP hD
  have hP : va_P D vwCl [((q 0), .inr (12, mObj q)), ((q 7), .inl ((k 7), 2, .inl (upd (fun _ => 0) 0 4))), ((q 13), .inl ((k 13), 14, .inl f17_8))] H := hP
  have hD : va_D A [((q 0), .inr (12, mObj q)), ((q 7), .inl ((k 7), 2, .inl (upd (fun _ => 0) 0 4))), ((q 13), .inl ((k 13), 14, .inl f17_8))] := hD
  refine lv_iinc (v := 8) (lv' := [(5, .int 8), (0, .ref (q 0)), (1, .int p1), (2, .int p2), (3, .int p3), (4, .int p4)]) hx hb dX12_sees_18 hl (k := 0) rfl (by decide) (by decide) rfl (fun ls hl => ?_)
  refine lv_goto (tgt := 3) hx hb dX12_sees_21 (by decide) ?_
  refine lv_iload hx hb dX12_sees_3 (lv_at hl 0 rfl) ?_
  refine lv_bipush (v := 14) hx hb dX12_sees_5 (by decide) ?_
  refine lv_icmp_ge (tgt := 24) hx hb dX12_sees_7 (by decide) (fun h => absurd h (by decide)) (fun _ => ?_)
  refine lv_aload_n hx hb dX12_sees_10 rfl (lv_at hl 1 rfl) ?_
  refine va_get (D := D) (ci := 12) (v := .ref (q 13)) (C := RX12) (T := TX12) (N := 95) hx hb hts inX12 hown hK hP 0 rfl rfl 42 (by decide) (hts _ kw_1556) (fun _ h9 => h9) rfl dX12_sees_11 ?_
  refine lv_iload hx hb dX12_sees_14 (lv_at hl 0 rfl) ?_
  refine lv_iconst (v := 0) hx hb dX12_sees_16 (by decide) ?_
  refine W.eq (g2 := F0 m 17 ls [.int 0, .int 8, .ref (q 13)]) rfl ?_
  refine va_iast hx hb hK hP hD hS 2 1 rfl rfl (z_in (by decide)) dX12_sees_17 (fun H locs hP hD hS => ?_)
  obtain ⟨f17_9, hf17_9⟩ : ∃ z, z = upd f17_8 ((8 : Int32).toNatClampNeg) 0 := ⟨_, rfl⟩
  rw [← hf17_9] at hP hD
  have hP : va_P D vwCl [((q 0), .inr (12, mObj q)), ((q 7), .inl ((k 7), 2, .inl (upd (fun _ => 0) 0 4))), ((q 13), .inl ((k 13), 14, .inl f17_9))] H := hP
  have hD : va_D A [((q 0), .inr (12, mObj q)), ((q 7), .inl ((k 7), 2, .inl (upd (fun _ => 0) 0 4))), ((q 13), .inl ((k 13), 14, .inl f17_9))] := hD
  refine lv_iinc (v := 9) (lv' := [(5, .int 9), (0, .ref (q 0)), (1, .int p1), (2, .int p2), (3, .int p3), (4, .int p4)]) hx hb dX12_sees_18 hl (k := 0) rfl (by decide) (by decide) rfl (fun ls hl => ?_)
  refine lv_goto (tgt := 3) hx hb dX12_sees_21 (by decide) ?_
  refine lv_iload hx hb dX12_sees_3 (lv_at hl 0 rfl) ?_
  refine lv_bipush (v := 14) hx hb dX12_sees_5 (by decide) ?_
  refine lv_icmp_ge (tgt := 24) hx hb dX12_sees_7 (by decide) (fun h => absurd h (by decide)) (fun _ => ?_)
  refine lv_aload_n hx hb dX12_sees_10 rfl (lv_at hl 1 rfl) ?_
  refine va_get (D := D) (ci := 12) (v := .ref (q 13)) (C := RX12) (T := TX12) (N := 95) hx hb hts inX12 hown hK hP 0 rfl rfl 42 (by decide) (hts _ kw_1556) (fun _ h9 => h9) rfl dX12_sees_11 ?_
  refine lv_iload hx hb dX12_sees_14 (lv_at hl 0 rfl) ?_
  refine lv_iconst (v := 0) hx hb dX12_sees_16 (by decide) ?_
  refine W.eq (g2 := F0 m 17 ls [.int 0, .int 9, .ref (q 13)]) rfl ?_
  refine va_iast hx hb hK hP hD hS 2 1 rfl rfl (z_in (by decide)) dX12_sees_17 (fun H locs hP hD hS => ?_)
  obtain ⟨f17_10, hf17_10⟩ : ∃ z, z = upd f17_9 ((9 : Int32).toNatClampNeg) 0 := ⟨_, rfl⟩
  rw [← hf17_10] at hP hD
  have hP : va_P D vwCl [((q 0), .inr (12, mObj q)), ((q 7), .inl ((k 7), 2, .inl (upd (fun _ => 0) 0 4))), ((q 13), .inl ((k 13), 14, .inl f17_10))] H := hP
  have hD : va_D A [((q 0), .inr (12, mObj q)), ((q 7), .inl ((k 7), 2, .inl (upd (fun _ => 0) 0 4))), ((q 13), .inl ((k 13), 14, .inl f17_10))] := hD
  refine lv_iinc (v := 10) (lv' := [(5, .int 10), (0, .ref (q 0)), (1, .int p1), (2, .int p2), (3, .int p3), (4, .int p4)]) hx hb dX12_sees_18 hl (k := 0) rfl (by decide) (by decide) rfl (fun ls hl => ?_)
  refine lv_goto (tgt := 3) hx hb dX12_sees_21 (by decide) ?_
  refine lv_iload hx hb dX12_sees_3 (lv_at hl 0 rfl) ?_
  refine lv_bipush (v := 14) hx hb dX12_sees_5 (by decide) ?_
  refine lv_icmp_ge (tgt := 24) hx hb dX12_sees_7 (by decide) (fun h => absurd h (by decide)) (fun _ => ?_)
  refine lv_aload_n hx hb dX12_sees_10 rfl (lv_at hl 1 rfl) ?_
  refine va_get (D := D) (ci := 12) (v := .ref (q 13)) (C := RX12) (T := TX12) (N := 95) hx hb hts inX12 hown hK hP 0 rfl rfl 42 (by decide) (hts _ kw_1556) (fun _ h9 => h9) rfl dX12_sees_11 ?_
  refine lv_iload hx hb dX12_sees_14 (lv_at hl 0 rfl) ?_
  refine lv_iconst (v := 0) hx hb dX12_sees_16 (by decide) ?_
  refine W.eq (g2 := F0 m 17 ls [.int 0, .int 10, .ref (q 13)]) rfl ?_
  refine va_iast hx hb hK hP hD hS 2 1 rfl rfl (z_in (by decide)) dX12_sees_17 (fun H locs hP hD hS => ?_)
  obtain ⟨f17_11, hf17_11⟩ : ∃ z, z = upd f17_10 ((10 : Int32).toNatClampNeg) 0 := ⟨_, rfl⟩
  rw [← hf17_11] at hP hD
  have hP : va_P D vwCl [((q 0), .inr (12, mObj q)), ((q 7), .inl ((k 7), 2, .inl (upd (fun _ => 0) 0 4))), ((q 13), .inl ((k 13), 14, .inl f17_11))] H := hP
  have hD : va_D A [((q 0), .inr (12, mObj q)), ((q 7), .inl ((k 7), 2, .inl (upd (fun _ => 0) 0 4))), ((q 13), .inl ((k 13), 14, .inl f17_11))] := hD
  refine lv_iinc (v := 11) (lv' := [(5, .int 11), (0, .ref (q 0)), (1, .int p1), (2, .int p2), (3, .int p3), (4, .int p4)]) hx hb dX12_sees_18 hl (k := 0) rfl (by decide) (by decide) rfl (fun ls hl => ?_)
  refine lv_goto (tgt := 3) hx hb dX12_sees_21 (by decide) ?_
  refine lv_iload hx hb dX12_sees_3 (lv_at hl 0 rfl) ?_
  refine lv_bipush (v := 14) hx hb dX12_sees_5 (by decide) ?_
  refine lv_icmp_ge (tgt := 24) hx hb dX12_sees_7 (by decide) (fun h => absurd h (by decide)) (fun _ => ?_)
  refine lv_aload_n hx hb dX12_sees_10 rfl (lv_at hl 1 rfl) ?_
  refine va_get (D := D) (ci := 12) (v := .ref (q 13)) (C := RX12) (T := TX12) (N := 95) hx hb hts inX12 hown hK hP 0 rfl rfl 42 (by decide) (hts _ kw_1556) (fun _ h9 => h9) rfl dX12_sees_11 ?_
  refine lv_iload hx hb dX12_sees_14 (lv_at hl 0 rfl) ?_
  refine lv_iconst (v := 0) hx hb dX12_sees_16 (by decide) ?_
  refine W.eq (g2 := F0 m 17 ls [.int 0, .int 11, .ref (q 13)]) rfl ?_
  refine va_iast hx hb hK hP hD hS 2 1 rfl rfl (z_in (by decide)) dX12_sees_17 (fun H locs hP hD hS => ?_)
  obtain ⟨f17_12, hf17_12⟩ : ∃ z, z = upd f17_11 ((11 : Int32).toNatClampNeg) 0 := ⟨_, rfl⟩
  rw [← hf17_12] at hP hD
  have hP : va_P D vwCl [((q 0), .inr (12, mObj q)), ((q 7), .inl ((k 7), 2, .inl (upd (fun _ => 0) 0 4))), ((q 13), .inl ((k 13), 14, .inl f17_12))] H := hP
  have hD : va_D A [((q 0), .inr (12, mObj q)), ((q 7), .inl ((k 7), 2, .inl (upd (fun _ => 0) 0 4))), ((q 13), .inl ((k 13), 14, .inl f17_12))] := hD
  refine lv_iinc (v := 12) (lv' := [(5, .int 12), (0, .ref (q 0)), (1, .int p1), (2, .int p2), (3, .int p3), (4, .int p4)]) hx hb dX12_sees_18 hl (k := 0) rfl (by decide) (by decide) rfl (fun ls hl => ?_)
  refine lv_goto (tgt := 3) hx hb dX12_sees_21 (by decide) ?_
  refine lv_iload hx hb dX12_sees_3 (lv_at hl 0 rfl) ?_
  refine lv_bipush (v := 14) hx hb dX12_sees_5 (by decide) ?_
  refine lv_icmp_ge (tgt := 24) hx hb dX12_sees_7 (by decide) (fun h => absurd h (by decide)) (fun _ => ?_)
  refine lv_aload_n hx hb dX12_sees_10 rfl (lv_at hl 1 rfl) ?_
  refine va_get (D := D) (ci := 12) (v := .ref (q 13)) (C := RX12) (T := TX12) (N := 95) hx hb hts inX12 hown hK hP 0 rfl rfl 42 (by decide) (hts _ kw_1556) (fun _ h9 => h9) rfl dX12_sees_11 ?_
  refine lv_iload hx hb dX12_sees_14 (lv_at hl 0 rfl) ?_
  refine lv_iconst (v := 0) hx hb dX12_sees_16 (by decide) ?_
  refine W.eq (g2 := F0 m 17 ls [.int 0, .int 12, .ref (q 13)]) rfl ?_
  refine va_iast hx hb hK hP hD hS 2 1 rfl rfl (z_in (by decide)) dX12_sees_17 (fun H locs hP hD hS => ?_)
  obtain ⟨f17_13, hf17_13⟩ : ∃ z, z = upd f17_12 ((12 : Int32).toNatClampNeg) 0 := ⟨_, rfl⟩
  rw [← hf17_13] at hP hD
  have hP : va_P D vwCl [((q 0), .inr (12, mObj q)), ((q 7), .inl ((k 7), 2, .inl (upd (fun _ => 0) 0 4))), ((q 13), .inl ((k 13), 14, .inl f17_13))] H := hP
  have hD : va_D A [((q 0), .inr (12, mObj q)), ((q 7), .inl ((k 7), 2, .inl (upd (fun _ => 0) 0 4))), ((q 13), .inl ((k 13), 14, .inl f17_13))] := hD
  refine lv_iinc (v := 13) (lv' := [(5, .int 13), (0, .ref (q 0)), (1, .int p1), (2, .int p2), (3, .int p3), (4, .int p4)]) hx hb dX12_sees_18 hl (k := 0) rfl (by decide) (by decide) rfl (fun ls hl => ?_)
  refine lv_goto (tgt := 3) hx hb dX12_sees_21 (by decide) ?_
  refine lv_iload hx hb dX12_sees_3 (lv_at hl 0 rfl) ?_
  refine lv_bipush (v := 14) hx hb dX12_sees_5 (by decide) ?_
  refine lv_icmp_ge (tgt := 24) hx hb dX12_sees_7 (by decide) (fun h => absurd h (by decide)) (fun _ => ?_)
  refine lv_aload_n hx hb dX12_sees_10 rfl (lv_at hl 1 rfl) ?_
  refine va_get (D := D) (ci := 12) (v := .ref (q 13)) (C := RX12) (T := TX12) (N := 95) hx hb hts inX12 hown hK hP 0 rfl rfl 42 (by decide) (hts _ kw_1556) (fun _ h9 => h9) rfl dX12_sees_11 ?_
  refine lv_iload hx hb dX12_sees_14 (lv_at hl 0 rfl) ?_
  refine lv_iconst (v := 0) hx hb dX12_sees_16 (by decide) ?_
  refine W.eq (g2 := F0 m 17 ls [.int 0, .int 13, .ref (q 13)]) rfl ?_
  refine va_iast hx hb hK hP hD hS 2 1 rfl rfl (z_in (by decide)) dX12_sees_17 (fun H locs hP hD hS => ?_)
  obtain ⟨f17_14, hf17_14⟩ : ∃ z, z = upd f17_13 ((13 : Int32).toNatClampNeg) 0 := ⟨_, rfl⟩
  rw [← hf17_14] at hP hD
  have hP : va_P D vwCl [((q 0), .inr (12, mObj q)), ((q 7), .inl ((k 7), 2, .inl (upd (fun _ => 0) 0 4))), ((q 13), .inl ((k 13), 14, .inl f17_14))] H := hP
  have hD : va_D A [((q 0), .inr (12, mObj q)), ((q 7), .inl ((k 7), 2, .inl (upd (fun _ => 0) 0 4))), ((q 13), .inl ((k 13), 14, .inl f17_14))] := hD
  refine lv_iinc (v := 14) (lv' := [(5, .int 14), (0, .ref (q 0)), (1, .int p1), (2, .int p2), (3, .int p3), (4, .int p4)]) hx hb dX12_sees_18 hl (k := 0) rfl (by decide) (by decide) rfl (fun ls hl => ?_)
  refine lv_goto (tgt := 3) hx hb dX12_sees_21 (by decide) ?_
  refine lv_iload hx hb dX12_sees_3 (lv_at hl 0 rfl) ?_
  refine lv_bipush (v := 14) hx hb dX12_sees_5 (by decide) ?_
  refine lv_icmp_ge (tgt := 24) hx hb dX12_sees_7 (by decide) (fun _ => ?_) (fun h => absurd (by decide) h)
  refine lv_aload_n hx hb dX12_sees_24 rfl (lv_at hl 1 rfl) ?_
  refine va_get (D := D) (ci := 12) (v := .ref (q 13)) (C := RX12) (T := TX12) (N := 95) hx hb hts inX12 hown hK hP 0 rfl rfl 42 (by decide) (hts _ kw_1556) (fun _ h9 => h9) rfl dX12_sees_25 ?_
  refine lv_iconst (v := 0) hx hb dX12_sees_28 (by decide) ?_
  refine lv_aload_n hx hb dX12_sees_29 rfl (lv_at hl 1 rfl) ?_
  refine W.eq (g2 := F0 m 30 ls [.ref (q 0), .int 0, .ref (q 13)]) rfl ?_
  refine lv_iload_n hx hb dX12_sees_30 rfl (lv_at hl 2 rfl) ?_
  refine rd_V (As := [.int p1]) (rest := [.int 0, .ref (q 13)]) (d := 0) caV_SignalTableModel_383 hx hb hml hown hts (hP.sub [0, 1] rfl) (hK.sub [0] rfl) (wX12_suitOf q k g gl p1) (ci := 12) (q0 := 0) rfl rfl (by decide) rfl hl.1 (Nat.le_of_ble_eq_true rfl) (by decide) dX12_sees_31 rfl ?_
  refine va_iast hx hb hK hP hD hS 2 1 rfl rfl (z_in (by decide)) dX12_sees_34 (fun H locs hP hD hS => ?_)
  obtain ⟨f34_15, hf34_15⟩ : ∃ z, z = upd f17_14 ((0 : Int32).toNatClampNeg) (p1 / 4) := ⟨_, rfl⟩
  rw [← hf34_15] at hP hD
  have hP : va_P D vwCl [((q 0), .inr (12, mObj q)), ((q 7), .inl ((k 7), 2, .inl (upd (fun _ => 0) 0 4))), ((q 13), .inl ((k 13), 14, .inl f34_15))] H := hP
  have hD : va_D A [((q 0), .inr (12, mObj q)), ((q 7), .inl ((k 7), 2, .inl (upd (fun _ => 0) 0 4))), ((q 13), .inl ((k 13), 14, .inl f34_15))] := hD
  refine lv_aload_n hx hb dX12_sees_35 rfl (lv_at hl 1 rfl) ?_
  refine va_get (D := D) (ci := 12) (v := .ref (q 13)) (C := RX12) (T := TX12) (N := 95) hx hb hts inX12 hown hK hP 0 rfl rfl 42 (by decide) (hts _ kw_1556) (fun _ h9 => h9) rfl dX12_sees_36 ?_
  refine lv_iconst (v := 1) hx hb dX12_sees_39 (by decide) ?_
  refine lv_aload_n hx hb dX12_sees_40 rfl (lv_at hl 1 rfl) ?_
  refine lv_iload_n hx hb dX12_sees_41 rfl (lv_at hl 2 rfl) ?_
  refine rd_V (As := [.int p1]) (rest := [.int 1, .ref (q 13)]) (d := 0) caV_SignalTableModel_417 hx hb hml hown hts (hP.sub [0, 1] rfl) (hK.sub [0] rfl) (wX12_rankOf q k g gl p1) (ci := 12) (q0 := 0) rfl rfl (by decide) rfl hl.1 (Nat.le_of_ble_eq_true rfl) (by decide) dX12_sees_42 rfl ?_
  refine va_iast hx hb hK hP hD hS 2 1 rfl rfl (z_in (by decide)) dX12_sees_45 (fun H locs hP hD hS => ?_)
  obtain ⟨f45_16, hf45_16⟩ : ∃ z, z = upd f34_15 ((1 : Int32).toNatClampNeg) (p1 - p1 / 4 * 4) := ⟨_, rfl⟩
  rw [← hf45_16] at hP hD
  have hP : va_P D vwCl [((q 0), .inr (12, mObj q)), ((q 7), .inl ((k 7), 2, .inl (upd (fun _ => 0) 0 4))), ((q 13), .inl ((k 13), 14, .inl f45_16))] H := hP
  have hD : va_D A [((q 0), .inr (12, mObj q)), ((q 7), .inl ((k 7), 2, .inl (upd (fun _ => 0) 0 4))), ((q 13), .inl ((k 13), 14, .inl f45_16))] := hD
  refine W.eq (g2 := F0 m 46 ls []) rfl ?_
  refine lv_aload_n hx hb dX12_sees_46 rfl (lv_at hl 1 rfl) ?_
  refine va_get (D := D) (ci := 12) (v := .ref (q 13)) (C := RX12) (T := TX12) (N := 95) hx hb hts inX12 hown hK hP 0 rfl rfl 42 (by decide) (hts _ kw_1556) (fun _ h9 => h9) rfl dX12_sees_47 ?_
  refine lv_iconst (v := 2) hx hb dX12_sees_50 (by decide) ?_
  refine lv_iload_n hx hb dX12_sees_51 rfl (lv_at hl 3 rfl) ?_
  refine va_iast hx hb hK hP hD hS 2 1 rfl rfl (z_in (by decide)) dX12_sees_52 (fun H locs hP hD hS => ?_)
  obtain ⟨f52_17, hf52_17⟩ : ∃ z, z = upd f45_16 ((2 : Int32).toNatClampNeg) p2 := ⟨_, rfl⟩
  rw [← hf52_17] at hP hD
  have hP : va_P D vwCl [((q 0), .inr (12, mObj q)), ((q 7), .inl ((k 7), 2, .inl (upd (fun _ => 0) 0 4))), ((q 13), .inl ((k 13), 14, .inl f52_17))] H := hP
  have hD : va_D A [((q 0), .inr (12, mObj q)), ((q 7), .inl ((k 7), 2, .inl (upd (fun _ => 0) 0 4))), ((q 13), .inl ((k 13), 14, .inl f52_17))] := hD
  refine lv_aload_n hx hb dX12_sees_53 rfl (lv_at hl 1 rfl) ?_
  refine va_get (D := D) (ci := 12) (v := .ref (q 13)) (C := RX12) (T := TX12) (N := 95) hx hb hts inX12 hown hK hP 0 rfl rfl 42 (by decide) (hts _ kw_1556) (fun _ h9 => h9) rfl dX12_sees_54 ?_
  refine lv_iconst (v := 3) hx hb dX12_sees_57 (by decide) ?_
  refine lv_iload_n hx hb dX12_sees_58 rfl (lv_at hl 4 rfl) ?_
  refine va_iast hx hb hK hP hD hS 2 1 rfl rfl (z_in (by decide)) dX12_sees_59 (fun H locs hP hD hS => ?_)
  obtain ⟨f59_18, hf59_18⟩ : ∃ z, z = upd f52_17 ((3 : Int32).toNatClampNeg) p3 := ⟨_, rfl⟩
  rw [← hf59_18] at hP hD
  have hP : va_P D vwCl [((q 0), .inr (12, mObj q)), ((q 7), .inl ((k 7), 2, .inl (upd (fun _ => 0) 0 4))), ((q 13), .inl ((k 13), 14, .inl f59_18))] H := hP
  have hD : va_D A [((q 0), .inr (12, mObj q)), ((q 7), .inl ((k 7), 2, .inl (upd (fun _ => 0) 0 4))), ((q 13), .inl ((k 13), 14, .inl f59_18))] := hD
  refine W.eq (g2 := F0 m 60 ls []) rfl ?_
  refine lv_aload_n hx hb dX12_sees_60 rfl (lv_at hl 1 rfl) ?_
  refine va_get (D := D) (ci := 12) (v := .ref (q 13)) (C := RX12) (T := TX12) (N := 95) hx hb hts inX12 hown hK hP 0 rfl rfl 42 (by decide) (hts _ kw_1556) (fun _ h9 => h9) rfl dX12_sees_61 ?_
  refine lv_iconst (v := 4) hx hb dX12_sees_64 (by decide) ?_
  refine lv_iload hx hb dX12_sees_65 (lv_at hl 5 rfl) ?_
  refine va_iast hx hb hK hP hD hS 2 1 rfl rfl (z_in (by decide)) dX12_sees_67 (fun H locs hP hD hS => ?_)
  obtain ⟨f67_19, hf67_19⟩ : ∃ z, z = upd f59_18 ((4 : Int32).toNatClampNeg) p4 := ⟨_, rfl⟩
  rw [← hf67_19] at hP hD
  have hP : va_P D vwCl [((q 0), .inr (12, mObj q)), ((q 7), .inl ((k 7), 2, .inl (upd (fun _ => 0) 0 4))), ((q 13), .inl ((k 13), 14, .inl f67_19))] H := hP
  have hD : va_D A [((q 0), .inr (12, mObj q)), ((q 7), .inl ((k 7), 2, .inl (upd (fun _ => 0) 0 4))), ((q 13), .inl ((k 13), 14, .inl f67_19))] := hD
  exact wr_v (q := (fun _ => 0)) (k := (fun _ => 0)) (g := (fun i => match i with | 13 => f67_19 | _ => fun _ => 0)) (gl := (fun _ => fun _ => 0)) hx hb hr hlocks hS (hP.sub [0, 1, 2] rfl) (hK.sub [0, 1] rfl) (hD.sub [0, 1, 2] (by decide) rfl) dX12_sees_68
set_option maxHeartbeats 4000000 in
set_option maxRecDepth 100000 in
theorem wX12_counts {l : Launch} {D : va_G} {sz : Nat} (q : Nat → Nat) (k : Nat → ClassId) (g : Nat → Nat → Int32) (gl : Nat → Nat → Int64) (f13 : Nat → Int32) (p4 : Int32) (p5 : Int32) : Wi l yX12_counts cX12_counts 7 (some .boolean) 2 0 0 D [((q 0), .inr (12, mObj q)), ((q 7), .inl ((k 7), 2, .inl (upd (fun _ => 0) 0 4))), ((q 9), .inl ((k 9), 2, .inl (fun _ => 0))), ((q 13), .inl ((k 13), 14, .inl f13))] [((k 7), .int), ((k 9), .int), ((k 13), .int)] [.ref (q 0), .int 3, .int 0, .int 0, .int p4, .int p5] sz (fun _ => True) 1 (fun qz kz gz lz => [((q 0), .inr (12, mObj q)), ((q 7), .inl ((k 7), 2, .inl (upd (fun _ => 0) 0 4))), ((q 9), .inl ((k 9), 2, .inl (fun _ => 0))), ((q 13), .inl ((k 13), 14, .inl (gz 13)))]) (fun kz => [((k 7), .int), ((k 9), .int), ((k 13), .int)]) := by
  refine Wi.of (by decide) (Nat.le_of_ble_eq_true rfl) ?_
  intro p e s m below meth c ls A hx hb hr hml hown hts hlocks hin hP hK hD hA hS hE hAe hl
  have hown : s.vm.findClass "SignalTableModel" = some m.cls := hown
  have hin : meth.name = "counts" := hin
  skip
  have hl : lv_has ls 7 [(0, .ref (q 0)), (1, .int 3), (2, .int 0), (3, .int 0), (4, .int p4), (5, .int p5)] := hl
  refine lv_aload_n hx hb dX12_counts_0 rfl (lv_at hl 0 rfl) ?_
  refine lv_iload hx hb dX12_counts_1 (lv_at hl 4 rfl) ?_
  refine lv_iconst (v := (-1)) hx hb dX12_counts_3 (by decide) ?_
  refine lv_iconst (v := 0) hx hb dX12_counts_4 (by decide) ?_
  refine lv_iconst (v := (-1)) hx hb dX12_counts_5 (by decide) ?_
  refine wr_V (As := [.int p4, .int (-1), .int 0, .int (-1)]) (rest := []) caV_SignalTableModel_435 hx hb hml hown hts hP hD hK hS hA (isC := [0, 1, 3]) (isR := [2]) (isT := [0, 2]) (wr := [((q 9), .inl ((k 9), 2, .inl (fun _ => 0)))]) ⟨rfl, rfl, rfl, rfl, by decide⟩ rfl (wX12_sees q k g gl f13 p4 (-1) 0 (-1)) bl_T (fun _ _ _ => trivial) (ci := 12) (q0 := 0) rfl rfl (by decide) rfl hl.1 (Nat.le_of_ble_eq_true rfl) (by decide) dX12_counts_6 rfl (fun q1 k1 g1 l1 H locs hP hD hK hS => ?_)
  have hP : va_P D vwCl [((q 9), .inl ((k 9), 2, .inl (fun _ => 0))), ((q 0), .inr (12, mObj q)), ((q 7), .inl ((k 7), 2, .inl (upd (fun _ => 0) 0 4))), ((q 13), .inl ((k 13), 14, .inl (g1 13)))] H := hP
  have hD : va_D A [((q 9), .inl ((k 9), 2, .inl (fun _ => 0))), ((q 0), .inr (12, mObj q)), ((q 7), .inl ((k 7), 2, .inl (upd (fun _ => 0) 0 4))), ((q 13), .inl ((k 13), 14, .inl (g1 13)))] := hD
  have hK : va_K D vwCl [((k 7), .int), ((k 9), .int), ((k 13), .int), ((k 7), .int), ((k 13), .int)] s := hK
  refine W.cs (cells' := 0) (slots' := 0) rfl rfl ?_
  have hK : va_K D vwCl [((k 7), .int), ((k 9), .int), ((k 13), .int)] s := hK.sub [0, 1, 2] rfl
  refine lv_iload_n hx hb dX12_counts_9 rfl (lv_at hl 1 rfl) ?_
  refine lv_iconst (v := 3) hx hb dX12_counts_10 (by decide) ?_
  refine lv_icmp_ne (tgt := 59) hx hb dX12_counts_11 (by decide) (fun h => absurd (by decide) h) (fun _ => ?_)
  refine W.eq (g2 := F0 m 14 ls []) rfl ?_
  refine lv_iconst (v := 0) hx hb dX12_counts_14 (by decide) ?_
  refine lv_istore (lv' := [(6, .int 0), (0, .ref (q 0)), (1, .int 3), (2, .int 0), (3, .int 0), (4, .int p4), (5, .int p5)]) hx hb dX12_counts_15 hl (by decide) rfl (fun ls hl => ?_)
  refine lv_iload hx hb dX12_counts_17 (lv_at hl 0 rfl) ?_
  refine lv_aload_n hx hb dX12_counts_19 rfl (lv_at hl 1 rfl) ?_
  refine va_get (D := D) (ci := 12) (v := .ref (q 9)) (C := RX12) (T := TX12) (N := 95) hx hb hts inX12 hown hK hP 1 rfl rfl 25 (by decide) (hts _ kw_1539) (fun _ h9 => h9) rfl dX12_counts_20 ?_
  refine lv_aload_n hx hb dX12_counts_23 rfl (lv_at hl 1 rfl) ?_
  refine va_get (D := D) (ci := 12) (v := .int 0) (C := RX12) (T := TX12) (N := 95) hx hb hts inX12 hown hK hP 1 rfl rfl 18 (by decide) (hts _ kw_1532) (fun _ h9 => h9) rfl dX12_counts_24 ?_
  refine va_iald hx hb hK hP 0 1 rfl rfl (z_in (by decide)) dX12_counts_27 ?_
  refine z_i (v := 0) (by rfl) ?_
  refine lv_icmp_ge (tgt := 57) hx hb dX12_counts_28 (by decide) (fun _ => ?_) (fun h => absurd (by decide) h)
  refine lv_iconst (v := 1) hx hb dX12_counts_57 (by decide) ?_
  refine W.eq (g2 := F0 m 58 ls [.int 1]) rfl ?_
  exact wr_z (q := (fun _ => 0)) (k := (fun _ => 0)) (g := (fun i => match i with | 13 => (g1 13) | _ => fun _ => 0)) (gl := (fun _ => fun _ => 0)) hx hb hr hlocks rfl (rfl) hS (hP.sub [1, 2, 0, 3] rfl) (hK.sub [0, 1, 2] rfl) (hD.sub [1, 2, 0, 3] (by decide) rfl) dX12_counts_58
set_option maxHeartbeats 4000000 in
set_option maxRecDepth 100000 in
theorem wX12_countOpenings {l : Launch} {D : va_G} {sz : Nat} (q : Nat → Nat) (k : Nat → ClassId) (g : Nat → Nat → Int32) (gl : Nat → Nat → Int64) : Wi l yX12_countOpenings cX12_countOpenings 7 (some .int) 3 0 0 D [((q 0), .inr (12, mObj q)), ((q 6), .inl ((k 6), 2, .inl (upd (fun _ => 0) 0 4))), ((q 7), .inl ((k 7), 2, .inl (upd (fun _ => 0) 0 4))), ((q 9), .inl ((k 9), 2, .inl (fun _ => 0))), ((q 13), .inl ((k 13), 14, .inl (g 13)))] [((k 6), .int), ((k 7), .int), ((k 9), .int), ((k 13), .int)] [.ref (q 0), .int 3, .int 0, .int 0] sz (fun _ => True) 7280 (fun qz kz gz lz => []) (fun kz => []) := by
  refine Wi.of (by decide) (Nat.le_of_ble_eq_true rfl) ?_
  intro p e s m below meth c ls A hx hb hr hml hown hts hlocks hin hP hK hD hA hS hE hAe hl
  have hown : s.vm.findClass "SignalTableModel" = some m.cls := hown
  have hin : meth.name = "countOpenings" := hin
  skip
  have hl : lv_has ls 7 [(0, .ref (q 0)), (1, .int 3), (2, .int 0), (3, .int 0)] := hl
  generalize hQ : MQ below _ _ _ _ _ _ = Q0
  refine lv_iconst (v := 0) hx hb dX12_countOpenings_0 (by decide) ?_
  refine lv_istore (lv' := [(4, .int 0), (0, .ref (q 0)), (1, .int 3), (2, .int 0), (3, .int 0)]) hx hb dX12_countOpenings_1 hl (by decide) rfl (fun ls hl => ?_)
  refine lv_iconst (v := 0) hx hb dX12_countOpenings_3 (by decide) ?_
  refine lv_istore (lv' := [(5, .int 0), (4, .int 0), (0, .ref (q 0)), (1, .int 3), (2, .int 0), (3, .int 0)]) hx hb dX12_countOpenings_4 hl (by decide) rfl (fun ls hl => ?_)
  have outer : ∀ (k1 hd : Nat) (fv : Nat → Int32) (H : Heap) (locs : List Loc) (ls : Array Slot), hd + k1 = 65536 → va_P D vwCl [((q 0), .inr (12, mObj q)), ((q 6), .inl ((k 6), 2, .inl (upd (fun _ => 0) 0 4))), ((q 7), .inl ((k 7), 2, .inl (upd (fun _ => 0) 0 4))), ((q 9), .inl ((k 9), 2, .inl (fun _ => 0))), ((q 13), .inl ((k 13), 14, .inl fv))] H → va_D A [((q 0), .inr (12, mObj q)), ((q 6), .inl ((k 6), 2, .inl (upd (fun _ => 0) 0 4))), ((q 7), .inl ((k 7), 2, .inl (upd (fun _ => 0) 0 4))), ((q 9), .inl ((k 9), 2, .inl (fun _ => 0))), ((q 13), .inl ((k 13), 14, .inl fv))] → va_S A s.heap H locs → lv_has ls 7 [(5, .int (nI hd)), (4, .int (nI (cnt hd))), (3, .int 0), (2, .int 0), (1, .int 3), (0, .ref (q 0))] → W p l e (rmU 3 0 0) s m [Value.ref (q 0), Value.int 3, Value.int 0, Value.int 0].toArray below meth c H locs 0 0 Q0 (F0 m 6 ls []) := by
    intro k1
    induction k1 with
    | zero =>
      intro hd fv H locs ls hi hP hD hS hl
      obtain rfl : hd = 65536 := by omega
      refine lv_iload hx hb dX12_countOpenings_6 (lv_at hl 0 rfl) ?_
      refine lv_iconst (v := 1) hx hb dX12_countOpenings_8 (by decide) ?_
      refine lv_aload_n hx hb dX12_countOpenings_9 rfl (lv_at hl 5 rfl) ?_
      refine rd_V (As := []) (rest := [.int 1, .int (nI 65536)]) (d := 0) caV_SignalTableModel_351 hx hb hml hown hts (hP.sub [0, 1, 2] rfl) (hK.sub [0, 1] rfl) (wX12_cards q k g gl) (ci := 12) (q0 := 0) rfl rfl (by decide) rfl hl.1 (Nat.le_of_ble_eq_true rfl) (by decide) dX12_countOpenings_10 rfl ?_
      refine lv_ishl hx hb dX12_countOpenings_13 ?_
      refine z_i (v := 65536) (by decide) ?_
      refine W.eq (g2 := F0 m 14 ls [.int 65536, .int (nI 65536)]) rfl ?_
      refine lv_icmp_ge (tgt := 84) hx hb dX12_countOpenings_14 (by decide) (fun _ => ?_) (fun h => absurd (nI_le (a := 65536) (b := 65536) (Nat.le_refl 65536) (by decide)) h)
      refine lv_iload hx hb dX12_countOpenings_84 (lv_at hl 1 rfl) ?_
      rw [← hQ]
      exact wr_i (q := (fun _ => 0)) (k := (fun _ => 0)) (g := (fun _ => fun _ => 0)) (gl := (fun _ => fun _ => 0)) hx hb hr hlocks (by rw [cnt_all]; rfl) hS (hP.sub [] rfl) (hK.sub [] rfl) (hD.sub [] (by decide) rfl) dX12_countOpenings_86
    | succ k1 ih =>
      intro hd fv H locs ls hi hP hD hS hl
      have hh : hd < 65536 := by omega
      refine lv_iload hx hb dX12_countOpenings_6 (lv_at hl 0 rfl) ?_
      refine lv_iconst (v := 1) hx hb dX12_countOpenings_8 (by decide) ?_
      refine lv_aload_n hx hb dX12_countOpenings_9 rfl (lv_at hl 5 rfl) ?_
      refine rd_V (As := []) (rest := [.int 1, .int (nI hd)]) (d := 0) caV_SignalTableModel_351 hx hb hml hown hts (hP.sub [0, 1, 2] rfl) (hK.sub [0, 1] rfl) (wX12_cards q k g gl) (ci := 12) (q0 := 0) rfl rfl (by decide) rfl hl.1 (Nat.le_of_ble_eq_true rfl) (by decide) dX12_countOpenings_10 rfl ?_
      refine lv_ishl hx hb dX12_countOpenings_13 ?_
      refine z_i (v := 65536) (by decide) ?_
      refine lv_icmp_ge (tgt := 84) hx hb dX12_countOpenings_14 (by decide) (fun h => absurd h (nI_ge (a := hd) (b := 65536) (by omega) (by decide))) (fun _ => ?_)
      refine lv_iload hx hb dX12_countOpenings_17 (lv_at hl 0 rfl) ?_
      refine W.eq (g2 := F0 m 19 ls [.int (nI hd)]) rfl ?_
      refine re_S (As := [.int (nI hd)]) (rest := []) caS_SignalTableModel_371 hx hb hml hown hts (eM_bits (nI hd)) bl_T (fun _ _ _ => trivial) (by decide) rfl hl.1 (Nat.le_of_ble_eq_true rfl) (by decide) dX12_countOpenings_19 rfl ?_
      refine lv_aload_n hx hb dX12_countOpenings_22 rfl (lv_at hl 5 rfl) ?_
      refine rd_V (As := []) (rest := [.int (sbits (nI hd))]) (d := 1) caV_SignalTableModel_365 hx hb hml hown hts (hP.sub [0, 1, 2] rfl) (hK.sub [0, 1] rfl) (wX12_handSize q k g gl) (ci := 12) (q0 := 0) rfl rfl (by decide) rfl hl.1 (Nat.le_of_ble_eq_true rfl) (by decide) dX12_countOpenings_23 rfl ?_
      refine lv_icmp_eq (tgt := 32) hx hb dX12_countOpenings_26 (by decide) (fun c_1 => ?_) (fun c_1 => ?_)
      · skip
        rw [sbits_eq (by omega)] at c_1
        have hle := pcn_le hd 16
        have h4 : pcn hd 16 = 4 := (nI_eq (b := 4) (by omega) (by decide)).mp c_1
        refine lv_iconst (v := 0) hx hb dX12_countOpenings_32 (by decide) ?_
        refine lv_istore (lv' := [(6, .int 0), (5, .int (nI hd)), (4, .int (nI (cnt hd))), (3, .int 0), (2, .int 0), (1, .int 3), (0, .ref (q 0))]) hx hb dX12_countOpenings_33 hl (by decide) rfl (fun ls hl => ?_)
        have inner : ∀ (k2 j : Nat) (fw : Nat → Int32) (H : Heap) (locs : List Loc) (ls : Array Slot), j + k2 = 16 → va_P D vwCl [((q 0), .inr (12, mObj q)), ((q 6), .inl ((k 6), 2, .inl (upd (fun _ => 0) 0 4))), ((q 7), .inl ((k 7), 2, .inl (upd (fun _ => 0) 0 4))), ((q 9), .inl ((k 9), 2, .inl (fun _ => 0))), ((q 13), .inl ((k 13), 14, .inl fw))] H → va_D A [((q 0), .inr (12, mObj q)), ((q 6), .inl ((k 6), 2, .inl (upd (fun _ => 0) 0 4))), ((q 7), .inl ((k 7), 2, .inl (upd (fun _ => 0) 0 4))), ((q 9), .inl ((k 9), 2, .inl (fun _ => 0))), ((q 13), .inl ((k 13), 14, .inl fw))] → va_S A s.heap H locs → lv_has ls 7 [(6, .int (nI j)), (5, .int (nI hd)), (4, .int (nI (cnt hd + pcn hd j))), (3, .int 0), (2, .int 0), (1, .int 3), (0, .ref (q 0))] → W p l e (rmU 3 0 0) s m [Value.ref (q 0), Value.int 3, Value.int 0, Value.int 0].toArray below meth c H locs 0 0 Q0 (F0 m 35 ls []) := by
          intro k2
          induction k2 with
          | zero =>
            intro j fw H locs ls hj hP hD hS hl
            obtain rfl : j = 16 := by omega
            refine lv_iload hx hb dX12_countOpenings_35 (lv_at hl 0 rfl) ?_
            refine lv_aload_n hx hb dX12_countOpenings_37 rfl (lv_at hl 6 rfl) ?_
            refine rd_V (As := []) (rest := [.int (nI 16)]) (d := 0) caV_SignalTableModel_351 hx hb hml hown hts (hP.sub [0, 1, 2] rfl) (hK.sub [0, 1] rfl) (wX12_cards q k g gl) (ci := 12) (q0 := 0) rfl rfl (by decide) rfl hl.1 (Nat.le_of_ble_eq_true rfl) (by decide) dX12_countOpenings_38 rfl ?_
            refine lv_icmp_ge (tgt := 78) hx hb dX12_countOpenings_41 (by decide) (fun _ => ?_) (fun h => absurd (nI_le (a := 16) (b := 16) (Nat.le_refl 16) (by decide)) h)
            refine W.eq (g2 := F0 m 78 ls []) rfl ?_
            refine lv_iinc (v := (nI (hd + 1))) (lv' := [(5, .int (nI (hd + 1))), (6, .int (nI 16)), (4, .int (nI (cnt hd + pcn hd 16))), (3, .int 0), (2, .int 0), (1, .int 3), (0, .ref (q 0))]) hx hb dX12_countOpenings_78 hl (k := 1) rfl (by show (nI hd) + 1 = _; exact nI_1 _) (by decide) rfl (fun ls hl => ?_)
            refine lv_goto (tgt := 6) hx hb dX12_countOpenings_81 (by decide) ?_
            have e4 : (nI (cnt hd + pcn hd 16)) = nI (cnt (hd + 1)) := by
              show _ = nI (cnt hd + cf hd)
              unfold cf
              rw [if_pos h4, h4]
            rw [e4] at hl
            exact ih (hd + 1) _ _ _ _ (by omega) (hP.sub [0, 1, 2, 3, 4] rfl) (hD.sub [0, 1, 2, 3, 4] (by decide) rfl) hS (lv_sub hl [0, 2, 3, 4, 5, 6] rfl)
          | succ k2 ih2 =>
            intro j fw H locs ls hj hP hD hS hl
            have hbl := bt_le hd j
            refine lv_iload hx hb dX12_countOpenings_35 (lv_at hl 0 rfl) ?_
            refine lv_aload_n hx hb dX12_countOpenings_37 rfl (lv_at hl 6 rfl) ?_
            refine rd_V (As := []) (rest := [.int (nI j)]) (d := 0) caV_SignalTableModel_351 hx hb hml hown hts (hP.sub [0, 1, 2] rfl) (hK.sub [0, 1] rfl) (wX12_cards q k g gl) (ci := 12) (q0 := 0) rfl rfl (by decide) rfl hl.1 (Nat.le_of_ble_eq_true rfl) (by decide) dX12_countOpenings_38 rfl ?_
            refine lv_icmp_ge (tgt := 78) hx hb dX12_countOpenings_41 (by decide) (fun h => absurd h (nI_ge (a := j) (b := 16) (by omega) (by decide))) (fun _ => ?_)
            refine lv_iload hx hb dX12_countOpenings_44 (lv_at hl 1 rfl) ?_
            refine lv_iload hx hb dX12_countOpenings_46 (lv_at hl 0 rfl) ?_
            refine lv_ishr hx hb dX12_countOpenings_48 ?_
            refine lv_iconst (v := 1) hx hb dX12_countOpenings_49 (by decide) ?_
            refine W.eq (g2 := F0 m 50 ls [.int 1, .int ((nI hd) >>> ((nI j) &&& 31))]) rfl ?_
            refine lv_iand hx hb dX12_countOpenings_50 ?_
            refine lv_iconst (v := 1) hx hb dX12_countOpenings_51 (by decide) ?_
            refine lv_icmp_ne (tgt := 72) hx hb dX12_countOpenings_52 (by decide) (fun c_2 => ?_) (fun c_2 => ?_)
            · skip
              rw [sh_sym (by omega) (by omega)] at c_2
              have hb0 : bt hd j = 0 := by
                rcases (show bt hd j = 0 ∨ bt hd j = 1 by omega) with q9 | q9
                · exact q9
                · exact absurd (by rw [q9]; rfl) c_2
              refine lv_iinc (v := (nI (j + 1))) (lv' := [(6, .int (nI (j + 1))), (5, .int (nI hd)), (4, .int (nI (cnt hd + pcn hd j))), (3, .int 0), (2, .int 0), (1, .int 3), (0, .ref (q 0))]) hx hb dX12_countOpenings_72 hl (k := 0) rfl (by show (nI j) + 1 = _; exact nI_1 _) (by decide) rfl (fun ls hl => ?_)
              refine lv_goto (tgt := 35) hx hb dX12_countOpenings_75 (by decide) ?_
              have e4 : (nI (cnt hd + pcn hd j)) = nI (cnt hd + pcn hd (j + 1)) := by
                show _ = nI (cnt hd + (pcn hd j + bt hd j))
                rw [hb0, Nat.add_zero]
              have hl := lv_sub hl [0, 1, 2, 3, 4, 5, 6] rfl
              rw [e4] at hl
              exact ih2 (j + 1) _ _ _ _ (by omega) (hP.sub [0, 1, 2, 3, 4] rfl) (hD.sub [0, 1, 2, 3, 4] (by decide) rfl) hS hl
            · skip
              rw [sh_sym (by omega) (by omega)] at c_2
              have hb0 : bt hd j = 1 := (nI_eq (b := 1) (by omega) (by decide)).mp c_2
              refine lv_aload_n hx hb dX12_countOpenings_55 rfl (lv_at hl 6 rfl) ?_
              refine lv_iload_n hx hb dX12_countOpenings_56 rfl (lv_at hl 5 rfl) ?_
              refine lv_iload_n hx hb dX12_countOpenings_57 rfl (lv_at hl 4 rfl) ?_
              refine lv_iload_n hx hb dX12_countOpenings_58 rfl (lv_at hl 3 rfl) ?_
              refine lv_iload hx hb dX12_countOpenings_59 (lv_at hl 0 rfl) ?_
              refine W.eq (g2 := F0 m 61 ls [.int (nI j), .int 0, .int 0, .int 3, .ref (q 0)]) rfl ?_
              refine lv_iload hx hb dX12_countOpenings_61 (lv_at hl 1 rfl) ?_
              refine wr_Vi (As := [.int 3, .int 0, .int 0, .int (nI j), .int (nI hd)]) (rest := []) caV_SignalTableModel_636 hx hb hml hown hts hP hD hK hS hA (isC := [0, 2, 3, 4]) (isR := [1]) (isT := [1, 2, 3]) (wr := [((q 6), .inl ((k 6), 2, .inl (upd (fun _ => 0) 0 4)))]) ⟨rfl, rfl, rfl, rfl, by decide⟩ rfl (wX12_counts q k g gl fw (nI j) (nI hd)) bl_T (fun _ _ _ => trivial) (ci := 12) (q0 := 0) rfl rfl (by decide) rfl hl.1 (Nat.le_of_ble_eq_true rfl) (by decide) dX12_countOpenings_63 rfl (fun q1 k1 g1 l1 H locs hP hD hK hS => ?_)
              have hP : va_P D vwCl [((q 6), .inl ((k 6), 2, .inl (upd (fun _ => 0) 0 4))), ((q 0), .inr (12, mObj q)), ((q 7), .inl ((k 7), 2, .inl (upd (fun _ => 0) 0 4))), ((q 9), .inl ((k 9), 2, .inl (fun _ => 0))), ((q 13), .inl ((k 13), 14, .inl (g1 13)))] H := hP
              have hD : va_D A [((q 6), .inl ((k 6), 2, .inl (upd (fun _ => 0) 0 4))), ((q 0), .inr (12, mObj q)), ((q 7), .inl ((k 7), 2, .inl (upd (fun _ => 0) 0 4))), ((q 9), .inl ((k 9), 2, .inl (fun _ => 0))), ((q 13), .inl ((k 13), 14, .inl (g1 13)))] := hD
              have hK : va_K D vwCl [((k 6), .int), ((k 7), .int), ((k 9), .int), ((k 13), .int), ((k 7), .int), ((k 9), .int), ((k 13), .int)] s := hK
              refine W.cs (cells' := 0) (slots' := 0) rfl rfl ?_
              have hK : va_K D vwCl [((k 6), .int), ((k 7), .int), ((k 9), .int), ((k 13), .int)] s := hK.sub [0, 1, 2, 3] rfl
              refine lv_if_eq (tgt := 72) hx hb dX12_countOpenings_66 (by decide) (fun h => absurd h (by decide)) (fun _ => ?_)
              refine lv_iinc (v := (nI ((cnt hd + pcn hd j) + 1))) (lv' := [(4, .int (nI ((cnt hd + pcn hd j) + 1))), (6, .int (nI j)), (5, .int (nI hd)), (3, .int 0), (2, .int 0), (1, .int 3), (0, .ref (q 0))]) hx hb dX12_countOpenings_69 hl (k := 2) rfl (by show (nI (cnt hd + pcn hd j)) + 1 = _; exact nI_1 _) (by decide) rfl (fun ls hl => ?_)
              refine lv_iinc (v := (nI (j + 1))) (lv' := [(6, .int (nI (j + 1))), (4, .int (nI ((cnt hd + pcn hd j) + 1))), (5, .int (nI hd)), (3, .int 0), (2, .int 0), (1, .int 3), (0, .ref (q 0))]) hx hb dX12_countOpenings_72 hl (k := 1) rfl (by show (nI j) + 1 = _; exact nI_1 _) (by decide) rfl (fun ls hl => ?_)
              refine lv_goto (tgt := 35) hx hb dX12_countOpenings_75 (by decide) ?_
              have e4 : (nI ((cnt hd + pcn hd j) + 1)) = nI (cnt hd + pcn hd (j + 1)) := by
                show _ = nI (cnt hd + (pcn hd j + bt hd j))
                rw [hb0]
                rw [Nat.add_assoc]
              have hl := lv_sub hl [0, 2, 1, 3, 4, 5, 6] rfl
              rw [e4] at hl
              exact ih2 (j + 1) _ _ _ _ (by omega) (hP.sub [1, 0, 2, 3, 4] rfl) (hD.sub [1, 0, 2, 3, 4] (by decide) rfl) hS hl
        exact inner 16 0 fv _ _ _ (by omega) hP hD hS (by have hl := lv_sub hl [0, 1, 2, 3, 4, 5, 6] rfl; exact hl)
      · skip
        rw [sbits_eq (by omega)] at c_1
        have hle := pcn_le hd 16
        have h4 : ¬ pcn hd 16 = 4 := fun q9 => c_1 (by rw [q9]; rfl)
        refine lv_goto (tgt := 78) hx hb dX12_countOpenings_29 (by decide) ?_
        refine lv_iinc (v := (nI (hd + 1))) (lv' := [(5, .int (nI (hd + 1))), (4, .int (nI (cnt hd))), (3, .int 0), (2, .int 0), (1, .int 3), (0, .ref (q 0))]) hx hb dX12_countOpenings_78 hl (k := 0) rfl (by show (nI hd) + 1 = _; exact nI_1 _) (by decide) rfl (fun ls hl => ?_)
        refine lv_goto (tgt := 6) hx hb dX12_countOpenings_81 (by decide) ?_
        have e4 : (nI (cnt hd)) = nI (cnt (hd + 1)) := by
          show _ = nI (cnt hd + cf hd)
          unfold cf
          rw [if_neg h4, Nat.add_zero]
        rw [e4] at hl
        exact ih (hd + 1) _ _ _ _ (by omega) (hP.sub [0, 1, 2, 3, 4] rfl) (hD.sub [0, 1, 2, 3, 4] (by decide) rfl) hS (lv_sub hl [0, 1, 2, 3, 4, 5] rfl)
  exact outer 65536 0 (g 13) _ _ _ (by omega) hP hD hS (lv_sub hl [0, 1, 5, 4, 3, 2] rfl)
set_option maxHeartbeats 4000000 in
set_option maxRecDepth 100000 in
theorem wX12_gap {l : Launch} {D : va_G} {sz : Nat} (q : Nat → Nat) (k : Nat → ClassId) (g : Nat → Nat → Int32) (gl : Nat → Nat → Int64) : Wi l yX12_gap cX12_gap 1 (some .int) 4 0 0 D [((q 0), .inr (12, mObj q)), ((q 1), .inl ((k 1), 2000, .inl (g 1))), ((q 2), .inl ((k 2), 403, .inl (g 2))), ((q 3), .inl ((k 3), 403, .inl (g 3))), ((q 4), .inl ((k 4), 403, .inl (g 4))), ((q 5), .inl ((k 5), 403, .inr (.inl (gl 5)))), ((q 6), .inl ((k 6), 2, .inl (upd (fun _ => 0) 0 4))), ((q 7), .inl ((k 7), 2, .inl (upd (fun _ => 0) 0 4))), ((q 8), .inl ((k 8), 2, .inl (upd (fun _ => 0) 0 (-1)))), ((q 9), .inl ((k 9), 2, .inl (fun _ => 0))), ((q 10), .inl ((k 10), 4, .inl (g 10))), ((q 11), .inl ((k 11), 16, .inl (g 11))), ((q 12), .inl ((k 12), 2, .inl (fun _ => 0))), ((q 13), .inl ((k 13), 14, .inl (g 13)))] [((k 1), .byte), ((k 2), .int), ((k 3), .int), ((k 4), .int), ((k 5), .long), ((k 6), .int), ((k 7), .int), ((k 8), .int), ((k 9), .int), ((k 10), .int), ((k 11), .int), ((k 12), .boolean), ((k 13), .int)] [.ref (q 0)] sz (fun _ => True) 7280 (fun qz kz gz lz => []) (fun kz => []) := by
  refine Wi.of (by decide) (Nat.le_of_ble_eq_true rfl) ?_
  intro p e s m below meth c ls A hx hb hr hml hown hts hlocks hin hP hK hD hA hS hE hAe hl
  have hown : s.vm.findClass "SignalTableModel" = some m.cls := hown
  have hin : meth.name = "gap" := hin
  skip
  have hl : lv_has ls 1 [(0, .ref (q 0))] := hl
  have hP : va_P D vwCl [((q 0), .inr (12, mObj q)), ((q 6), .inl ((k 6), 2, .inl (upd (fun _ => 0) 0 4))), ((q 7), .inl ((k 7), 2, .inl (upd (fun _ => 0) 0 4))), ((q 9), .inl ((k 9), 2, .inl (fun _ => 0))), ((q 13), .inl ((k 13), 14, .inl (g 13)))] s.heap := hP.sub [0, 6, 7, 9, 13] rfl
  have hD : va_D A [((q 0), .inr (12, mObj q)), ((q 6), .inl ((k 6), 2, .inl (upd (fun _ => 0) 0 4))), ((q 7), .inl ((k 7), 2, .inl (upd (fun _ => 0) 0 4))), ((q 9), .inl ((k 9), 2, .inl (fun _ => 0))), ((q 13), .inl ((k 13), 14, .inl (g 13)))] := hD.sub [0, 6, 7, 9, 13] (by decide) rfl
  have hK : va_K D vwCl [((k 6), .int), ((k 7), .int), ((k 9), .int), ((k 13), .int)] s := hK.sub [5, 6, 8, 12] rfl
  refine lv_aload_n hx hb dX12_gap_0 rfl (lv_at hl 0 rfl) ?_
  refine lv_iconst (v := 3) hx hb dX12_gap_1 (by decide) ?_
  refine lv_iconst (v := 0) hx hb dX12_gap_2 (by decide) ?_
  refine lv_iconst (v := 0) hx hb dX12_gap_3 (by decide) ?_
  refine wr_Vi (As := [.int 3, .int 0, .int 0]) (rest := []) caV_SignalTableModel_640 hx hb hml hown hts hP hD hK hS hA (isC := [0, 1, 2, 3, 4]) (isR := []) (isT := [0, 1, 2, 3]) (wr := []) ⟨rfl, rfl, rfl, rfl, by decide⟩ rfl (wX12_countOpenings q k g gl) bl_T (fun _ _ _ => trivial) (ci := 12) (q0 := 0) rfl rfl (by decide) rfl hl.1 (Nat.le_of_ble_eq_true rfl) (by decide) dX12_gap_4 rfl (fun q1 k1 g1 l1 H locs hP hD hK hS => ?_)
  have hP : va_P D vwCl [] H := hP
  have hD : va_D A [] := hD
  have hK : va_K D vwCl [((k 6), .int), ((k 7), .int), ((k 9), .int), ((k 13), .int)] s := hK
  refine W.cs (cells' := 0) (slots' := 0) rfl rfl ?_
  have hK : va_K D vwCl [] s := hK.sub [] rfl
  exact wr_i (q := (fun _ => 0)) (k := (fun _ => 0)) (g := (fun _ => fun _ => 0)) (gl := (fun _ => fun _ => 0)) hx hb hr hlocks (rfl) hS (hP.sub [] rfl) (hK.sub [] rfl) (hD.sub [] (by decide) rfl) dX12_gap_7
