/-! names -/
abbrev cJ7_fill_53178 : ByteArray := prog_20_method_103_code
def yJ7_fill_53178 : MethodName := ⟨"java/util/Arrays", "fill", "([II)V"⟩
abbrev cX0_clear : ByteArray := prog_2_method_2_code
def yX0_clear : MethodName := ⟨RX0, "clear", "()V"⟩
abbrev cX10_forget : ByteArray := prog_12_method_2_code
def yX10_forget : MethodName := ⟨RX10, "forget", "()V"⟩
abbrev cX11_read : ByteArray := prog_1_method_5_code
def yX11_read : MethodName := ⟨RX11, "read", "()I"⟩
abbrev cX11_startAnew : ByteArray := prog_1_method_6_code
def yX11_startAnew : MethodName := ⟨RX11, "startAnew", "()V"⟩
abbrev cX2_forget : ByteArray := prog_4_method_2_code
def yX2_forget : MethodName := ⟨RX2, "forget", "()V"⟩
abbrev cX3_clear : ByteArray := prog_5_method_2_code
def yX3_clear : MethodName := ⟨RX3, "clear", "()V"⟩
abbrev cX6_forget : ByteArray := prog_8_method_2_code
def yX6_forget : MethodName := ⟨RX6, "forget", "()V"⟩
abbrev cX8_cut : ByteArray := prog_10_method_2_code
def yX8_cut : MethodName := ⟨RX8, "cut", "([BI)V"⟩
abbrev cX8_pass : ByteArray := prog_10_method_3_code
def yX8_pass : MethodName := ⟨RX8, "pass", "(Z)I"⟩
abbrev cX9_cut : ByteArray := prog_11_method_2_code
def yX9_cut : MethodName := ⟨RX9, "cut", "([BI)V"⟩
abbrev cX9_note : ByteArray := prog_11_method_5_code
def yX9_note : MethodName := ⟨RX9, "note", "(IJI)V"⟩
theorem kw_3 : Cond.selects "SignalTable$Tokens" yX9_note yX9_note ∈ lwg := wu_mem (i := 3) (by decide +kernel) rfl
theorem kw_20 : Cond.selects "SignalTable" yX11_startAnew yX11_startAnew ∈ lwg := wu_mem (i := 20) (by decide +kernel) rfl
theorem kw_173 : Cond.initialized "java/util/Arrays" ∈ lwg := wu_mem (i := 173) (by decide +kernel) rfl
theorem kw_360 : Cond.fieldLink "SignalTable$Reader" 41 "SignalTable$Tokens" "type" "[I" ∈ lwg := wu_mem (i := 360) (by decide +kernel) rfl
theorem kw_366 : Cond.fieldLink "SignalTable$Tokens" 39 "SignalTable$Tokens" "size" "I" ∈ lwg := wu_mem (i := 366) (by decide +kernel) rfl
theorem kw_382 : Cond.fieldLink "SignalTable$Reader" 34 "SignalTable$Reader" "writing" "Z" ∈ lwg := wu_mem (i := 382) (by decide +kernel) rfl
theorem kw_383 : Cond.fieldLink "SignalTable$Reader" 38 "SignalTable$Reader" "at" "I" ∈ lwg := wu_mem (i := 383) (by decide +kernel) rfl
theorem kw_384 : Cond.fieldLink "SignalTable$Reader" 45 "SignalTable$Reader" "type" "I" ∈ lwg := wu_mem (i := 384) (by decide +kernel) rfl
theorem kw_385 : Cond.fieldLink "SignalTable$Reader" 47 "SignalTable$Reader" "customs" "I" ∈ lwg := wu_mem (i := 385) (by decide +kernel) rfl
theorem kw_386 : Cond.fieldLink "SignalTable$Reader" 50 "SignalTable$Reader" "fault" "I" ∈ lwg := wu_mem (i := 386) (by decide +kernel) rfl
theorem kw_389 : Cond.fieldLink "SignalTable$Reader" 53 "SignalTable$Reader" "laterFault" "I" ∈ lwg := wu_mem (i := 389) (by decide +kernel) rfl
theorem kw_474 : Cond.fieldLink "SignalTable$Game" 64 "SignalTable$Game" "stamp" "I" ∈ lwg := wu_mem (i := 474) (by decide +kernel) rfl
theorem kw_627 : Cond.fieldLink "SignalTable$Weigher" 23 "SignalTable$Weigher" "lastGame" "LSignalTable$Game;" ∈ lwg := wu_mem (i := 627) (by decide +kernel) rfl
theorem kw_669 : Cond.fieldLink "SignalTable$Books" 18 "SignalTable$Books" "size" "I" ∈ lwg := wu_mem (i := 669) (by decide +kernel) rfl
theorem kw_766 : Cond.methodLink "SignalTable" 112 yX8_cut ∈ lwg := wu_mem (i := 766) (by decide +kernel) rfl
theorem kw_767 : Cond.instanceMethod yX8_cut ∈ lwg := wu_mem (i := 767) (by decide +kernel) rfl
theorem kw_768 : Cond.selects "SignalTable$Reader" yX8_cut yX8_cut ∈ lwg := wu_mem (i := 768) (by decide +kernel) rfl
theorem kw_769 : Cond.code yX8_cut cX8_cut 3 none ∈ lwg := wu_mem (i := 769) (by decide +kernel) rfl
theorem kw_770 : Cond.methodLink "SignalTable$Reader" 30 yX9_cut ∈ lwg := wu_mem (i := 770) (by decide +kernel) rfl
theorem kw_771 : Cond.instanceMethod yX9_cut ∈ lwg := wu_mem (i := 771) (by decide +kernel) rfl
theorem kw_772 : Cond.selects "SignalTable$Tokens" yX9_cut yX9_cut ∈ lwg := wu_mem (i := 772) (by decide +kernel) rfl
theorem kw_773 : Cond.code yX9_cut cX9_cut 6 none ∈ lwg := wu_mem (i := 773) (by decide +kernel) rfl
theorem kw_781 : Cond.methodLink "SignalTable$Tokens" 60 yX9_note ∈ lwg := wu_mem (i := 781) (by decide +kernel) rfl
theorem kw_783 : Cond.instanceMethod yX9_note ∈ lwg := wu_mem (i := 783) (by decide +kernel) rfl
theorem kw_784 : Cond.code yX9_note cX9_note 5 none ∈ lwg := wu_mem (i := 784) (by decide +kernel) rfl
theorem kw_803 : Cond.methodLink "SignalTable" 116 yX8_pass ∈ lwg := wu_mem (i := 803) (by decide +kernel) rfl
theorem kw_804 : Cond.instanceMethod yX8_pass ∈ lwg := wu_mem (i := 804) (by decide +kernel) rfl
theorem kw_805 : Cond.selects "SignalTable$Reader" yX8_pass yX8_pass ∈ lwg := wu_mem (i := 805) (by decide +kernel) rfl
theorem kw_806 : Cond.code yX8_pass cX8_pass 3 (some .int) ∈ lwg := wu_mem (i := 806) (by decide +kernel) rfl
theorem kw_873 : Cond.methodLink "SignalTable" 120 yX11_startAnew ∈ lwg := wu_mem (i := 873) (by decide +kernel) rfl
theorem kw_875 : Cond.instanceMethod yX11_startAnew ∈ lwg := wu_mem (i := 875) (by decide +kernel) rfl
theorem kw_876 : Cond.code yX11_startAnew cX11_startAnew 2 none ∈ lwg := wu_mem (i := 876) (by decide +kernel) rfl
theorem kw_877 : Cond.methodLink "SignalTable" 123 yX3_clear ∈ lwg := wu_mem (i := 877) (by decide +kernel) rfl
theorem kw_878 : Cond.instanceMethod yX3_clear ∈ lwg := wu_mem (i := 878) (by decide +kernel) rfl
theorem kw_879 : Cond.selects "SignalTable$Game" yX3_clear yX3_clear ∈ lwg := wu_mem (i := 879) (by decide +kernel) rfl
theorem kw_880 : Cond.code yX3_clear cX3_clear 1 none ∈ lwg := wu_mem (i := 880) (by decide +kernel) rfl
theorem kw_881 : Cond.methodLink "SignalTable" 124 yX0_clear ∈ lwg := wu_mem (i := 881) (by decide +kernel) rfl
theorem kw_882 : Cond.instanceMethod yX0_clear ∈ lwg := wu_mem (i := 882) (by decide +kernel) rfl
theorem kw_883 : Cond.selects "SignalTable$Books" yX0_clear yX0_clear ∈ lwg := wu_mem (i := 883) (by decide +kernel) rfl
theorem kw_884 : Cond.code yX0_clear cX0_clear 1 none ∈ lwg := wu_mem (i := 884) (by decide +kernel) rfl
theorem kw_885 : Cond.methodLink "SignalTable" 125 yX6_forget ∈ lwg := wu_mem (i := 885) (by decide +kernel) rfl
theorem kw_886 : Cond.instanceMethod yX6_forget ∈ lwg := wu_mem (i := 886) (by decide +kernel) rfl
theorem kw_887 : Cond.selects "SignalTable$Open" yX6_forget yX6_forget ∈ lwg := wu_mem (i := 887) (by decide +kernel) rfl
theorem kw_888 : Cond.code yX6_forget cX6_forget 2 none ∈ lwg := wu_mem (i := 888) (by decide +kernel) rfl
theorem kw_889 : Cond.methodLink "SignalTable" 128 yX10_forget ∈ lwg := wu_mem (i := 889) (by decide +kernel) rfl
theorem kw_890 : Cond.instanceMethod yX10_forget ∈ lwg := wu_mem (i := 890) (by decide +kernel) rfl
theorem kw_891 : Cond.selects "SignalTable$Weigher" yX10_forget yX10_forget ∈ lwg := wu_mem (i := 891) (by decide +kernel) rfl
theorem kw_892 : Cond.code yX10_forget cX10_forget 1 none ∈ lwg := wu_mem (i := 892) (by decide +kernel) rfl
theorem kw_893 : Cond.methodLink "SignalTable" 129 yX2_forget ∈ lwg := wu_mem (i := 893) (by decide +kernel) rfl
theorem kw_894 : Cond.instanceMethod yX2_forget ∈ lwg := wu_mem (i := 894) (by decide +kernel) rfl
theorem kw_895 : Cond.selects "SignalTable$Gains" yX2_forget yX2_forget ∈ lwg := wu_mem (i := 895) (by decide +kernel) rfl
theorem kw_896 : Cond.code yX2_forget cX2_forget 1 none ∈ lwg := wu_mem (i := 896) (by decide +kernel) rfl
theorem kw_897 : Cond.methodLink "SignalTable$Gains" 23 yJ7_fill_53178 ∈ lwg := wu_mem (i := 897) (by decide +kernel) rfl
theorem kw_898 : Cond.static yJ7_fill_53178 ∈ lwg := wu_mem (i := 898) (by decide +kernel) rfl
theorem kw_899 : Cond.code yJ7_fill_53178 cJ7_fill_53178 4 none ∈ lwg := wu_mem (i := 899) (by decide +kernel) rfl
theorem caV_SignalTable_Tokens_60 : CaV "SignalTable$Tokens" RX9 60 yX9_note cX9_note 5 none 3 := ⟨kw_781, kw_783, kw_3, kw_158, kw_784, rfl, by decide +kernel, by decide +kernel, by decide +kernel⟩
theorem caV_SignalTable_Reader_30 : CaV "SignalTable$Reader" RX9 30 yX9_cut cX9_cut 6 none 2 := ⟨kw_770, kw_771, kw_772, kw_158, kw_773, rfl, by decide +kernel, by decide +kernel, by decide +kernel⟩
theorem caS_SignalTable_Gains_23 : CaS "SignalTable$Gains" 23 yJ7_fill_53178 cJ7_fill_53178 4 none 2 := ⟨kw_897, kw_898, kw_173, kw_899, by decide +kernel, by decide +kernel, by decide +kernel⟩
theorem caV_SignalTable_123 : CaV "SignalTable" RX3 123 yX3_clear cX3_clear 1 none 0 := ⟨kw_877, kw_878, kw_879, kw_163, kw_880, rfl, by decide +kernel, by decide +kernel, by decide +kernel⟩
theorem caV_SignalTable_124 : CaV "SignalTable" RX0 124 yX0_clear cX0_clear 1 none 0 := ⟨kw_881, kw_882, kw_883, kw_168, kw_884, rfl, by decide +kernel, by decide +kernel, by decide +kernel⟩
theorem caV_SignalTable_125 : CaV "SignalTable" RX6 125 yX6_forget cX6_forget 2 none 0 := ⟨kw_885, kw_886, kw_887, kw_164, kw_888, rfl, by decide +kernel, by decide +kernel, by decide +kernel⟩
theorem caV_SignalTable_128 : CaV "SignalTable" RX10 128 yX10_forget cX10_forget 1 none 0 := ⟨kw_889, kw_890, kw_891, kw_166, kw_892, rfl, by decide +kernel, by decide +kernel, by decide +kernel⟩
theorem caV_SignalTable_129 : CaV "SignalTable" RX2 129 yX2_forget cX2_forget 1 none 0 := ⟨kw_893, kw_894, kw_895, kw_167, kw_896, rfl, by decide +kernel, by decide +kernel, by decide +kernel⟩
theorem caV_SignalTable_112 : CaV "SignalTable" RX8 112 yX8_cut cX8_cut 3 none 2 := ⟨kw_766, kw_767, kw_768, kw_157, kw_769, rfl, by decide +kernel, by decide +kernel, by decide +kernel⟩
theorem caV_SignalTable_116 : CaV "SignalTable" RX8 116 yX8_pass cX8_pass 3 (some .int) 1 := ⟨kw_803, kw_804, kw_805, kw_157, kw_806, rfl, by decide +kernel, by decide +kernel, by decide +kernel⟩
theorem caV_SignalTable_120 : CaV "SignalTable" RX11 120 yX11_startAnew cX11_startAnew 2 none 0 := ⟨kw_873, kw_875, kw_20, kw_154, kw_876, rfl, by decide +kernel, by decide +kernel, by decide +kernel⟩
theorem dJ7_fill_53178_0 : decode cJ7_fill_53178 0 = .ok (.iconst 0, 1) := by decide +kernel
theorem dJ7_fill_53178_1 : decode cJ7_fill_53178 1 = .ok (.istore_n 2, 1) := by decide +kernel
theorem dJ7_fill_53178_2 : decode cJ7_fill_53178 2 = .ok (.aload_n 0, 1) := by decide +kernel
theorem dJ7_fill_53178_3 : decode cJ7_fill_53178 3 = .ok (.arraylength, 1) := by decide +kernel
theorem dJ7_fill_53178_4 : decode cJ7_fill_53178 4 = .ok (.istore_n 3, 1) := by decide +kernel
theorem dJ7_fill_53178_5 : decode cJ7_fill_53178 5 = .ok (.iload_n 2, 1) := by decide +kernel
theorem dJ7_fill_53178_6 : decode cJ7_fill_53178 6 = .ok (.iload_n 3, 1) := by decide +kernel
theorem dJ7_fill_53178_7 : decode cJ7_fill_53178 7 = .ok (.if_icmp .ge 13, 3) := by decide +kernel
theorem dJ7_fill_53178_10 : decode cJ7_fill_53178 10 = .ok (.aload_n 0, 1) := by decide +kernel
theorem dJ7_fill_53178_11 : decode cJ7_fill_53178 11 = .ok (.iload_n 2, 1) := by decide +kernel
theorem dJ7_fill_53178_12 : decode cJ7_fill_53178 12 = .ok (.iload_n 1, 1) := by decide +kernel
theorem dJ7_fill_53178_13 : decode cJ7_fill_53178 13 = .ok (.iastore, 1) := by decide +kernel
theorem dJ7_fill_53178_14 : decode cJ7_fill_53178 14 = .ok (.iinc 2 1, 3) := by decide +kernel
theorem dJ7_fill_53178_17 : decode cJ7_fill_53178 17 = .ok (.goto (-12), 3) := by decide +kernel
theorem dJ7_fill_53178_20 : decode cJ7_fill_53178 20 = .ok (.return_, 1) := by decide +kernel
theorem dX0_clear_0 : decode cX0_clear 0 = .ok (.aload_n 0, 1) := by decide +kernel
theorem dX0_clear_1 : decode cX0_clear 1 = .ok (.iconst 0, 1) := by decide +kernel
theorem dX0_clear_2 : decode cX0_clear 2 = .ok (.putfield 18, 3) := by decide +kernel
theorem dX0_clear_5 : decode cX0_clear 5 = .ok (.return_, 1) := by decide +kernel
theorem dX10_forget_0 : decode cX10_forget 0 = .ok (.aload_n 0, 1) := by decide +kernel
theorem dX10_forget_1 : decode cX10_forget 1 = .ok (.aconst_null, 1) := by decide +kernel
theorem dX10_forget_2 : decode cX10_forget 2 = .ok (.putfield 23, 3) := by decide +kernel
theorem dX10_forget_5 : decode cX10_forget 5 = .ok (.return_, 1) := by decide +kernel
theorem dX11_read_0 : decode cX11_read 0 = .ok (.aload_n 0, 1) := by decide +kernel
theorem dX11_read_1 : decode cX11_read 1 = .ok (.getfield 32, 3) := by decide +kernel
theorem dX11_read_4 : decode cX11_read 4 = .ok (.aload_n 0, 1) := by decide +kernel
theorem dX11_read_5 : decode cX11_read 5 = .ok (.getfield 9, 3) := by decide +kernel
theorem dX11_read_8 : decode cX11_read 8 = .ok (.aload_n 0, 1) := by decide +kernel
theorem dX11_read_9 : decode cX11_read 9 = .ok (.getfield 104, 3) := by decide +kernel
theorem dX11_read_12 : decode cX11_read 12 = .ok (.invokevirtual 112, 3) := by decide +kernel
theorem dX11_read_15 : decode cX11_read 15 = .ok (.aload_n 0, 1) := by decide +kernel
theorem dX11_read_16 : decode cX11_read 16 = .ok (.iconst 0, 1) := by decide +kernel
theorem dX11_read_17 : decode cX11_read 17 = .ok (.putfield 104, 3) := by decide +kernel
theorem dX11_read_20 : decode cX11_read 20 = .ok (.aload_n 0, 1) := by decide +kernel
theorem dX11_read_21 : decode cX11_read 21 = .ok (.getfield 32, 3) := by decide +kernel
theorem dX11_read_24 : decode cX11_read 24 = .ok (.iconst 0, 1) := by decide +kernel
theorem dX11_read_25 : decode cX11_read 25 = .ok (.invokevirtual 116, 3) := by decide +kernel
theorem dX11_read_28 : decode cX11_read 28 = .ok (.istore_n 1, 1) := by decide +kernel
theorem dX11_read_29 : decode cX11_read 29 = .ok (.iload_n 1, 1) := by decide +kernel
theorem dX11_read_30 : decode cX11_read 30 = .ok (.ifCond .ne 30, 3) := by decide +kernel
theorem dX11_read_33 : decode cX11_read 33 = .ok (.aload_n 0, 1) := by decide +kernel
theorem dX11_read_34 : decode cX11_read 34 = .ok (.getfield 16, 3) := by decide +kernel
theorem dX11_read_37 : decode cX11_read 37 = .ok (.invokevirtual 98, 3) := by decide +kernel
theorem dX11_read_40 : decode cX11_read 40 = .ok (.aload_n 0, 1) := by decide +kernel
theorem dX11_read_41 : decode cX11_read 41 = .ok (.getfield 32, 3) := by decide +kernel
theorem dX11_read_44 : decode cX11_read 44 = .ok (.iconst 1, 1) := by decide +kernel
theorem dX11_read_45 : decode cX11_read 45 = .ok (.invokevirtual 116, 3) := by decide +kernel
theorem dX11_read_48 : decode cX11_read 48 = .ok (.pop, 1) := by decide +kernel
theorem dX11_read_49 : decode cX11_read 49 = .ok (.aload_n 0, 1) := by decide +kernel
theorem dX11_read_50 : decode cX11_read 50 = .ok (.getfield 16, 3) := by decide +kernel
theorem dX11_read_53 : decode cX11_read 53 = .ok (.invokevirtual 101, 3) := by decide +kernel
theorem dX11_read_56 : decode cX11_read 56 = .ok (.aload_n 0, 1) := by decide +kernel
theorem dX11_read_57 : decode cX11_read 57 = .ok (.invokevirtual 120, 3) := by decide +kernel
theorem dX11_read_60 : decode cX11_read 60 = .ok (.iload_n 1, 1) := by decide +kernel
theorem dX11_read_61 : decode cX11_read 61 = .ok (.ireturn, 1) := by decide +kernel
theorem dX11_startAnew_0 : decode cX11_startAnew 0 = .ok (.aload_n 0, 1) := by decide +kernel
theorem dX11_startAnew_1 : decode cX11_startAnew 1 = .ok (.getfield 41, 3) := by decide +kernel
theorem dX11_startAnew_4 : decode cX11_startAnew 4 = .ok (.invokevirtual 123, 3) := by decide +kernel
theorem dX11_startAnew_7 : decode cX11_startAnew 7 = .ok (.aload_n 0, 1) := by decide +kernel
theorem dX11_startAnew_8 : decode cX11_startAnew 8 = .ok (.getfield 45, 3) := by decide +kernel
theorem dX11_startAnew_11 : decode cX11_startAnew 11 = .ok (.invokevirtual 123, 3) := by decide +kernel
theorem dX11_startAnew_14 : decode cX11_startAnew 14 = .ok (.iconst 0, 1) := by decide +kernel
theorem dX11_startAnew_15 : decode cX11_startAnew 15 = .ok (.istore_n 1, 1) := by decide +kernel
theorem dX11_startAnew_16 : decode cX11_startAnew 16 = .ok (.iload_n 1, 1) := by decide +kernel
theorem dX11_startAnew_17 : decode cX11_startAnew 17 = .ok (.iconst 2, 1) := by decide +kernel
theorem dX11_startAnew_18 : decode cX11_startAnew 18 = .ok (.if_icmp .ge 18, 3) := by decide +kernel
theorem dX11_startAnew_21 : decode cX11_startAnew 21 = .ok (.aload_n 0, 1) := by decide +kernel
theorem dX11_startAnew_22 : decode cX11_startAnew 22 = .ok (.getfield 48, 3) := by decide +kernel
theorem dX11_startAnew_25 : decode cX11_startAnew 25 = .ok (.iload_n 1, 1) := by decide +kernel
theorem dX11_startAnew_26 : decode cX11_startAnew 26 = .ok (.aaload, 1) := by decide +kernel
theorem dX11_startAnew_27 : decode cX11_startAnew 27 = .ok (.invokevirtual 123, 3) := by decide +kernel
theorem dX11_startAnew_30 : decode cX11_startAnew 30 = .ok (.iinc 1 1, 3) := by decide +kernel
theorem dX11_startAnew_33 : decode cX11_startAnew 33 = .ok (.goto (-17), 3) := by decide +kernel
theorem dX11_startAnew_36 : decode cX11_startAnew 36 = .ok (.aload_n 0, 1) := by decide +kernel
theorem dX11_startAnew_37 : decode cX11_startAnew 37 = .ok (.getfield 87, 3) := by decide +kernel
theorem dX11_startAnew_40 : decode cX11_startAnew 40 = .ok (.invokevirtual 124, 3) := by decide +kernel
theorem dX11_startAnew_43 : decode cX11_startAnew 43 = .ok (.aload_n 0, 1) := by decide +kernel
theorem dX11_startAnew_44 : decode cX11_startAnew 44 = .ok (.getfield 55, 3) := by decide +kernel
theorem dX11_startAnew_47 : decode cX11_startAnew 47 = .ok (.invokevirtual 125, 3) := by decide +kernel
theorem dX11_startAnew_50 : decode cX11_startAnew 50 = .ok (.aload_n 0, 1) := by decide +kernel
theorem dX11_startAnew_51 : decode cX11_startAnew 51 = .ok (.getfield 71, 3) := by decide +kernel
theorem dX11_startAnew_54 : decode cX11_startAnew 54 = .ok (.invokevirtual 128, 3) := by decide +kernel
theorem dX11_startAnew_57 : decode cX11_startAnew 57 = .ok (.aload_n 0, 1) := by decide +kernel
theorem dX11_startAnew_58 : decode cX11_startAnew 58 = .ok (.getfield 80, 3) := by decide +kernel
theorem dX11_startAnew_61 : decode cX11_startAnew 61 = .ok (.invokevirtual 129, 3) := by decide +kernel
theorem dX11_startAnew_64 : decode cX11_startAnew 64 = .ok (.return_, 1) := by decide +kernel
theorem dX2_forget_0 : decode cX2_forget 0 = .ok (.aload_n 0, 1) := by decide +kernel
theorem dX2_forget_1 : decode cX2_forget 1 = .ok (.getfield 11, 3) := by decide +kernel
theorem dX2_forget_4 : decode cX2_forget 4 = .ok (.iconst 0, 1) := by decide +kernel
theorem dX2_forget_5 : decode cX2_forget 5 = .ok (.invokestatic 23, 3) := by decide +kernel
theorem dX2_forget_8 : decode cX2_forget 8 = .ok (.return_, 1) := by decide +kernel
theorem dX3_clear_0 : decode cX3_clear 0 = .ok (.aload_n 0, 1) := by decide +kernel
theorem dX3_clear_1 : decode cX3_clear 1 = .ok (.iconst 0, 1) := by decide +kernel
theorem dX3_clear_2 : decode cX3_clear 2 = .ok (.putfield 57, 3) := by decide +kernel
theorem dX3_clear_5 : decode cX3_clear 5 = .ok (.aload_n 0, 1) := by decide +kernel
theorem dX3_clear_6 : decode cX3_clear 6 = .ok (.iconst 0, 1) := by decide +kernel
theorem dX3_clear_7 : decode cX3_clear 7 = .ok (.putfield 61, 3) := by decide +kernel
theorem dX3_clear_10 : decode cX3_clear 10 = .ok (.aload_n 0, 1) := by decide +kernel
theorem dX3_clear_11 : decode cX3_clear 11 = .ok (.bipush (-2), 2) := by decide +kernel
theorem dX3_clear_13 : decode cX3_clear 13 = .ok (.putfield 18, 3) := by decide +kernel
theorem dX3_clear_16 : decode cX3_clear 16 = .ok (.aload_n 0, 1) := by decide +kernel
theorem dX3_clear_17 : decode cX3_clear 17 = .ok (.dup, 1) := by decide +kernel
theorem dX3_clear_18 : decode cX3_clear 18 = .ok (.getfield 64, 3) := by decide +kernel
theorem dX3_clear_21 : decode cX3_clear 21 = .ok (.iconst 1, 1) := by decide +kernel
theorem dX3_clear_22 : decode cX3_clear 22 = .ok (.iadd, 1) := by decide +kernel
theorem dX3_clear_23 : decode cX3_clear 23 = .ok (.putfield 64, 3) := by decide +kernel
theorem dX3_clear_26 : decode cX3_clear 26 = .ok (.return_, 1) := by decide +kernel
theorem dX6_forget_0 : decode cX6_forget 0 = .ok (.aload_n 0, 1) := by decide +kernel
theorem dX6_forget_1 : decode cX6_forget 1 = .ok (.iconst (-1), 1) := by decide +kernel
theorem dX6_forget_2 : decode cX6_forget 2 = .ok (.putfield 28, 3) := by decide +kernel
theorem dX6_forget_5 : decode cX6_forget 5 = .ok (.iconst 0, 1) := by decide +kernel
theorem dX6_forget_6 : decode cX6_forget 6 = .ok (.istore_n 1, 1) := by decide +kernel
theorem dX6_forget_7 : decode cX6_forget 7 = .ok (.iload_n 1, 1) := by decide +kernel
theorem dX6_forget_8 : decode cX6_forget 8 = .ok (.iconst 4, 1) := by decide +kernel
theorem dX6_forget_9 : decode cX6_forget 9 = .ok (.if_icmp .ge 16, 3) := by decide +kernel
theorem dX6_forget_12 : decode cX6_forget 12 = .ok (.aload_n 0, 1) := by decide +kernel
theorem dX6_forget_13 : decode cX6_forget 13 = .ok (.getfield 22, 3) := by decide +kernel
theorem dX6_forget_16 : decode cX6_forget 16 = .ok (.iload_n 1, 1) := by decide +kernel
theorem dX6_forget_17 : decode cX6_forget 17 = .ok (.iconst 0, 1) := by decide +kernel
theorem dX6_forget_18 : decode cX6_forget 18 = .ok (.iastore, 1) := by decide +kernel
theorem dX6_forget_19 : decode cX6_forget 19 = .ok (.iinc 1 1, 3) := by decide +kernel
theorem dX6_forget_22 : decode cX6_forget 22 = .ok (.goto (-15), 3) := by decide +kernel
theorem dX6_forget_25 : decode cX6_forget 25 = .ok (.return_, 1) := by decide +kernel
theorem dX8_cut_0 : decode cX8_cut 0 = .ok (.aload_n 0, 1) := by decide +kernel
theorem dX8_cut_1 : decode cX8_cut 1 = .ok (.getfield 12, 3) := by decide +kernel
theorem dX8_cut_4 : decode cX8_cut 4 = .ok (.aload_n 1, 1) := by decide +kernel
theorem dX8_cut_5 : decode cX8_cut 5 = .ok (.iload_n 2, 1) := by decide +kernel
theorem dX8_cut_6 : decode cX8_cut 6 = .ok (.invokevirtual 30, 3) := by decide +kernel
theorem dX8_cut_9 : decode cX8_cut 9 = .ok (.return_, 1) := by decide +kernel
theorem dX8_pass_0 : decode cX8_pass 0 = .ok (.aload_n 0, 1) := by decide +kernel
theorem dX8_pass_1 : decode cX8_pass 1 = .ok (.iload_n 1, 1) := by decide +kernel
theorem dX8_pass_2 : decode cX8_pass 2 = .ok (.putfield 34, 3) := by decide +kernel
theorem dX8_pass_5 : decode cX8_pass 5 = .ok (.aload_n 0, 1) := by decide +kernel
theorem dX8_pass_6 : decode cX8_pass 6 = .ok (.iconst 0, 1) := by decide +kernel
theorem dX8_pass_7 : decode cX8_pass 7 = .ok (.putfield 38, 3) := by decide +kernel
theorem dX8_pass_10 : decode cX8_pass 10 = .ok (.aload_n 0, 1) := by decide +kernel
theorem dX8_pass_11 : decode cX8_pass 11 = .ok (.aload_n 0, 1) := by decide +kernel
theorem dX8_pass_12 : decode cX8_pass 12 = .ok (.getfield 12, 3) := by decide +kernel
theorem dX8_pass_15 : decode cX8_pass 15 = .ok (.getfield 41, 3) := by decide +kernel
theorem dX8_pass_18 : decode cX8_pass 18 = .ok (.iconst 0, 1) := by decide +kernel
theorem dX8_pass_19 : decode cX8_pass 19 = .ok (.iaload, 1) := by decide +kernel
theorem dX8_pass_20 : decode cX8_pass 20 = .ok (.putfield 45, 3) := by decide +kernel
theorem dX8_pass_23 : decode cX8_pass 23 = .ok (.aload_n 0, 1) := by decide +kernel
theorem dX8_pass_24 : decode cX8_pass 24 = .ok (.iconst 0, 1) := by decide +kernel
theorem dX8_pass_25 : decode cX8_pass 25 = .ok (.putfield 47, 3) := by decide +kernel
theorem dX8_pass_28 : decode cX8_pass 28 = .ok (.aload_n 0, 1) := by decide +kernel
theorem dX8_pass_29 : decode cX8_pass 29 = .ok (.iconst 0, 1) := by decide +kernel
theorem dX8_pass_30 : decode cX8_pass 30 = .ok (.putfield 50, 3) := by decide +kernel
theorem dX8_pass_33 : decode cX8_pass 33 = .ok (.aload_n 0, 1) := by decide +kernel
theorem dX8_pass_34 : decode cX8_pass 34 = .ok (.iconst (-1), 1) := by decide +kernel
theorem dX8_pass_35 : decode cX8_pass 35 = .ok (.putfield 22, 3) := by decide +kernel
theorem dX8_pass_38 : decode cX8_pass 38 = .ok (.aload_n 0, 1) := by decide +kernel
theorem dX8_pass_39 : decode cX8_pass 39 = .ok (.iconst 0, 1) := by decide +kernel
theorem dX8_pass_40 : decode cX8_pass 40 = .ok (.putfield 53, 3) := by decide +kernel
theorem dX8_pass_43 : decode cX8_pass 43 = .ok (.iconst 0, 1) := by decide +kernel
theorem dX8_pass_44 : decode cX8_pass 44 = .ok (.istore_n 2, 1) := by decide +kernel
theorem dX8_pass_45 : decode cX8_pass 45 = .ok (.iload_n 2, 1) := by decide +kernel
theorem dX8_pass_46 : decode cX8_pass 46 = .ok (.sipush 400, 3) := by decide +kernel
theorem dX8_pass_49 : decode cX8_pass 49 = .ok (.if_icmp .gt 94, 3) := by decide +kernel
theorem dX8_pass_52 : decode cX8_pass 52 = .ok (.aload_n 0, 1) := by decide +kernel
theorem dX8_pass_53 : decode cX8_pass 53 = .ok (.getfield 50, 3) := by decide +kernel
theorem dX8_pass_56 : decode cX8_pass 56 = .ok (.ifCond .ne 87, 3) := by decide +kernel
theorem dX8_pass_59 : decode cX8_pass 59 = .ok (.aload_n 0, 1) := by decide +kernel
theorem dX8_pass_60 : decode cX8_pass 60 = .ok (.getfield 45, 3) := by decide +kernel
theorem dX8_pass_63 : decode cX8_pass 63 = .ok (.ifCond .eq 80, 3) := by decide +kernel
theorem dX8_pass_143 : decode cX8_pass 143 = .ok (.aload_n 0, 1) := by decide +kernel
theorem dX8_pass_144 : decode cX8_pass 144 = .ok (.getfield 50, 3) := by decide +kernel
theorem dX8_pass_147 : decode cX8_pass 147 = .ok (.ifCond .ne 26, 3) := by decide +kernel
theorem dX8_pass_150 : decode cX8_pass 150 = .ok (.aload_n 0, 1) := by decide +kernel
theorem dX8_pass_151 : decode cX8_pass 151 = .ok (.getfield 53, 3) := by decide +kernel
theorem dX8_pass_154 : decode cX8_pass 154 = .ok (.ifCond .eq 19, 3) := by decide +kernel
theorem dX8_pass_173 : decode cX8_pass 173 = .ok (.aload_n 0, 1) := by decide +kernel
theorem dX8_pass_174 : decode cX8_pass 174 = .ok (.getfield 50, 3) := by decide +kernel
theorem dX8_pass_177 : decode cX8_pass 177 = .ok (.ireturn, 1) := by decide +kernel
theorem dX9_cut_0 : decode cX9_cut 0 = .ok (.aload_n 0, 1) := by decide +kernel
theorem dX9_cut_1 : decode cX9_cut 1 = .ok (.iconst 0, 1) := by decide +kernel
theorem dX9_cut_2 : decode cX9_cut 2 = .ok (.putfield 39, 3) := by decide +kernel
theorem dX9_cut_5 : decode cX9_cut 5 = .ok (.iconst 0, 1) := by decide +kernel
theorem dX9_cut_6 : decode cX9_cut 6 = .ok (.istore_n 3, 1) := by decide +kernel
theorem dX9_cut_7 : decode cX9_cut 7 = .ok (.iconst 0, 1) := by decide +kernel
theorem dX9_cut_8 : decode cX9_cut 8 = .ok (.istore 4, 2) := by decide +kernel
theorem dX9_cut_10 : decode cX9_cut 10 = .ok (.iload 4, 2) := by decide +kernel
theorem dX9_cut_12 : decode cX9_cut 12 = .ok (.sipush 2000, 3) := by decide +kernel
theorem dX9_cut_15 : decode cX9_cut 15 = .ok (.if_icmp .ge 119, 3) := by decide +kernel
theorem dX9_cut_18 : decode cX9_cut 18 = .ok (.iload_n 3, 1) := by decide +kernel
theorem dX9_cut_19 : decode cX9_cut 19 = .ok (.iload_n 2, 1) := by decide +kernel
theorem dX9_cut_20 : decode cX9_cut 20 = .ok (.if_icmp .ge 114, 3) := by decide +kernel
theorem dX9_cut_134 : decode cX9_cut 134 = .ok (.aload_n 0, 1) := by decide +kernel
theorem dX9_cut_135 : decode cX9_cut 135 = .ok (.iconst 0, 1) := by decide +kernel
theorem dX9_cut_136 : decode cX9_cut 136 = .ok (.lconst 0, 1) := by decide +kernel
theorem dX9_cut_137 : decode cX9_cut 137 = .ok (.iload_n 2, 1) := by decide +kernel
theorem dX9_cut_138 : decode cX9_cut 138 = .ok (.invokevirtual 60, 3) := by decide +kernel
theorem dX9_cut_141 : decode cX9_cut 141 = .ok (.return_, 1) := by decide +kernel
theorem dX9_note_0 : decode cX9_note 0 = .ok (.aload_n 0, 1) := by decide +kernel
theorem dX9_note_1 : decode cX9_note 1 = .ok (.getfield 39, 3) := by decide +kernel
theorem dX9_note_4 : decode cX9_note 4 = .ok (.aload_n 0, 1) := by decide +kernel
theorem dX9_note_5 : decode cX9_note 5 = .ok (.getfield 11, 3) := by decide +kernel
theorem dX9_note_8 : decode cX9_note 8 = .ok (.arraylength, 1) := by decide +kernel
theorem dX9_note_9 : decode cX9_note 9 = .ok (.if_icmp .ge 44, 3) := by decide +kernel
theorem dX9_note_12 : decode cX9_note 12 = .ok (.aload_n 0, 1) := by decide +kernel
theorem dX9_note_13 : decode cX9_note 13 = .ok (.getfield 11, 3) := by decide +kernel
theorem dX9_note_16 : decode cX9_note 16 = .ok (.aload_n 0, 1) := by decide +kernel
theorem dX9_note_17 : decode cX9_note 17 = .ok (.getfield 39, 3) := by decide +kernel
theorem dX9_note_20 : decode cX9_note 20 = .ok (.iload_n 1, 1) := by decide +kernel
theorem dX9_note_21 : decode cX9_note 21 = .ok (.iastore, 1) := by decide +kernel
theorem dX9_note_22 : decode cX9_note 22 = .ok (.aload_n 0, 1) := by decide +kernel
theorem dX9_note_23 : decode cX9_note 23 = .ok (.getfield 18, 3) := by decide +kernel
theorem dX9_note_26 : decode cX9_note 26 = .ok (.aload_n 0, 1) := by decide +kernel
theorem dX9_note_27 : decode cX9_note 27 = .ok (.getfield 39, 3) := by decide +kernel
theorem dX9_note_30 : decode cX9_note 30 = .ok (.lload_n 2, 1) := by decide +kernel
theorem dX9_note_31 : decode cX9_note 31 = .ok (.lastore, 1) := by decide +kernel
theorem dX9_note_32 : decode cX9_note 32 = .ok (.aload_n 0, 1) := by decide +kernel
theorem dX9_note_33 : decode cX9_note 33 = .ok (.getfield 15, 3) := by decide +kernel
theorem dX9_note_36 : decode cX9_note 36 = .ok (.aload_n 0, 1) := by decide +kernel
theorem dX9_note_37 : decode cX9_note 37 = .ok (.getfield 39, 3) := by decide +kernel
theorem dX9_note_40 : decode cX9_note 40 = .ok (.iload 4, 2) := by decide +kernel
theorem dX9_note_42 : decode cX9_note 42 = .ok (.iastore, 1) := by decide +kernel
theorem dX9_note_43 : decode cX9_note 43 = .ok (.aload_n 0, 1) := by decide +kernel
theorem dX9_note_44 : decode cX9_note 44 = .ok (.dup, 1) := by decide +kernel
theorem dX9_note_45 : decode cX9_note 45 = .ok (.getfield 39, 3) := by decide +kernel
theorem dX9_note_48 : decode cX9_note 48 = .ok (.iconst 1, 1) := by decide +kernel
theorem dX9_note_49 : decode cX9_note 49 = .ok (.iadd, 1) := by decide +kernel
theorem dX9_note_50 : decode cX9_note 50 = .ok (.putfield 39, 3) := by decide +kernel
theorem dX9_note_53 : decode cX9_note 53 = .ok (.return_, 1) := by decide +kernel
