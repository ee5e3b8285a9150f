/-! names -/
abbrev cX8_init : ByteArray := prog_10_method_1_code
def yX8_init : MethodName := ⟨RX8, "<init>", "(LSignalTable$Laws;)V"⟩
abbrev cX9_init : ByteArray := prog_11_method_1_code
def yX9_init : MethodName := ⟨RX9, "<init>", "()V"⟩
theorem kw_158 : Cond.initialized "SignalTable$Tokens" ∈ lwg := wu_mem (i := 158) (by decide +kernel) rfl
theorem kw_302 : Cond.methodLink "SignalTable$Reader" 3 ⟨"java/lang/Object", "<init>", "()V"⟩ ∈ lwg := wu_mem (i := 302) (by decide +kernel) rfl
theorem kw_303 : Cond.classLink "SignalTable$Reader" 9 "SignalTable$Tokens" ∈ lwg := wu_mem (i := 303) (by decide +kernel) rfl
theorem kw_304 : Cond.instantiable "SignalTable$Tokens" 5 ∈ lwg := wu_mem (i := 304) (by decide +kernel) rfl
theorem kw_305 : Cond.methodLink "SignalTable$Reader" 11 yX9_init ∈ lwg := wu_mem (i := 305) (by decide +kernel) rfl
theorem kw_306 : Cond.instanceMethod yX9_init ∈ lwg := wu_mem (i := 306) (by decide +kernel) rfl
theorem kw_307 : Cond.code yX9_init cX9_init 6 none ∈ lwg := wu_mem (i := 307) (by decide +kernel) rfl
theorem kw_308 : Cond.methodLink "SignalTable$Tokens" 3 ⟨"java/lang/Object", "<init>", "()V"⟩ ∈ lwg := wu_mem (i := 308) (by decide +kernel) rfl
theorem kw_310 : Cond.methodLink "SignalTable$Tokens" 27 yJ0_length_8abf5 ∈ lwg := wu_mem (i := 310) (by decide +kernel) rfl
theorem kw_311 : Cond.instanceMethod yJ0_length_8abf5 ∈ lwg := wu_mem (i := 311) (by decide +kernel) rfl
theorem kw_312 : Cond.selects "java/lang/String" yJ0_length_8abf5 yJ0_length_8abf5 ∈ lwg := wu_mem (i := 312) (by decide +kernel) rfl
theorem kw_313 : Cond.code yJ0_length_8abf5 cJ0_length_8abf5 1 (some .int) ∈ lwg := wu_mem (i := 313) (by decide +kernel) rfl
theorem kw_320 : Cond.methodLink "SignalTable$Tokens" 33 yJ0_charAt_5068e ∈ lwg := wu_mem (i := 320) (by decide +kernel) rfl
theorem kw_321 : Cond.instanceMethod yJ0_charAt_5068e ∈ lwg := wu_mem (i := 321) (by decide +kernel) rfl
theorem kw_322 : Cond.selects "java/lang/String" yJ0_charAt_5068e yJ0_charAt_5068e ∈ lwg := wu_mem (i := 322) (by decide +kernel) rfl
theorem kw_323 : Cond.code yJ0_charAt_5068e cJ0_charAt_5068e 2 (some .char) ∈ lwg := wu_mem (i := 323) (by decide +kernel) rfl
theorem kw_358 : Cond.constantLong "SignalTable$Tokens" 37 32 ∈ lwg := wu_mem (i := 358) (by decide +kernel) rfl
theorem kw_359 : Cond.fieldLink "SignalTable$Tokens" 11 "SignalTable$Tokens" "type" "[I" ∈ lwg := wu_mem (i := 359) (by decide +kernel) rfl
theorem kw_361 : Cond.fieldLink "SignalTable$Tokens" 15 "SignalTable$Tokens" "place" "[I" ∈ lwg := wu_mem (i := 361) (by decide +kernel) rfl
theorem kw_363 : Cond.fieldLink "SignalTable$Tokens" 18 "SignalTable$Tokens" "value" "[J" ∈ lwg := wu_mem (i := 363) (by decide +kernel) rfl
theorem kw_365 : Cond.fieldLink "SignalTable$Tokens" 22 "SignalTable$Tokens" "words" "[J" ∈ lwg := wu_mem (i := 365) (by decide +kernel) rfl
theorem kw_379 : Cond.fieldLink "SignalTable$Reader" 12 "SignalTable$Reader" "tokens" "LSignalTable$Tokens;" ∈ lwg := wu_mem (i := 379) (by decide +kernel) rfl
theorem kw_380 : Cond.fieldLink "SignalTable$Reader" 26 "SignalTable$Reader" "laws" "LSignalTable$Laws;" ∈ lwg := wu_mem (i := 380) (by decide +kernel) rfl
theorem kw_381 : Cond.fieldLink "SignalTable$Reader" 18 "SignalTable$Reader" "names" "[J" ∈ lwg := wu_mem (i := 381) (by decide +kernel) rfl
theorem kw_387 : Cond.fieldLink "SignalTable$Reader" 22 "SignalTable$Reader" "place" "I" ∈ lwg := wu_mem (i := 387) (by decide +kernel) rfl
theorem caV_SignalTable_Tokens_27 : CaV "SignalTable$Tokens" "java/lang/String" 27 yJ0_length_8abf5 cJ0_length_8abf5 1 (some .int) 0 := ⟨kw_310, kw_311, kw_312, kw_159, kw_313, rfl, by decide +kernel, by decide +kernel, by decide +kernel⟩
theorem caV_SignalTable_Tokens_33 : CaV "SignalTable$Tokens" "java/lang/String" 33 yJ0_charAt_5068e cJ0_charAt_5068e 2 (some .char) 1 := ⟨kw_320, kw_321, kw_322, kw_159, kw_323, rfl, by decide +kernel, by decide +kernel, by decide +kernel⟩
theorem caI_SignalTable_Reader_11 : CaI "SignalTable$Reader" 11 yX9_init cX9_init 6 0 := ⟨kw_305, kw_306, kw_158, kw_307, rfl, by decide +kernel, by decide +kernel, by decide +kernel⟩
theorem dX8_init_0 : decode cX8_init 0 = .ok (.aload_n 0, 1) := by decide +kernel
theorem dX8_init_1 : decode cX8_init 1 = .ok (.invokespecial 3, 3) := by decide +kernel
theorem dX8_init_4 : decode cX8_init 4 = .ok (.aload_n 0, 1) := by decide +kernel
theorem dX8_init_5 : decode cX8_init 5 = .ok (.new 9, 3) := by decide +kernel
theorem dX8_init_8 : decode cX8_init 8 = .ok (.dup, 1) := by decide +kernel
theorem dX8_init_9 : decode cX8_init 9 = .ok (.invokespecial 11, 3) := by decide +kernel
theorem dX8_init_12 : decode cX8_init 12 = .ok (.putfield 12, 3) := by decide +kernel
theorem dX8_init_15 : decode cX8_init 15 = .ok (.aload_n 0, 1) := by decide +kernel
theorem dX8_init_16 : decode cX8_init 16 = .ok (.bipush 6, 2) := by decide +kernel
theorem dX8_init_18 : decode cX8_init 18 = .ok (.newarray .long, 2) := by decide +kernel
theorem dX8_init_20 : decode cX8_init 20 = .ok (.putfield 18, 3) := by decide +kernel
theorem dX8_init_23 : decode cX8_init 23 = .ok (.aload_n 0, 1) := by decide +kernel
theorem dX8_init_24 : decode cX8_init 24 = .ok (.iconst (-1), 1) := by decide +kernel
theorem dX8_init_25 : decode cX8_init 25 = .ok (.putfield 22, 3) := by decide +kernel
theorem dX8_init_28 : decode cX8_init 28 = .ok (.aload_n 0, 1) := by decide +kernel
theorem dX8_init_29 : decode cX8_init 29 = .ok (.aload_n 1, 1) := by decide +kernel
theorem dX8_init_30 : decode cX8_init 30 = .ok (.putfield 26, 3) := by decide +kernel
theorem dX8_init_33 : decode cX8_init 33 = .ok (.return_, 1) := by decide +kernel
theorem dX9_init_0 : decode cX9_init 0 = .ok (.aload_n 0, 1) := by decide +kernel
theorem dX9_init_1 : decode cX9_init 1 = .ok (.invokespecial 3, 3) := by decide +kernel
theorem dX9_init_4 : decode cX9_init 4 = .ok (.aload_n 0, 1) := by decide +kernel
theorem dX9_init_5 : decode cX9_init 5 = .ok (.sipush 402, 3) := by decide +kernel
theorem dX9_init_8 : decode cX9_init 8 = .ok (.newarray .int, 2) := by decide +kernel
theorem dX9_init_10 : decode cX9_init 10 = .ok (.putfield 11, 3) := by decide +kernel
theorem dX9_init_13 : decode cX9_init 13 = .ok (.aload_n 0, 1) := by decide +kernel
theorem dX9_init_14 : decode cX9_init 14 = .ok (.sipush 402, 3) := by decide +kernel
theorem dX9_init_17 : decode cX9_init 17 = .ok (.newarray .int, 2) := by decide +kernel
theorem dX9_init_19 : decode cX9_init 19 = .ok (.putfield 15, 3) := by decide +kernel
theorem dX9_init_22 : decode cX9_init 22 = .ok (.aload_n 0, 1) := by decide +kernel
theorem dX9_init_23 : decode cX9_init 23 = .ok (.sipush 402, 3) := by decide +kernel
theorem dX9_init_26 : decode cX9_init 26 = .ok (.newarray .long, 2) := by decide +kernel
theorem dX9_init_28 : decode cX9_init 28 = .ok (.putfield 18, 3) := by decide +kernel
theorem dX9_init_31 : decode cX9_init 31 = .ok (.aload_n 0, 1) := by decide +kernel
theorem dX9_init_32 : decode cX9_init 32 = .ok (.bipush 22, 2) := by decide +kernel
theorem dX9_init_34 : decode cX9_init 34 = .ok (.newarray .long, 2) := by decide +kernel
theorem dX9_init_36 : decode cX9_init 36 = .ok (.putfield 22, 3) := by decide +kernel
theorem dX9_init_39 : decode cX9_init 39 = .ok (.iconst 0, 1) := by decide +kernel
theorem dX9_init_40 : decode cX9_init 40 = .ok (.istore_n 1, 1) := by decide +kernel
theorem dX9_init_41 : decode cX9_init 41 = .ok (.lconst 0, 1) := by decide +kernel
theorem dX9_init_42 : decode cX9_init 42 = .ok (.lstore_n 2, 1) := by decide +kernel
theorem dX9_init_43 : decode cX9_init 43 = .ok (.iconst 0, 1) := by decide +kernel
theorem dX9_init_44 : decode cX9_init 44 = .ok (.istore 4, 2) := by decide +kernel
theorem dX9_init_46 : decode cX9_init 46 = .ok (.iload 4, 2) := by decide +kernel
theorem dX9_init_48 : decode cX9_init 48 = .ok (.ldc 25, 2) := by decide +kernel
theorem dX9_init_50 : decode cX9_init 50 = .ok (.invokevirtual 27, 3) := by decide +kernel
theorem dX9_init_53 : decode cX9_init 53 = .ok (.if_icmp .ge 64, 3) := by decide +kernel
theorem dX9_init_56 : decode cX9_init 56 = .ok (.ldc 25, 2) := by decide +kernel
theorem dX9_init_58 : decode cX9_init 58 = .ok (.iload 4, 2) := by decide +kernel
theorem dX9_init_60 : decode cX9_init 60 = .ok (.invokevirtual 33, 3) := by decide +kernel
theorem dX9_init_63 : decode cX9_init 63 = .ok (.istore 5, 2) := by decide +kernel
theorem dX9_init_65 : decode cX9_init 65 = .ok (.iload 5, 2) := by decide +kernel
theorem dX9_init_67 : decode cX9_init 67 = .ok (.bipush 32, 2) := by decide +kernel
theorem dX9_init_69 : decode cX9_init 69 = .ok (.if_icmp .eq 21, 3) := by decide +kernel
theorem dX9_init_72 : decode cX9_init 72 = .ok (.lload_n 2, 1) := by decide +kernel
theorem dX9_init_73 : decode cX9_init 73 = .ok (.ldc2_w 37, 3) := by decide +kernel
theorem dX9_init_76 : decode cX9_init 76 = .ok (.lmul, 1) := by decide +kernel
theorem dX9_init_77 : decode cX9_init 77 = .ok (.iload 5, 2) := by decide +kernel
theorem dX9_init_79 : decode cX9_init 79 = .ok (.bipush 97, 2) := by decide +kernel
theorem dX9_init_81 : decode cX9_init 81 = .ok (.isub, 1) := by decide +kernel
theorem dX9_init_82 : decode cX9_init 82 = .ok (.iconst 1, 1) := by decide +kernel
theorem dX9_init_83 : decode cX9_init 83 = .ok (.iadd, 1) := by decide +kernel
theorem dX9_init_84 : decode cX9_init 84 = .ok (.i2l, 1) := by decide +kernel
theorem dX9_init_85 : decode cX9_init 85 = .ok (.ladd, 1) := by decide +kernel
theorem dX9_init_86 : decode cX9_init 86 = .ok (.lstore_n 2, 1) := by decide +kernel
theorem dX9_init_87 : decode cX9_init 87 = .ok (.goto 24, 3) := by decide +kernel
theorem dX9_init_90 : decode cX9_init 90 = .ok (.iload_n 1, 1) := by decide +kernel
theorem dX9_init_91 : decode cX9_init 91 = .ok (.aload_n 0, 1) := by decide +kernel
theorem dX9_init_92 : decode cX9_init 92 = .ok (.getfield 22, 3) := by decide +kernel
theorem dX9_init_95 : decode cX9_init 95 = .ok (.arraylength, 1) := by decide +kernel
theorem dX9_init_96 : decode cX9_init 96 = .ok (.if_icmp .ge 15, 3) := by decide +kernel
theorem dX9_init_99 : decode cX9_init 99 = .ok (.aload_n 0, 1) := by decide +kernel
theorem dX9_init_100 : decode cX9_init 100 = .ok (.getfield 22, 3) := by decide +kernel
theorem dX9_init_103 : decode cX9_init 103 = .ok (.iload_n 1, 1) := by decide +kernel
theorem dX9_init_104 : decode cX9_init 104 = .ok (.lload_n 2, 1) := by decide +kernel
theorem dX9_init_105 : decode cX9_init 105 = .ok (.lastore, 1) := by decide +kernel
theorem dX9_init_106 : decode cX9_init 106 = .ok (.iinc 1 1, 3) := by decide +kernel
theorem dX9_init_109 : decode cX9_init 109 = .ok (.lconst 0, 1) := by decide +kernel
theorem dX9_init_110 : decode cX9_init 110 = .ok (.lstore_n 2, 1) := by decide +kernel
theorem dX9_init_111 : decode cX9_init 111 = .ok (.iinc 4 1, 3) := by decide +kernel
theorem dX9_init_114 : decode cX9_init 114 = .ok (.goto (-68), 3) := by decide +kernel
theorem dX9_init_117 : decode cX9_init 117 = .ok (.return_, 1) := by decide +kernel
