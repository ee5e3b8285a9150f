/-! names -/
abbrev cJ6_numberOfTrailingZeros_0f7a4 : ByteArray := prog_15_method_48_code
def yJ6_numberOfTrailingZeros_0f7a4 : MethodName := ⟨"java/lang/Integer", "numberOfTrailingZeros", "(I)I"⟩
abbrev cX5_clear : ByteArray := prog_7_method_2_code
def yX5_clear : MethodName := ⟨RX5, "clear", "()V"⟩
abbrev cX5_listHands : ByteArray := prog_7_method_7_code
def yX5_listHands : MethodName := ⟨RX5, "listHands", "()V"⟩
abbrev cX5_settle : ByteArray := prog_7_method_6_code
def yX5_settle : MethodName := ⟨RX5, "settle", "()V"⟩
theorem kw_0 : Cond.selects "SignalTable$Laws" yX5_listHands yX5_listHands ∈ lwg := wu_mem (i := 0) (by decide +kernel) rfl
theorem kw_155 : Cond.initialized "SignalTable$Laws" ∈ lwg := wu_mem (i := 155) (by decide +kernel) rfl
theorem kw_170 : Cond.initialized "java/lang/Integer" ∈ lwg := wu_mem (i := 170) (by decide +kernel) rfl
theorem kw_188 : Cond.fieldLink "SignalTable$Laws" 38 "SignalTable$Laws" "suits" "I" ∈ lwg := wu_mem (i := 188) (by decide +kernel) rfl
theorem kw_192 : Cond.fieldLink "SignalTable$Laws" 42 "SignalTable$Laws" "ranks" "I" ∈ lwg := wu_mem (i := 192) (by decide +kernel) rfl
theorem kw_195 : Cond.fieldLink "SignalTable$Laws" 45 "SignalTable$Laws" "trump" "I" ∈ lwg := wu_mem (i := 195) (by decide +kernel) rfl
theorem kw_201 : Cond.fieldLink "SignalTable$Laws" 48 "SignalTable$Laws" "customs" "I" ∈ lwg := wu_mem (i := 201) (by decide +kernel) rfl
theorem kw_218 : Cond.fieldLink "SignalTable$Laws" 51 "SignalTable$Laws" "steps" "I" ∈ lwg := wu_mem (i := 218) (by decide +kernel) rfl
theorem kw_222 : Cond.fieldLink "SignalTable$Laws" 54 "SignalTable$Laws" "cards" "I" ∈ lwg := wu_mem (i := 222) (by decide +kernel) rfl
theorem kw_229 : Cond.fieldLink "SignalTable$Laws" 57 "SignalTable$Laws" "handSize" "I" ∈ lwg := wu_mem (i := 229) (by decide +kernel) rfl
theorem kw_245 : Cond.fieldLink "SignalTable$Laws" 63 "SignalTable$Laws" "handCount" "I" ∈ lwg := wu_mem (i := 245) (by decide +kernel) rfl
theorem kw_699 : Cond.methodLink "SignalTable$Laws" 60 yX5_listHands ∈ lwg := wu_mem (i := 699) (by decide +kernel) rfl
theorem kw_701 : Cond.instanceMethod yX5_listHands ∈ lwg := wu_mem (i := 701) (by decide +kernel) rfl
theorem kw_702 : Cond.code yX5_listHands cX5_listHands 5 none ∈ lwg := wu_mem (i := 702) (by decide +kernel) rfl
theorem kw_703 : Cond.methodLink "SignalTable$Laws" 66 yJ6_numberOfTrailingZeros_0f7a4 ∈ lwg := wu_mem (i := 703) (by decide +kernel) rfl
theorem kw_704 : Cond.static yJ6_numberOfTrailingZeros_0f7a4 ∈ lwg := wu_mem (i := 704) (by decide +kernel) rfl
theorem kw_705 : Cond.code yJ6_numberOfTrailingZeros_0f7a4 cJ6_numberOfTrailingZeros_0f7a4 2 (some .int) ∈ lwg := wu_mem (i := 705) (by decide +kernel) rfl
theorem kw_706 : Cond.constant "java/lang/Integer" 264 65536 ∈ lwg := wu_mem (i := 706) (by decide +kernel) rfl
theorem caS_SignalTable_Laws_66 : CaS "SignalTable$Laws" 66 yJ6_numberOfTrailingZeros_0f7a4 cJ6_numberOfTrailingZeros_0f7a4 2 (some .int) 1 := ⟨kw_703, kw_704, kw_170, kw_705, by decide +kernel, by decide +kernel, by decide +kernel⟩
theorem caV_SignalTable_Laws_60 : CaV "SignalTable$Laws" RX5 60 yX5_listHands cX5_listHands 5 none 0 := ⟨kw_699, kw_701, kw_0, kw_155, kw_702, rfl, by decide +kernel, by decide +kernel, by decide +kernel⟩
theorem dJ6_numberOfTrailingZeros_0f7a4_0 : decode cJ6_numberOfTrailingZeros_0f7a4 0 = .ok (.iload_n 0, 1) := by decide +kernel
theorem dJ6_numberOfTrailingZeros_0f7a4_1 : decode cJ6_numberOfTrailingZeros_0f7a4 1 = .ok (.iconst (-1), 1) := by decide +kernel
theorem dJ6_numberOfTrailingZeros_0f7a4_2 : decode cJ6_numberOfTrailingZeros_0f7a4 2 = .ok (.ixor, 1) := by decide +kernel
theorem dJ6_numberOfTrailingZeros_0f7a4_3 : decode cJ6_numberOfTrailingZeros_0f7a4 3 = .ok (.iload_n 0, 1) := by decide +kernel
theorem dJ6_numberOfTrailingZeros_0f7a4_4 : decode cJ6_numberOfTrailingZeros_0f7a4 4 = .ok (.iconst 1, 1) := by decide +kernel
theorem dJ6_numberOfTrailingZeros_0f7a4_5 : decode cJ6_numberOfTrailingZeros_0f7a4 5 = .ok (.isub, 1) := by decide +kernel
theorem dJ6_numberOfTrailingZeros_0f7a4_6 : decode cJ6_numberOfTrailingZeros_0f7a4 6 = .ok (.iand, 1) := by decide +kernel
theorem dJ6_numberOfTrailingZeros_0f7a4_7 : decode cJ6_numberOfTrailingZeros_0f7a4 7 = .ok (.istore_n 0, 1) := by decide +kernel
theorem dJ6_numberOfTrailingZeros_0f7a4_8 : decode cJ6_numberOfTrailingZeros_0f7a4 8 = .ok (.iload_n 0, 1) := by decide +kernel
theorem dJ6_numberOfTrailingZeros_0f7a4_9 : decode cJ6_numberOfTrailingZeros_0f7a4 9 = .ok (.ifCond .gt 8, 3) := by decide +kernel
theorem dJ6_numberOfTrailingZeros_0f7a4_12 : decode cJ6_numberOfTrailingZeros_0f7a4 12 = .ok (.iload_n 0, 1) := by decide +kernel
theorem dJ6_numberOfTrailingZeros_0f7a4_13 : decode cJ6_numberOfTrailingZeros_0f7a4 13 = .ok (.bipush 32, 2) := by decide +kernel
theorem dJ6_numberOfTrailingZeros_0f7a4_15 : decode cJ6_numberOfTrailingZeros_0f7a4 15 = .ok (.iand, 1) := by decide +kernel
theorem dJ6_numberOfTrailingZeros_0f7a4_16 : decode cJ6_numberOfTrailingZeros_0f7a4 16 = .ok (.ireturn, 1) := by decide +kernel
theorem dJ6_numberOfTrailingZeros_0f7a4_17 : decode cJ6_numberOfTrailingZeros_0f7a4 17 = .ok (.iconst 1, 1) := by decide +kernel
theorem dJ6_numberOfTrailingZeros_0f7a4_18 : decode cJ6_numberOfTrailingZeros_0f7a4 18 = .ok (.istore_n 1, 1) := by decide +kernel
theorem dJ6_numberOfTrailingZeros_0f7a4_19 : decode cJ6_numberOfTrailingZeros_0f7a4 19 = .ok (.iload_n 0, 1) := by decide +kernel
theorem dJ6_numberOfTrailingZeros_0f7a4_20 : decode cJ6_numberOfTrailingZeros_0f7a4 20 = .ok (.ldc_w 264, 3) := by decide +kernel
theorem dJ6_numberOfTrailingZeros_0f7a4_23 : decode cJ6_numberOfTrailingZeros_0f7a4 23 = .ok (.if_icmp .le 11, 3) := by decide +kernel
theorem dJ6_numberOfTrailingZeros_0f7a4_34 : decode cJ6_numberOfTrailingZeros_0f7a4 34 = .ok (.iload_n 0, 1) := by decide +kernel
theorem dJ6_numberOfTrailingZeros_0f7a4_35 : decode cJ6_numberOfTrailingZeros_0f7a4 35 = .ok (.sipush 256, 3) := by decide +kernel
theorem dJ6_numberOfTrailingZeros_0f7a4_38 : decode cJ6_numberOfTrailingZeros_0f7a4 38 = .ok (.if_icmp .le 11, 3) := by decide +kernel
theorem dJ6_numberOfTrailingZeros_0f7a4_41 : decode cJ6_numberOfTrailingZeros_0f7a4 41 = .ok (.iinc 1 8, 3) := by decide +kernel
theorem dJ6_numberOfTrailingZeros_0f7a4_44 : decode cJ6_numberOfTrailingZeros_0f7a4 44 = .ok (.iload_n 0, 1) := by decide +kernel
theorem dJ6_numberOfTrailingZeros_0f7a4_45 : decode cJ6_numberOfTrailingZeros_0f7a4 45 = .ok (.bipush 8, 2) := by decide +kernel
theorem dJ6_numberOfTrailingZeros_0f7a4_47 : decode cJ6_numberOfTrailingZeros_0f7a4 47 = .ok (.iushr, 1) := by decide +kernel
theorem dJ6_numberOfTrailingZeros_0f7a4_48 : decode cJ6_numberOfTrailingZeros_0f7a4 48 = .ok (.istore_n 0, 1) := by decide +kernel
theorem dJ6_numberOfTrailingZeros_0f7a4_49 : decode cJ6_numberOfTrailingZeros_0f7a4 49 = .ok (.iload_n 0, 1) := by decide +kernel
theorem dJ6_numberOfTrailingZeros_0f7a4_50 : decode cJ6_numberOfTrailingZeros_0f7a4 50 = .ok (.bipush 16, 2) := by decide +kernel
theorem dJ6_numberOfTrailingZeros_0f7a4_52 : decode cJ6_numberOfTrailingZeros_0f7a4 52 = .ok (.if_icmp .le 10, 3) := by decide +kernel
theorem dJ6_numberOfTrailingZeros_0f7a4_55 : decode cJ6_numberOfTrailingZeros_0f7a4 55 = .ok (.iinc 1 4, 3) := by decide +kernel
theorem dJ6_numberOfTrailingZeros_0f7a4_58 : decode cJ6_numberOfTrailingZeros_0f7a4 58 = .ok (.iload_n 0, 1) := by decide +kernel
theorem dJ6_numberOfTrailingZeros_0f7a4_59 : decode cJ6_numberOfTrailingZeros_0f7a4 59 = .ok (.iconst 4, 1) := by decide +kernel
theorem dJ6_numberOfTrailingZeros_0f7a4_60 : decode cJ6_numberOfTrailingZeros_0f7a4 60 = .ok (.iushr, 1) := by decide +kernel
theorem dJ6_numberOfTrailingZeros_0f7a4_61 : decode cJ6_numberOfTrailingZeros_0f7a4 61 = .ok (.istore_n 0, 1) := by decide +kernel
theorem dJ6_numberOfTrailingZeros_0f7a4_62 : decode cJ6_numberOfTrailingZeros_0f7a4 62 = .ok (.iload_n 0, 1) := by decide +kernel
theorem dJ6_numberOfTrailingZeros_0f7a4_63 : decode cJ6_numberOfTrailingZeros_0f7a4 63 = .ok (.iconst 4, 1) := by decide +kernel
theorem dJ6_numberOfTrailingZeros_0f7a4_64 : decode cJ6_numberOfTrailingZeros_0f7a4 64 = .ok (.if_icmp .le 10, 3) := by decide +kernel
theorem dJ6_numberOfTrailingZeros_0f7a4_67 : decode cJ6_numberOfTrailingZeros_0f7a4 67 = .ok (.iinc 1 2, 3) := by decide +kernel
theorem dJ6_numberOfTrailingZeros_0f7a4_70 : decode cJ6_numberOfTrailingZeros_0f7a4 70 = .ok (.iload_n 0, 1) := by decide +kernel
theorem dJ6_numberOfTrailingZeros_0f7a4_71 : decode cJ6_numberOfTrailingZeros_0f7a4 71 = .ok (.iconst 2, 1) := by decide +kernel
theorem dJ6_numberOfTrailingZeros_0f7a4_72 : decode cJ6_numberOfTrailingZeros_0f7a4 72 = .ok (.iushr, 1) := by decide +kernel
theorem dJ6_numberOfTrailingZeros_0f7a4_73 : decode cJ6_numberOfTrailingZeros_0f7a4 73 = .ok (.istore_n 0, 1) := by decide +kernel
theorem dJ6_numberOfTrailingZeros_0f7a4_74 : decode cJ6_numberOfTrailingZeros_0f7a4 74 = .ok (.iload_n 1, 1) := by decide +kernel
theorem dJ6_numberOfTrailingZeros_0f7a4_75 : decode cJ6_numberOfTrailingZeros_0f7a4 75 = .ok (.iload_n 0, 1) := by decide +kernel
theorem dJ6_numberOfTrailingZeros_0f7a4_76 : decode cJ6_numberOfTrailingZeros_0f7a4 76 = .ok (.iconst 1, 1) := by decide +kernel
theorem dJ6_numberOfTrailingZeros_0f7a4_77 : decode cJ6_numberOfTrailingZeros_0f7a4 77 = .ok (.iushr, 1) := by decide +kernel
theorem dJ6_numberOfTrailingZeros_0f7a4_78 : decode cJ6_numberOfTrailingZeros_0f7a4 78 = .ok (.iadd, 1) := by decide +kernel
theorem dJ6_numberOfTrailingZeros_0f7a4_79 : decode cJ6_numberOfTrailingZeros_0f7a4 79 = .ok (.ireturn, 1) := by decide +kernel
theorem dX5_clear_0 : decode cX5_clear 0 = .ok (.aload_n 0, 1) := by decide +kernel
theorem dX5_clear_1 : decode cX5_clear 1 = .ok (.iconst 4, 1) := by decide +kernel
theorem dX5_clear_2 : decode cX5_clear 2 = .ok (.putfield 38, 3) := by decide +kernel
theorem dX5_clear_5 : decode cX5_clear 5 = .ok (.aload_n 0, 1) := by decide +kernel
theorem dX5_clear_6 : decode cX5_clear 6 = .ok (.iconst 4, 1) := by decide +kernel
theorem dX5_clear_7 : decode cX5_clear 7 = .ok (.putfield 42, 3) := by decide +kernel
theorem dX5_clear_10 : decode cX5_clear 10 = .ok (.aload_n 0, 1) := by decide +kernel
theorem dX5_clear_11 : decode cX5_clear 11 = .ok (.iconst (-1), 1) := by decide +kernel
theorem dX5_clear_12 : decode cX5_clear 12 = .ok (.putfield 45, 3) := by decide +kernel
theorem dX5_clear_15 : decode cX5_clear 15 = .ok (.aload_n 0, 1) := by decide +kernel
theorem dX5_clear_16 : decode cX5_clear 16 = .ok (.iconst 0, 1) := by decide +kernel
theorem dX5_clear_17 : decode cX5_clear 17 = .ok (.putfield 48, 3) := by decide +kernel
theorem dX5_clear_20 : decode cX5_clear 20 = .ok (.aload_n 0, 1) := by decide +kernel
theorem dX5_clear_21 : decode cX5_clear 21 = .ok (.iconst 0, 1) := by decide +kernel
theorem dX5_clear_22 : decode cX5_clear 22 = .ok (.putfield 51, 3) := by decide +kernel
theorem dX5_clear_25 : decode cX5_clear 25 = .ok (.return_, 1) := by decide +kernel
theorem dX5_listHands_0 : decode cX5_listHands 0 = .ok (.aload_n 0, 1) := by decide +kernel
theorem dX5_listHands_1 : decode cX5_listHands 1 = .ok (.iconst 0, 1) := by decide +kernel
theorem dX5_listHands_2 : decode cX5_listHands 2 = .ok (.putfield 63, 3) := by decide +kernel
theorem dX5_listHands_5 : decode cX5_listHands 5 = .ok (.iconst 1, 1) := by decide +kernel
theorem dX5_listHands_6 : decode cX5_listHands 6 = .ok (.aload_n 0, 1) := by decide +kernel
theorem dX5_listHands_7 : decode cX5_listHands 7 = .ok (.getfield 57, 3) := by decide +kernel
theorem dX5_listHands_10 : decode cX5_listHands 10 = .ok (.ishl, 1) := by decide +kernel
theorem dX5_listHands_11 : decode cX5_listHands 11 = .ok (.iconst 1, 1) := by decide +kernel
theorem dX5_listHands_12 : decode cX5_listHands 12 = .ok (.isub, 1) := by decide +kernel
theorem dX5_listHands_13 : decode cX5_listHands 13 = .ok (.istore_n 1, 1) := by decide +kernel
theorem dX5_listHands_14 : decode cX5_listHands 14 = .ok (.iconst 0, 1) := by decide +kernel
theorem dX5_listHands_15 : decode cX5_listHands 15 = .ok (.istore_n 2, 1) := by decide +kernel
theorem dX5_listHands_16 : decode cX5_listHands 16 = .ok (.iload_n 2, 1) := by decide +kernel
theorem dX5_listHands_17 : decode cX5_listHands 17 = .ok (.aload_n 0, 1) := by decide +kernel
theorem dX5_listHands_18 : decode cX5_listHands 18 = .ok (.getfield 35, 3) := by decide +kernel
theorem dX5_listHands_21 : decode cX5_listHands 21 = .ok (.arraylength, 1) := by decide +kernel
theorem dX5_listHands_22 : decode cX5_listHands 22 = .ok (.if_icmp .ge 61, 3) := by decide +kernel
theorem dX5_listHands_25 : decode cX5_listHands 25 = .ok (.iload_n 1, 1) := by decide +kernel
theorem dX5_listHands_26 : decode cX5_listHands 26 = .ok (.iconst 1, 1) := by decide +kernel
theorem dX5_listHands_27 : decode cX5_listHands 27 = .ok (.aload_n 0, 1) := by decide +kernel
theorem dX5_listHands_28 : decode cX5_listHands 28 = .ok (.getfield 54, 3) := by decide +kernel
theorem dX5_listHands_31 : decode cX5_listHands 31 = .ok (.ishl, 1) := by decide +kernel
theorem dX5_listHands_32 : decode cX5_listHands 32 = .ok (.if_icmp .ge 51, 3) := by decide +kernel
theorem dX5_listHands_35 : decode cX5_listHands 35 = .ok (.aload_n 0, 1) := by decide +kernel
theorem dX5_listHands_36 : decode cX5_listHands 36 = .ok (.getfield 35, 3) := by decide +kernel
theorem dX5_listHands_39 : decode cX5_listHands 39 = .ok (.iload_n 2, 1) := by decide +kernel
theorem dX5_listHands_40 : decode cX5_listHands 40 = .ok (.iload_n 1, 1) := by decide +kernel
theorem dX5_listHands_41 : decode cX5_listHands 41 = .ok (.iastore, 1) := by decide +kernel
theorem dX5_listHands_42 : decode cX5_listHands 42 = .ok (.aload_n 0, 1) := by decide +kernel
theorem dX5_listHands_43 : decode cX5_listHands 43 = .ok (.dup, 1) := by decide +kernel
theorem dX5_listHands_44 : decode cX5_listHands 44 = .ok (.getfield 63, 3) := by decide +kernel
theorem dX5_listHands_47 : decode cX5_listHands 47 = .ok (.iconst 1, 1) := by decide +kernel
theorem dX5_listHands_48 : decode cX5_listHands 48 = .ok (.iadd, 1) := by decide +kernel
theorem dX5_listHands_49 : decode cX5_listHands 49 = .ok (.putfield 63, 3) := by decide +kernel
theorem dX5_listHands_52 : decode cX5_listHands 52 = .ok (.iload_n 1, 1) := by decide +kernel
theorem dX5_listHands_53 : decode cX5_listHands 53 = .ok (.iload_n 1, 1) := by decide +kernel
theorem dX5_listHands_54 : decode cX5_listHands 54 = .ok (.ineg, 1) := by decide +kernel
theorem dX5_listHands_55 : decode cX5_listHands 55 = .ok (.iand, 1) := by decide +kernel
theorem dX5_listHands_56 : decode cX5_listHands 56 = .ok (.istore_n 3, 1) := by decide +kernel
theorem dX5_listHands_57 : decode cX5_listHands 57 = .ok (.iload_n 1, 1) := by decide +kernel
theorem dX5_listHands_58 : decode cX5_listHands 58 = .ok (.iload_n 3, 1) := by decide +kernel
theorem dX5_listHands_59 : decode cX5_listHands 59 = .ok (.iadd, 1) := by decide +kernel
theorem dX5_listHands_60 : decode cX5_listHands 60 = .ok (.istore 4, 2) := by decide +kernel
theorem dX5_listHands_62 : decode cX5_listHands 62 = .ok (.iload 4, 2) := by decide +kernel
theorem dX5_listHands_64 : decode cX5_listHands 64 = .ok (.iload_n 1, 1) := by decide +kernel
theorem dX5_listHands_65 : decode cX5_listHands 65 = .ok (.iload 4, 2) := by decide +kernel
theorem dX5_listHands_67 : decode cX5_listHands 67 = .ok (.ixor, 1) := by decide +kernel
theorem dX5_listHands_68 : decode cX5_listHands 68 = .ok (.iconst 2, 1) := by decide +kernel
theorem dX5_listHands_69 : decode cX5_listHands 69 = .ok (.iload_n 3, 1) := by decide +kernel
theorem dX5_listHands_70 : decode cX5_listHands 70 = .ok (.invokestatic 66, 3) := by decide +kernel
theorem dX5_listHands_73 : decode cX5_listHands 73 = .ok (.iadd, 1) := by decide +kernel
theorem dX5_listHands_74 : decode cX5_listHands 74 = .ok (.iushr, 1) := by decide +kernel
theorem dX5_listHands_75 : decode cX5_listHands 75 = .ok (.ior, 1) := by decide +kernel
theorem dX5_listHands_76 : decode cX5_listHands 76 = .ok (.istore_n 1, 1) := by decide +kernel
theorem dX5_listHands_77 : decode cX5_listHands 77 = .ok (.iinc 2 1, 3) := by decide +kernel
theorem dX5_listHands_80 : decode cX5_listHands 80 = .ok (.goto (-64), 3) := by decide +kernel
theorem dX5_listHands_83 : decode cX5_listHands 83 = .ok (.return_, 1) := by decide +kernel
theorem dX5_settle_0 : decode cX5_settle 0 = .ok (.aload_n 0, 1) := by decide +kernel
theorem dX5_settle_1 : decode cX5_settle 1 = .ok (.aload_n 0, 1) := by decide +kernel
theorem dX5_settle_2 : decode cX5_settle 2 = .ok (.getfield 38, 3) := by decide +kernel
theorem dX5_settle_5 : decode cX5_settle 5 = .ok (.aload_n 0, 1) := by decide +kernel
theorem dX5_settle_6 : decode cX5_settle 6 = .ok (.getfield 42, 3) := by decide +kernel
theorem dX5_settle_9 : decode cX5_settle 9 = .ok (.imul, 1) := by decide +kernel
theorem dX5_settle_10 : decode cX5_settle 10 = .ok (.putfield 54, 3) := by decide +kernel
theorem dX5_settle_13 : decode cX5_settle 13 = .ok (.aload_n 0, 1) := by decide +kernel
theorem dX5_settle_14 : decode cX5_settle 14 = .ok (.aload_n 0, 1) := by decide +kernel
theorem dX5_settle_15 : decode cX5_settle 15 = .ok (.getfield 54, 3) := by decide +kernel
theorem dX5_settle_18 : decode cX5_settle 18 = .ok (.iconst 4, 1) := by decide +kernel
theorem dX5_settle_19 : decode cX5_settle 19 = .ok (.idiv, 1) := by decide +kernel
theorem dX5_settle_20 : decode cX5_settle 20 = .ok (.putfield 57, 3) := by decide +kernel
theorem dX5_settle_23 : decode cX5_settle 23 = .ok (.aload_n 0, 1) := by decide +kernel
theorem dX5_settle_24 : decode cX5_settle 24 = .ok (.getfield 45, 3) := by decide +kernel
theorem dX5_settle_27 : decode cX5_settle 27 = .ok (.aload_n 0, 1) := by decide +kernel
theorem dX5_settle_28 : decode cX5_settle 28 = .ok (.getfield 38, 3) := by decide +kernel
theorem dX5_settle_31 : decode cX5_settle 31 = .ok (.if_icmp .lt 8, 3) := by decide +kernel
theorem dX5_settle_39 : decode cX5_settle 39 = .ok (.iconst 0, 1) := by decide +kernel
theorem dX5_settle_40 : decode cX5_settle 40 = .ok (.istore_n 1, 1) := by decide +kernel
theorem dX5_settle_41 : decode cX5_settle 41 = .ok (.iload_n 1, 1) := by decide +kernel
theorem dX5_settle_42 : decode cX5_settle 42 = .ok (.aload_n 0, 1) := by decide +kernel
theorem dX5_settle_43 : decode cX5_settle 43 = .ok (.getfield 29, 3) := by decide +kernel
theorem dX5_settle_46 : decode cX5_settle 46 = .ok (.arraylength, 1) := by decide +kernel
theorem dX5_settle_47 : decode cX5_settle 47 = .ok (.if_icmp .ge 42, 3) := by decide +kernel
theorem dX5_settle_50 : decode cX5_settle 50 = .ok (.aload_n 0, 1) := by decide +kernel
theorem dX5_settle_51 : decode cX5_settle 51 = .ok (.getfield 29, 3) := by decide +kernel
theorem dX5_settle_54 : decode cX5_settle 54 = .ok (.iload_n 1, 1) := by decide +kernel
theorem dX5_settle_55 : decode cX5_settle 55 = .ok (.iload_n 1, 1) := by decide +kernel
theorem dX5_settle_56 : decode cX5_settle 56 = .ok (.aload_n 0, 1) := by decide +kernel
theorem dX5_settle_57 : decode cX5_settle 57 = .ok (.getfield 38, 3) := by decide +kernel
theorem dX5_settle_60 : decode cX5_settle 60 = .ok (.if_icmp .ge 21, 3) := by decide +kernel
theorem dX5_settle_63 : decode cX5_settle 63 = .ok (.iconst 1, 1) := by decide +kernel
theorem dX5_settle_64 : decode cX5_settle 64 = .ok (.aload_n 0, 1) := by decide +kernel
theorem dX5_settle_65 : decode cX5_settle 65 = .ok (.getfield 42, 3) := by decide +kernel
theorem dX5_settle_68 : decode cX5_settle 68 = .ok (.ishl, 1) := by decide +kernel
theorem dX5_settle_69 : decode cX5_settle 69 = .ok (.iconst 1, 1) := by decide +kernel
theorem dX5_settle_70 : decode cX5_settle 70 = .ok (.isub, 1) := by decide +kernel
theorem dX5_settle_71 : decode cX5_settle 71 = .ok (.iload_n 1, 1) := by decide +kernel
theorem dX5_settle_72 : decode cX5_settle 72 = .ok (.aload_n 0, 1) := by decide +kernel
theorem dX5_settle_73 : decode cX5_settle 73 = .ok (.getfield 42, 3) := by decide +kernel
theorem dX5_settle_76 : decode cX5_settle 76 = .ok (.imul, 1) := by decide +kernel
theorem dX5_settle_77 : decode cX5_settle 77 = .ok (.ishl, 1) := by decide +kernel
theorem dX5_settle_78 : decode cX5_settle 78 = .ok (.goto 4, 3) := by decide +kernel
theorem dX5_settle_82 : decode cX5_settle 82 = .ok (.iastore, 1) := by decide +kernel
theorem dX5_settle_83 : decode cX5_settle 83 = .ok (.iinc 1 1, 3) := by decide +kernel
theorem dX5_settle_86 : decode cX5_settle 86 = .ok (.goto (-45), 3) := by decide +kernel
theorem dX5_settle_89 : decode cX5_settle 89 = .ok (.iconst 0, 1) := by decide +kernel
theorem dX5_settle_90 : decode cX5_settle 90 = .ok (.istore_n 1, 1) := by decide +kernel
theorem dX5_settle_91 : decode cX5_settle 91 = .ok (.iload_n 1, 1) := by decide +kernel
theorem dX5_settle_92 : decode cX5_settle 92 = .ok (.aload_n 0, 1) := by decide +kernel
theorem dX5_settle_93 : decode cX5_settle 93 = .ok (.getfield 32, 3) := by decide +kernel
theorem dX5_settle_96 : decode cX5_settle 96 = .ok (.arraylength, 1) := by decide +kernel
theorem dX5_settle_97 : decode cX5_settle 97 = .ok (.if_icmp .ge 40, 3) := by decide +kernel
theorem dX5_settle_100 : decode cX5_settle 100 = .ok (.aload_n 0, 1) := by decide +kernel
theorem dX5_settle_101 : decode cX5_settle 101 = .ok (.getfield 32, 3) := by decide +kernel
theorem dX5_settle_104 : decode cX5_settle 104 = .ok (.iload_n 1, 1) := by decide +kernel
theorem dX5_settle_105 : decode cX5_settle 105 = .ok (.iload_n 1, 1) := by decide +kernel
theorem dX5_settle_106 : decode cX5_settle 106 = .ok (.aload_n 0, 1) := by decide +kernel
theorem dX5_settle_107 : decode cX5_settle 107 = .ok (.getfield 54, 3) := by decide +kernel
theorem dX5_settle_110 : decode cX5_settle 110 = .ok (.if_icmp .ge 19, 3) := by decide +kernel
theorem dX5_settle_113 : decode cX5_settle 113 = .ok (.aload_n 0, 1) := by decide +kernel
theorem dX5_settle_114 : decode cX5_settle 114 = .ok (.getfield 42, 3) := by decide +kernel
theorem dX5_settle_117 : decode cX5_settle 117 = .ok (.ifCond .le 12, 3) := by decide +kernel
theorem dX5_settle_120 : decode cX5_settle 120 = .ok (.iload_n 1, 1) := by decide +kernel
theorem dX5_settle_121 : decode cX5_settle 121 = .ok (.aload_n 0, 1) := by decide +kernel
theorem dX5_settle_122 : decode cX5_settle 122 = .ok (.getfield 42, 3) := by decide +kernel
theorem dX5_settle_125 : decode cX5_settle 125 = .ok (.idiv, 1) := by decide +kernel
theorem dX5_settle_126 : decode cX5_settle 126 = .ok (.goto 4, 3) := by decide +kernel
theorem dX5_settle_130 : decode cX5_settle 130 = .ok (.iastore, 1) := by decide +kernel
theorem dX5_settle_131 : decode cX5_settle 131 = .ok (.iinc 1 1, 3) := by decide +kernel
theorem dX5_settle_134 : decode cX5_settle 134 = .ok (.goto (-43), 3) := by decide +kernel
theorem dX5_settle_137 : decode cX5_settle 137 = .ok (.aload_n 0, 1) := by decide +kernel
theorem dX5_settle_138 : decode cX5_settle 138 = .ok (.invokevirtual 60, 3) := by decide +kernel
theorem dX5_settle_141 : decode cX5_settle 141 = .ok (.return_, 1) := by decide +kernel
