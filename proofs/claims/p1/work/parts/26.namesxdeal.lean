/-! names -/
abbrev cJ6_bitCount_0f7a4 : ByteArray := prog_15_method_49_code
def yJ6_bitCount_0f7a4 : MethodName := ⟨"java/lang/Integer", "bitCount", "(I)I"⟩
abbrev cX11_deal : ByteArray := prog_1_method_8_code
def yX11_deal : MethodName := ⟨RX11, "deal", "(I)Z"⟩
abbrev cX11_hands : ByteArray := prog_1_method_9_code
def yX11_hands : MethodName := ⟨RX11, "hands", "(III)Z"⟩
abbrev cX11_isHand : ByteArray := prog_1_method_10_code
def yX11_isHand : MethodName := ⟨RX11, "isHand", "(I)Z"⟩
abbrev cX3_begin : ByteArray := prog_5_method_3_code
def yX3_begin : MethodName := ⟨RX3, "begin", "(IIII)V"⟩
abbrev cX3_dealByLots : ByteArray := prog_5_method_5_code
def yX3_dealByLots : MethodName := ⟨RX3, "dealByLots", "(I)V"⟩
abbrev cX3_leadBy : ByteArray := prog_5_method_4_code
def yX3_leadBy : MethodName := ⟨RX3, "leadBy", "(I)V"⟩
abbrev cX3_lot : ByteArray := prog_5_method_7_code
def yX3_lot : MethodName := ⟨RX3, "lot", "(III)I"⟩
abbrev cX3_mixed : ByteArray := prog_5_method_8_code
def yX3_mixed : MethodName := ⟨RX3, "mixed", "(II)I"⟩
abbrev cX3_row : ByteArray := prog_5_method_6_code
def yX3_row : MethodName := ⟨RX3, "row", "(I)I"⟩
abbrev cX5_allCards : ByteArray := prog_7_method_5_code
def yX5_allCards : MethodName := ⟨RX5, "allCards", "()I"⟩
theorem kw_21 : Cond.selects "SignalTable$Game" yX3_row yX3_row ∈ lwg := wu_mem (i := 21) (by decide +kernel) rfl
theorem kw_22 : Cond.selects "SignalTable" yX11_isHand yX11_isHand ∈ lwg := wu_mem (i := 22) (by decide +kernel) rfl
theorem kw_223 : Cond.fieldLink "SignalTable$Game" 74 "SignalTable$Laws" "cards" "I" ∈ lwg := wu_mem (i := 223) (by decide +kernel) rfl
theorem kw_228 : Cond.fieldLink "SignalTable$Game" 90 "SignalTable$Laws" "handSize" "I" ∈ lwg := wu_mem (i := 228) (by decide +kernel) rfl
theorem kw_432 : Cond.fieldLink "SignalTable$Game" 71 "SignalTable$Game" "first" "I" ∈ lwg := wu_mem (i := 432) (by decide +kernel) rfl
theorem kw_908 : Cond.methodLink "SignalTable" 133 yX3_dealByLots ∈ lwg := wu_mem (i := 908) (by decide +kernel) rfl
theorem kw_909 : Cond.instanceMethod yX3_dealByLots ∈ lwg := wu_mem (i := 909) (by decide +kernel) rfl
theorem kw_910 : Cond.selects "SignalTable$Game" yX3_dealByLots yX3_dealByLots ∈ lwg := wu_mem (i := 910) (by decide +kernel) rfl
theorem kw_911 : Cond.code yX3_dealByLots cX3_dealByLots 5 none ∈ lwg := wu_mem (i := 911) (by decide +kernel) rfl
theorem kw_912 : Cond.methodLink "SignalTable$Game" 78 yX3_lot ∈ lwg := wu_mem (i := 912) (by decide +kernel) rfl
theorem kw_913 : Cond.static yX3_lot ∈ lwg := wu_mem (i := 913) (by decide +kernel) rfl
theorem kw_914 : Cond.code yX3_lot cX3_lot 4 (some .int) ∈ lwg := wu_mem (i := 914) (by decide +kernel) rfl
theorem kw_915 : Cond.methodLink "SignalTable$Game" 93 yX3_mixed ∈ lwg := wu_mem (i := 915) (by decide +kernel) rfl
theorem kw_916 : Cond.static yX3_mixed ∈ lwg := wu_mem (i := 916) (by decide +kernel) rfl
theorem kw_917 : Cond.code yX3_mixed cX3_mixed 3 (some .int) ∈ lwg := wu_mem (i := 917) (by decide +kernel) rfl
theorem kw_918 : Cond.constant "SignalTable$Game" 97 1103515245 ∈ lwg := wu_mem (i := 918) (by decide +kernel) rfl
theorem kw_919 : Cond.methodLink "SignalTable$Game" 82 yX3_row ∈ lwg := wu_mem (i := 919) (by decide +kernel) rfl
theorem kw_921 : Cond.instanceMethod yX3_row ∈ lwg := wu_mem (i := 921) (by decide +kernel) rfl
theorem kw_922 : Cond.code yX3_row cX3_row 4 (some .int) ∈ lwg := wu_mem (i := 922) (by decide +kernel) rfl
theorem kw_923 : Cond.methodLink "SignalTable$Game" 86 yX3_begin ∈ lwg := wu_mem (i := 923) (by decide +kernel) rfl
theorem kw_924 : Cond.instanceMethod yX3_begin ∈ lwg := wu_mem (i := 924) (by decide +kernel) rfl
theorem kw_925 : Cond.selects "SignalTable$Game" yX3_begin yX3_begin ∈ lwg := wu_mem (i := 925) (by decide +kernel) rfl
theorem kw_926 : Cond.code yX3_begin cX3_begin 6 none ∈ lwg := wu_mem (i := 926) (by decide +kernel) rfl
theorem kw_927 : Cond.methodLink "SignalTable$Game" 67 yX3_leadBy ∈ lwg := wu_mem (i := 927) (by decide +kernel) rfl
theorem kw_928 : Cond.instanceMethod yX3_leadBy ∈ lwg := wu_mem (i := 928) (by decide +kernel) rfl
theorem kw_929 : Cond.selects "SignalTable$Game" yX3_leadBy yX3_leadBy ∈ lwg := wu_mem (i := 929) (by decide +kernel) rfl
theorem kw_930 : Cond.code yX3_leadBy cX3_leadBy 2 none ∈ lwg := wu_mem (i := 930) (by decide +kernel) rfl
theorem kw_935 : Cond.methodLink "SignalTable" 136 yX5_allCards ∈ lwg := wu_mem (i := 935) (by decide +kernel) rfl
theorem kw_936 : Cond.instanceMethod yX5_allCards ∈ lwg := wu_mem (i := 936) (by decide +kernel) rfl
theorem kw_937 : Cond.selects "SignalTable$Laws" yX5_allCards yX5_allCards ∈ lwg := wu_mem (i := 937) (by decide +kernel) rfl
theorem kw_938 : Cond.code yX5_allCards cX5_allCards 1 (some .int) ∈ lwg := wu_mem (i := 938) (by decide +kernel) rfl
theorem kw_939 : Cond.methodLink "SignalTable" 140 yX11_isHand ∈ lwg := wu_mem (i := 939) (by decide +kernel) rfl
theorem kw_941 : Cond.instanceMethod yX11_isHand ∈ lwg := wu_mem (i := 941) (by decide +kernel) rfl
theorem kw_942 : Cond.code yX11_isHand cX11_isHand 2 (some .boolean) ∈ lwg := wu_mem (i := 942) (by decide +kernel) rfl
theorem kw_943 : Cond.methodLink "SignalTable" 148 yJ6_bitCount_0f7a4 ∈ lwg := wu_mem (i := 943) (by decide +kernel) rfl
theorem kw_944 : Cond.static yJ6_bitCount_0f7a4 ∈ lwg := wu_mem (i := 944) (by decide +kernel) rfl
theorem kw_945 : Cond.code yJ6_bitCount_0f7a4 cJ6_bitCount_0f7a4 1 (some .int) ∈ lwg := wu_mem (i := 945) (by decide +kernel) rfl
theorem kw_946 : Cond.constant "java/lang/Integer" 265 1431655765 ∈ lwg := wu_mem (i := 946) (by decide +kernel) rfl
theorem kw_947 : Cond.constant "java/lang/Integer" 266 858993459 ∈ lwg := wu_mem (i := 947) (by decide +kernel) rfl
theorem kw_948 : Cond.constant "java/lang/Integer" 267 252645135 ∈ lwg := wu_mem (i := 948) (by decide +kernel) rfl
theorem kw_949 : Cond.methodLink "SignalTable" 144 yX3_begin ∈ lwg := wu_mem (i := 949) (by decide +kernel) rfl
theorem caS_SignalTable_Game_93 : CaS "SignalTable$Game" 93 yX3_mixed cX3_mixed 3 (some .int) 2 := ⟨kw_915, kw_916, kw_163, kw_917, by decide +kernel, by decide +kernel, by decide +kernel⟩
theorem caV_SignalTable_Game_67 : CaV "SignalTable$Game" RX3 67 yX3_leadBy cX3_leadBy 2 none 1 := ⟨kw_927, kw_928, kw_929, kw_163, kw_930, rfl, by decide +kernel, by decide +kernel, by decide +kernel⟩
theorem caS_SignalTable_Game_78 : CaS "SignalTable$Game" 78 yX3_lot cX3_lot 4 (some .int) 3 := ⟨kw_912, kw_913, kw_163, kw_914, by decide +kernel, by decide +kernel, by decide +kernel⟩
theorem caV_SignalTable_Game_82 : CaV "SignalTable$Game" RX3 82 yX3_row cX3_row 4 (some .int) 1 := ⟨kw_919, kw_921, kw_21, kw_163, kw_922, rfl, by decide +kernel, by decide +kernel, by decide +kernel⟩
theorem caV_SignalTable_Game_86 : CaV "SignalTable$Game" RX3 86 yX3_begin cX3_begin 6 none 4 := ⟨kw_923, kw_924, kw_925, kw_163, kw_926, rfl, by decide +kernel, by decide +kernel, by decide +kernel⟩
theorem caV_SignalTable_133 : CaV "SignalTable" RX3 133 yX3_dealByLots cX3_dealByLots 5 none 1 := ⟨kw_908, kw_909, kw_910, kw_163, kw_911, rfl, by decide +kernel, by decide +kernel, by decide +kernel⟩
theorem caV_SignalTable_136 : CaV "SignalTable" RX5 136 yX5_allCards cX5_allCards 1 (some .int) 0 := ⟨kw_935, kw_936, kw_937, kw_155, kw_938, rfl, by decide +kernel, by decide +kernel, by decide +kernel⟩
theorem caS_SignalTable_148 : CaS "SignalTable" 148 yJ6_bitCount_0f7a4 cJ6_bitCount_0f7a4 1 (some .int) 1 := ⟨kw_943, kw_944, kw_170, kw_945, by decide +kernel, by decide +kernel, by decide +kernel⟩
theorem caV_SignalTable_140 : CaV "SignalTable" RX11 140 yX11_isHand cX11_isHand 2 (some .boolean) 1 := ⟨kw_939, kw_941, kw_22, kw_154, kw_942, rfl, by decide +kernel, by decide +kernel, by decide +kernel⟩
theorem caV_SignalTable_144 : CaV "SignalTable" RX3 144 yX3_begin cX3_begin 6 none 4 := ⟨kw_949, kw_924, kw_925, kw_163, kw_926, rfl, by decide +kernel, by decide +kernel, by decide +kernel⟩
theorem dJ6_bitCount_0f7a4_0 : decode cJ6_bitCount_0f7a4 0 = .ok (.iload_n 0, 1) := by decide +kernel
theorem dJ6_bitCount_0f7a4_1 : decode cJ6_bitCount_0f7a4 1 = .ok (.iload_n 0, 1) := by decide +kernel
theorem dJ6_bitCount_0f7a4_2 : decode cJ6_bitCount_0f7a4 2 = .ok (.iconst 1, 1) := by decide +kernel
theorem dJ6_bitCount_0f7a4_3 : decode cJ6_bitCount_0f7a4 3 = .ok (.iushr, 1) := by decide +kernel
theorem dJ6_bitCount_0f7a4_4 : decode cJ6_bitCount_0f7a4 4 = .ok (.ldc_w 265, 3) := by decide +kernel
theorem dJ6_bitCount_0f7a4_7 : decode cJ6_bitCount_0f7a4 7 = .ok (.iand, 1) := by decide +kernel
theorem dJ6_bitCount_0f7a4_8 : decode cJ6_bitCount_0f7a4 8 = .ok (.isub, 1) := by decide +kernel
theorem dJ6_bitCount_0f7a4_9 : decode cJ6_bitCount_0f7a4 9 = .ok (.istore_n 0, 1) := by decide +kernel
theorem dJ6_bitCount_0f7a4_10 : decode cJ6_bitCount_0f7a4 10 = .ok (.iload_n 0, 1) := by decide +kernel
theorem dJ6_bitCount_0f7a4_11 : decode cJ6_bitCount_0f7a4 11 = .ok (.ldc_w 266, 3) := by decide +kernel
theorem dJ6_bitCount_0f7a4_14 : decode cJ6_bitCount_0f7a4 14 = .ok (.iand, 1) := by decide +kernel
theorem dJ6_bitCount_0f7a4_15 : decode cJ6_bitCount_0f7a4 15 = .ok (.iload_n 0, 1) := by decide +kernel
theorem dJ6_bitCount_0f7a4_16 : decode cJ6_bitCount_0f7a4 16 = .ok (.iconst 2, 1) := by decide +kernel
theorem dJ6_bitCount_0f7a4_17 : decode cJ6_bitCount_0f7a4 17 = .ok (.iushr, 1) := by decide +kernel
theorem dJ6_bitCount_0f7a4_18 : decode cJ6_bitCount_0f7a4 18 = .ok (.ldc_w 266, 3) := by decide +kernel
theorem dJ6_bitCount_0f7a4_21 : decode cJ6_bitCount_0f7a4 21 = .ok (.iand, 1) := by decide +kernel
theorem dJ6_bitCount_0f7a4_22 : decode cJ6_bitCount_0f7a4 22 = .ok (.iadd, 1) := by decide +kernel
theorem dJ6_bitCount_0f7a4_23 : decode cJ6_bitCount_0f7a4 23 = .ok (.istore_n 0, 1) := by decide +kernel
theorem dJ6_bitCount_0f7a4_24 : decode cJ6_bitCount_0f7a4 24 = .ok (.iload_n 0, 1) := by decide +kernel
theorem dJ6_bitCount_0f7a4_25 : decode cJ6_bitCount_0f7a4 25 = .ok (.iload_n 0, 1) := by decide +kernel
theorem dJ6_bitCount_0f7a4_26 : decode cJ6_bitCount_0f7a4 26 = .ok (.iconst 4, 1) := by decide +kernel
theorem dJ6_bitCount_0f7a4_27 : decode cJ6_bitCount_0f7a4 27 = .ok (.iushr, 1) := by decide +kernel
theorem dJ6_bitCount_0f7a4_28 : decode cJ6_bitCount_0f7a4 28 = .ok (.iadd, 1) := by decide +kernel
theorem dJ6_bitCount_0f7a4_29 : decode cJ6_bitCount_0f7a4 29 = .ok (.ldc_w 267, 3) := by decide +kernel
theorem dJ6_bitCount_0f7a4_32 : decode cJ6_bitCount_0f7a4 32 = .ok (.iand, 1) := by decide +kernel
theorem dJ6_bitCount_0f7a4_33 : decode cJ6_bitCount_0f7a4 33 = .ok (.istore_n 0, 1) := by decide +kernel
theorem dJ6_bitCount_0f7a4_34 : decode cJ6_bitCount_0f7a4 34 = .ok (.iload_n 0, 1) := by decide +kernel
theorem dJ6_bitCount_0f7a4_35 : decode cJ6_bitCount_0f7a4 35 = .ok (.iload_n 0, 1) := by decide +kernel
theorem dJ6_bitCount_0f7a4_36 : decode cJ6_bitCount_0f7a4 36 = .ok (.bipush 8, 2) := by decide +kernel
theorem dJ6_bitCount_0f7a4_38 : decode cJ6_bitCount_0f7a4 38 = .ok (.iushr, 1) := by decide +kernel
theorem dJ6_bitCount_0f7a4_39 : decode cJ6_bitCount_0f7a4 39 = .ok (.iadd, 1) := by decide +kernel
theorem dJ6_bitCount_0f7a4_40 : decode cJ6_bitCount_0f7a4 40 = .ok (.istore_n 0, 1) := by decide +kernel
theorem dJ6_bitCount_0f7a4_41 : decode cJ6_bitCount_0f7a4 41 = .ok (.iload_n 0, 1) := by decide +kernel
theorem dJ6_bitCount_0f7a4_42 : decode cJ6_bitCount_0f7a4 42 = .ok (.iload_n 0, 1) := by decide +kernel
theorem dJ6_bitCount_0f7a4_43 : decode cJ6_bitCount_0f7a4 43 = .ok (.bipush 16, 2) := by decide +kernel
theorem dJ6_bitCount_0f7a4_45 : decode cJ6_bitCount_0f7a4 45 = .ok (.iushr, 1) := by decide +kernel
theorem dJ6_bitCount_0f7a4_46 : decode cJ6_bitCount_0f7a4 46 = .ok (.iadd, 1) := by decide +kernel
theorem dJ6_bitCount_0f7a4_47 : decode cJ6_bitCount_0f7a4 47 = .ok (.istore_n 0, 1) := by decide +kernel
theorem dJ6_bitCount_0f7a4_48 : decode cJ6_bitCount_0f7a4 48 = .ok (.iload_n 0, 1) := by decide +kernel
theorem dJ6_bitCount_0f7a4_49 : decode cJ6_bitCount_0f7a4 49 = .ok (.bipush 63, 2) := by decide +kernel
theorem dJ6_bitCount_0f7a4_51 : decode cJ6_bitCount_0f7a4 51 = .ok (.iand, 1) := by decide +kernel
theorem dJ6_bitCount_0f7a4_52 : decode cJ6_bitCount_0f7a4 52 = .ok (.ireturn, 1) := by decide +kernel
theorem dX11_deal_0 : decode cX11_deal 0 = .ok (.aload_n 0, 1) := by decide +kernel
theorem dX11_deal_1 : decode cX11_deal 1 = .ok (.getfield 41, 3) := by decide +kernel
theorem dX11_deal_4 : decode cX11_deal 4 = .ok (.iload_n 1, 1) := by decide +kernel
theorem dX11_deal_5 : decode cX11_deal 5 = .ok (.invokevirtual 133, 3) := by decide +kernel
theorem dX11_deal_8 : decode cX11_deal 8 = .ok (.iconst 1, 1) := by decide +kernel
theorem dX11_deal_9 : decode cX11_deal 9 = .ok (.ireturn, 1) := by decide +kernel
theorem dX11_hands_0 : decode cX11_hands 0 = .ok (.aload_n 0, 1) := by decide +kernel
theorem dX11_hands_1 : decode cX11_hands 1 = .ok (.getfield 16, 3) := by decide +kernel
theorem dX11_hands_4 : decode cX11_hands 4 = .ok (.invokevirtual 136, 3) := by decide +kernel
theorem dX11_hands_7 : decode cX11_hands 7 = .ok (.istore 4, 2) := by decide +kernel
theorem dX11_hands_9 : decode cX11_hands 9 = .ok (.aload_n 0, 1) := by decide +kernel
theorem dX11_hands_10 : decode cX11_hands 10 = .ok (.iload_n 1, 1) := by decide +kernel
theorem dX11_hands_11 : decode cX11_hands 11 = .ok (.invokevirtual 140, 3) := by decide +kernel
theorem dX11_hands_14 : decode cX11_hands 14 = .ok (.ifCond .eq 37, 3) := by decide +kernel
theorem dX11_hands_17 : decode cX11_hands 17 = .ok (.aload_n 0, 1) := by decide +kernel
theorem dX11_hands_18 : decode cX11_hands 18 = .ok (.iload_n 2, 1) := by decide +kernel
theorem dX11_hands_19 : decode cX11_hands 19 = .ok (.invokevirtual 140, 3) := by decide +kernel
theorem dX11_hands_22 : decode cX11_hands 22 = .ok (.ifCond .eq 29, 3) := by decide +kernel
theorem dX11_hands_25 : decode cX11_hands 25 = .ok (.aload_n 0, 1) := by decide +kernel
theorem dX11_hands_26 : decode cX11_hands 26 = .ok (.iload_n 3, 1) := by decide +kernel
theorem dX11_hands_27 : decode cX11_hands 27 = .ok (.invokevirtual 140, 3) := by decide +kernel
theorem dX11_hands_30 : decode cX11_hands 30 = .ok (.ifCond .eq 21, 3) := by decide +kernel
theorem dX11_hands_33 : decode cX11_hands 33 = .ok (.iload_n 1, 1) := by decide +kernel
theorem dX11_hands_34 : decode cX11_hands 34 = .ok (.iload_n 2, 1) := by decide +kernel
theorem dX11_hands_35 : decode cX11_hands 35 = .ok (.iand, 1) := by decide +kernel
theorem dX11_hands_36 : decode cX11_hands 36 = .ok (.ifCond .ne 15, 3) := by decide +kernel
theorem dX11_hands_39 : decode cX11_hands 39 = .ok (.iload_n 1, 1) := by decide +kernel
theorem dX11_hands_40 : decode cX11_hands 40 = .ok (.iload_n 3, 1) := by decide +kernel
theorem dX11_hands_41 : decode cX11_hands 41 = .ok (.iand, 1) := by decide +kernel
theorem dX11_hands_42 : decode cX11_hands 42 = .ok (.ifCond .ne 9, 3) := by decide +kernel
theorem dX11_hands_45 : decode cX11_hands 45 = .ok (.iload_n 2, 1) := by decide +kernel
theorem dX11_hands_46 : decode cX11_hands 46 = .ok (.iload_n 3, 1) := by decide +kernel
theorem dX11_hands_47 : decode cX11_hands 47 = .ok (.iand, 1) := by decide +kernel
theorem dX11_hands_48 : decode cX11_hands 48 = .ok (.ifCond .eq 5, 3) := by decide +kernel
theorem dX11_hands_51 : decode cX11_hands 51 = .ok (.iconst 0, 1) := by decide +kernel
theorem dX11_hands_52 : decode cX11_hands 52 = .ok (.ireturn, 1) := by decide +kernel
theorem dX11_hands_53 : decode cX11_hands 53 = .ok (.aload_n 0, 1) := by decide +kernel
theorem dX11_hands_54 : decode cX11_hands 54 = .ok (.getfield 41, 3) := by decide +kernel
theorem dX11_hands_57 : decode cX11_hands 57 = .ok (.iload_n 1, 1) := by decide +kernel
theorem dX11_hands_58 : decode cX11_hands 58 = .ok (.iload_n 2, 1) := by decide +kernel
theorem dX11_hands_59 : decode cX11_hands 59 = .ok (.iload_n 3, 1) := by decide +kernel
theorem dX11_hands_60 : decode cX11_hands 60 = .ok (.iload 4, 2) := by decide +kernel
theorem dX11_hands_62 : decode cX11_hands 62 = .ok (.iload_n 1, 1) := by decide +kernel
theorem dX11_hands_63 : decode cX11_hands 63 = .ok (.iload_n 2, 1) := by decide +kernel
theorem dX11_hands_64 : decode cX11_hands 64 = .ok (.ior, 1) := by decide +kernel
theorem dX11_hands_65 : decode cX11_hands 65 = .ok (.iload_n 3, 1) := by decide +kernel
theorem dX11_hands_66 : decode cX11_hands 66 = .ok (.ior, 1) := by decide +kernel
theorem dX11_hands_67 : decode cX11_hands 67 = .ok (.iconst (-1), 1) := by decide +kernel
theorem dX11_hands_68 : decode cX11_hands 68 = .ok (.ixor, 1) := by decide +kernel
theorem dX11_hands_69 : decode cX11_hands 69 = .ok (.iand, 1) := by decide +kernel
theorem dX11_hands_70 : decode cX11_hands 70 = .ok (.invokevirtual 144, 3) := by decide +kernel
theorem dX11_hands_73 : decode cX11_hands 73 = .ok (.iconst 1, 1) := by decide +kernel
theorem dX11_hands_74 : decode cX11_hands 74 = .ok (.ireturn, 1) := by decide +kernel
theorem dX11_isHand_0 : decode cX11_isHand 0 = .ok (.iload_n 1, 1) := by decide +kernel
theorem dX11_isHand_1 : decode cX11_isHand 1 = .ok (.aload_n 0, 1) := by decide +kernel
theorem dX11_isHand_2 : decode cX11_isHand 2 = .ok (.getfield 16, 3) := by decide +kernel
theorem dX11_isHand_5 : decode cX11_isHand 5 = .ok (.invokevirtual 136, 3) := by decide +kernel
theorem dX11_isHand_8 : decode cX11_isHand 8 = .ok (.iconst (-1), 1) := by decide +kernel
theorem dX11_isHand_9 : decode cX11_isHand 9 = .ok (.ixor, 1) := by decide +kernel
theorem dX11_isHand_10 : decode cX11_isHand 10 = .ok (.iand, 1) := by decide +kernel
theorem dX11_isHand_11 : decode cX11_isHand 11 = .ok (.ifCond .ne 21, 3) := by decide +kernel
theorem dX11_isHand_14 : decode cX11_isHand 14 = .ok (.iload_n 1, 1) := by decide +kernel
theorem dX11_isHand_15 : decode cX11_isHand 15 = .ok (.invokestatic 148, 3) := by decide +kernel
theorem dX11_isHand_18 : decode cX11_isHand 18 = .ok (.aload_n 0, 1) := by decide +kernel
theorem dX11_isHand_19 : decode cX11_isHand 19 = .ok (.getfield 16, 3) := by decide +kernel
theorem dX11_isHand_22 : decode cX11_isHand 22 = .ok (.getfield 154, 3) := by decide +kernel
theorem dX11_isHand_25 : decode cX11_isHand 25 = .ok (.if_icmp .ne 7, 3) := by decide +kernel
theorem dX11_isHand_28 : decode cX11_isHand 28 = .ok (.iconst 1, 1) := by decide +kernel
theorem dX11_isHand_29 : decode cX11_isHand 29 = .ok (.goto 4, 3) := by decide +kernel
theorem dX11_isHand_32 : decode cX11_isHand 32 = .ok (.iconst 0, 1) := by decide +kernel
theorem dX11_isHand_33 : decode cX11_isHand 33 = .ok (.ireturn, 1) := by decide +kernel
theorem dX3_begin_0 : decode cX3_begin 0 = .ok (.aload_n 0, 1) := by decide +kernel
theorem dX3_begin_1 : decode cX3_begin 1 = .ok (.getfield 9, 3) := by decide +kernel
theorem dX3_begin_4 : decode cX3_begin 4 = .ok (.iconst 0, 1) := by decide +kernel
theorem dX3_begin_5 : decode cX3_begin 5 = .ok (.iload_n 1, 1) := by decide +kernel
theorem dX3_begin_6 : decode cX3_begin 6 = .ok (.iastore, 1) := by decide +kernel
theorem dX3_begin_7 : decode cX3_begin 7 = .ok (.aload_n 0, 1) := by decide +kernel
theorem dX3_begin_8 : decode cX3_begin 8 = .ok (.getfield 9, 3) := by decide +kernel
theorem dX3_begin_11 : decode cX3_begin 11 = .ok (.iconst 1, 1) := by decide +kernel
theorem dX3_begin_12 : decode cX3_begin 12 = .ok (.iload_n 2, 1) := by decide +kernel
theorem dX3_begin_13 : decode cX3_begin 13 = .ok (.iastore, 1) := by decide +kernel
theorem dX3_begin_14 : decode cX3_begin 14 = .ok (.aload_n 0, 1) := by decide +kernel
theorem dX3_begin_15 : decode cX3_begin 15 = .ok (.getfield 9, 3) := by decide +kernel
theorem dX3_begin_18 : decode cX3_begin 18 = .ok (.iconst 2, 1) := by decide +kernel
theorem dX3_begin_19 : decode cX3_begin 19 = .ok (.iload_n 3, 1) := by decide +kernel
theorem dX3_begin_20 : decode cX3_begin 20 = .ok (.iastore, 1) := by decide +kernel
theorem dX3_begin_21 : decode cX3_begin 21 = .ok (.aload_n 0, 1) := by decide +kernel
theorem dX3_begin_22 : decode cX3_begin 22 = .ok (.getfield 9, 3) := by decide +kernel
theorem dX3_begin_25 : decode cX3_begin 25 = .ok (.iconst 3, 1) := by decide +kernel
theorem dX3_begin_26 : decode cX3_begin 26 = .ok (.iload 4, 2) := by decide +kernel
theorem dX3_begin_28 : decode cX3_begin 28 = .ok (.iastore, 1) := by decide +kernel
theorem dX3_begin_29 : decode cX3_begin 29 = .ok (.iconst 0, 1) := by decide +kernel
theorem dX3_begin_30 : decode cX3_begin 30 = .ok (.istore 5, 2) := by decide +kernel
theorem dX3_begin_32 : decode cX3_begin 32 = .ok (.iload 5, 2) := by decide +kernel
theorem dX3_begin_34 : decode cX3_begin 34 = .ok (.iconst 4, 1) := by decide +kernel
theorem dX3_begin_35 : decode cX3_begin 35 = .ok (.if_icmp .ge 23, 3) := by decide +kernel
theorem dX3_begin_38 : decode cX3_begin 38 = .ok (.aload_n 0, 1) := by decide +kernel
theorem dX3_begin_39 : decode cX3_begin 39 = .ok (.getfield 15, 3) := by decide +kernel
theorem dX3_begin_42 : decode cX3_begin 42 = .ok (.iload 5, 2) := by decide +kernel
theorem dX3_begin_44 : decode cX3_begin 44 = .ok (.aload_n 0, 1) := by decide +kernel
theorem dX3_begin_45 : decode cX3_begin 45 = .ok (.getfield 9, 3) := by decide +kernel
theorem dX3_begin_48 : decode cX3_begin 48 = .ok (.iload 5, 2) := by decide +kernel
theorem dX3_begin_50 : decode cX3_begin 50 = .ok (.iaload, 1) := by decide +kernel
theorem dX3_begin_51 : decode cX3_begin 51 = .ok (.iastore, 1) := by decide +kernel
theorem dX3_begin_52 : decode cX3_begin 52 = .ok (.iinc 5 1, 3) := by decide +kernel
theorem dX3_begin_55 : decode cX3_begin 55 = .ok (.goto (-23), 3) := by decide +kernel
theorem dX3_begin_58 : decode cX3_begin 58 = .ok (.aload_n 0, 1) := by decide +kernel
theorem dX3_begin_59 : decode cX3_begin 59 = .ok (.iconst 1, 1) := by decide +kernel
theorem dX3_begin_60 : decode cX3_begin 60 = .ok (.putfield 57, 3) := by decide +kernel
theorem dX3_begin_63 : decode cX3_begin 63 = .ok (.aload_n 0, 1) := by decide +kernel
theorem dX3_begin_64 : decode cX3_begin 64 = .ok (.iconst 0, 1) := by decide +kernel
theorem dX3_begin_65 : decode cX3_begin 65 = .ok (.putfield 61, 3) := by decide +kernel
theorem dX3_begin_68 : decode cX3_begin 68 = .ok (.aload_n 0, 1) := by decide +kernel
theorem dX3_begin_69 : decode cX3_begin 69 = .ok (.iconst 0, 1) := by decide +kernel
theorem dX3_begin_70 : decode cX3_begin 70 = .ok (.invokevirtual 67, 3) := by decide +kernel
theorem dX3_begin_73 : decode cX3_begin 73 = .ok (.return_, 1) := by decide +kernel
theorem dX3_dealByLots_0 : decode cX3_dealByLots 0 = .ok (.iconst 0, 1) := by decide +kernel
theorem dX3_dealByLots_1 : decode cX3_dealByLots 1 = .ok (.istore_n 2, 1) := by decide +kernel
theorem dX3_dealByLots_2 : decode cX3_dealByLots 2 = .ok (.iload_n 2, 1) := by decide +kernel
theorem dX3_dealByLots_3 : decode cX3_dealByLots 3 = .ok (.aload_n 0, 1) := by decide +kernel
theorem dX3_dealByLots_4 : decode cX3_dealByLots 4 = .ok (.getfield 49, 3) := by decide +kernel
theorem dX3_dealByLots_7 : decode cX3_dealByLots 7 = .ok (.getfield 74, 3) := by decide +kernel
theorem dX3_dealByLots_10 : decode cX3_dealByLots 10 = .ok (.if_icmp .ge 16, 3) := by decide +kernel
theorem dX3_dealByLots_13 : decode cX3_dealByLots 13 = .ok (.aload_n 0, 1) := by decide +kernel
theorem dX3_dealByLots_14 : decode cX3_dealByLots 14 = .ok (.getfield 22, 3) := by decide +kernel
theorem dX3_dealByLots_17 : decode cX3_dealByLots 17 = .ok (.iload_n 2, 1) := by decide +kernel
theorem dX3_dealByLots_18 : decode cX3_dealByLots 18 = .ok (.iload_n 2, 1) := by decide +kernel
theorem dX3_dealByLots_19 : decode cX3_dealByLots 19 = .ok (.iastore, 1) := by decide +kernel
theorem dX3_dealByLots_20 : decode cX3_dealByLots 20 = .ok (.iinc 2 1, 3) := by decide +kernel
theorem dX3_dealByLots_23 : decode cX3_dealByLots 23 = .ok (.goto (-21), 3) := by decide +kernel
theorem dX3_dealByLots_26 : decode cX3_dealByLots 26 = .ok (.aload_n 0, 1) := by decide +kernel
theorem dX3_dealByLots_27 : decode cX3_dealByLots 27 = .ok (.getfield 49, 3) := by decide +kernel
theorem dX3_dealByLots_30 : decode cX3_dealByLots 30 = .ok (.getfield 74, 3) := by decide +kernel
theorem dX3_dealByLots_33 : decode cX3_dealByLots 33 = .ok (.iconst 1, 1) := by decide +kernel
theorem dX3_dealByLots_34 : decode cX3_dealByLots 34 = .ok (.isub, 1) := by decide +kernel
theorem dX3_dealByLots_35 : decode cX3_dealByLots 35 = .ok (.istore_n 2, 1) := by decide +kernel
theorem dX3_dealByLots_36 : decode cX3_dealByLots 36 = .ok (.iload_n 2, 1) := by decide +kernel
theorem dX3_dealByLots_37 : decode cX3_dealByLots 37 = .ok (.iconst 1, 1) := by decide +kernel
theorem dX3_dealByLots_38 : decode cX3_dealByLots 38 = .ok (.if_icmp .lt 46, 3) := by decide +kernel
theorem dX3_dealByLots_41 : decode cX3_dealByLots 41 = .ok (.iload_n 2, 1) := by decide +kernel
theorem dX3_dealByLots_42 : decode cX3_dealByLots 42 = .ok (.iconst 1, 1) := by decide +kernel
theorem dX3_dealByLots_43 : decode cX3_dealByLots 43 = .ok (.iadd, 1) := by decide +kernel
theorem dX3_dealByLots_44 : decode cX3_dealByLots 44 = .ok (.iload_n 1, 1) := by decide +kernel
theorem dX3_dealByLots_45 : decode cX3_dealByLots 45 = .ok (.iload_n 2, 1) := by decide +kernel
theorem dX3_dealByLots_46 : decode cX3_dealByLots 46 = .ok (.invokestatic 78, 3) := by decide +kernel
theorem dX3_dealByLots_49 : decode cX3_dealByLots 49 = .ok (.istore_n 3, 1) := by decide +kernel
theorem dX3_dealByLots_50 : decode cX3_dealByLots 50 = .ok (.aload_n 0, 1) := by decide +kernel
theorem dX3_dealByLots_51 : decode cX3_dealByLots 51 = .ok (.getfield 22, 3) := by decide +kernel
theorem dX3_dealByLots_54 : decode cX3_dealByLots 54 = .ok (.iload_n 2, 1) := by decide +kernel
theorem dX3_dealByLots_55 : decode cX3_dealByLots 55 = .ok (.iaload, 1) := by decide +kernel
theorem dX3_dealByLots_56 : decode cX3_dealByLots 56 = .ok (.istore 4, 2) := by decide +kernel
theorem dX3_dealByLots_58 : decode cX3_dealByLots 58 = .ok (.aload_n 0, 1) := by decide +kernel
theorem dX3_dealByLots_59 : decode cX3_dealByLots 59 = .ok (.getfield 22, 3) := by decide +kernel
theorem dX3_dealByLots_62 : decode cX3_dealByLots 62 = .ok (.iload_n 2, 1) := by decide +kernel
theorem dX3_dealByLots_63 : decode cX3_dealByLots 63 = .ok (.aload_n 0, 1) := by decide +kernel
theorem dX3_dealByLots_64 : decode cX3_dealByLots 64 = .ok (.getfield 22, 3) := by decide +kernel
theorem dX3_dealByLots_67 : decode cX3_dealByLots 67 = .ok (.iload_n 3, 1) := by decide +kernel
theorem dX3_dealByLots_68 : decode cX3_dealByLots 68 = .ok (.iaload, 1) := by decide +kernel
theorem dX3_dealByLots_69 : decode cX3_dealByLots 69 = .ok (.iastore, 1) := by decide +kernel
theorem dX3_dealByLots_70 : decode cX3_dealByLots 70 = .ok (.aload_n 0, 1) := by decide +kernel
theorem dX3_dealByLots_71 : decode cX3_dealByLots 71 = .ok (.getfield 22, 3) := by decide +kernel
theorem dX3_dealByLots_74 : decode cX3_dealByLots 74 = .ok (.iload_n 3, 1) := by decide +kernel
theorem dX3_dealByLots_75 : decode cX3_dealByLots 75 = .ok (.iload 4, 2) := by decide +kernel
theorem dX3_dealByLots_77 : decode cX3_dealByLots 77 = .ok (.iastore, 1) := by decide +kernel
theorem dX3_dealByLots_78 : decode cX3_dealByLots 78 = .ok (.iinc 2 (-1), 3) := by decide +kernel
theorem dX3_dealByLots_81 : decode cX3_dealByLots 81 = .ok (.goto (-45), 3) := by decide +kernel
theorem dX3_dealByLots_84 : decode cX3_dealByLots 84 = .ok (.aload_n 0, 1) := by decide +kernel
theorem dX3_dealByLots_85 : decode cX3_dealByLots 85 = .ok (.aload_n 0, 1) := by decide +kernel
theorem dX3_dealByLots_86 : decode cX3_dealByLots 86 = .ok (.iconst 0, 1) := by decide +kernel
theorem dX3_dealByLots_87 : decode cX3_dealByLots 87 = .ok (.invokevirtual 82, 3) := by decide +kernel
theorem dX3_dealByLots_90 : decode cX3_dealByLots 90 = .ok (.aload_n 0, 1) := by decide +kernel
theorem dX3_dealByLots_91 : decode cX3_dealByLots 91 = .ok (.iconst 1, 1) := by decide +kernel
theorem dX3_dealByLots_92 : decode cX3_dealByLots 92 = .ok (.invokevirtual 82, 3) := by decide +kernel
theorem dX3_dealByLots_95 : decode cX3_dealByLots 95 = .ok (.aload_n 0, 1) := by decide +kernel
theorem dX3_dealByLots_96 : decode cX3_dealByLots 96 = .ok (.iconst 2, 1) := by decide +kernel
theorem dX3_dealByLots_97 : decode cX3_dealByLots 97 = .ok (.invokevirtual 82, 3) := by decide +kernel
theorem dX3_dealByLots_100 : decode cX3_dealByLots 100 = .ok (.aload_n 0, 1) := by decide +kernel
theorem dX3_dealByLots_101 : decode cX3_dealByLots 101 = .ok (.iconst 3, 1) := by decide +kernel
theorem dX3_dealByLots_102 : decode cX3_dealByLots 102 = .ok (.invokevirtual 82, 3) := by decide +kernel
theorem dX3_dealByLots_105 : decode cX3_dealByLots 105 = .ok (.invokevirtual 86, 3) := by decide +kernel
theorem dX3_dealByLots_108 : decode cX3_dealByLots 108 = .ok (.return_, 1) := by decide +kernel
theorem dX3_leadBy_0 : decode cX3_leadBy 0 = .ok (.aload_n 0, 1) := by decide +kernel
theorem dX3_leadBy_1 : decode cX3_leadBy 1 = .ok (.iload_n 1, 1) := by decide +kernel
theorem dX3_leadBy_2 : decode cX3_leadBy 2 = .ok (.putfield 71, 3) := by decide +kernel
theorem dX3_leadBy_5 : decode cX3_leadBy 5 = .ok (.aload_n 0, 1) := by decide +kernel
theorem dX3_leadBy_6 : decode cX3_leadBy 6 = .ok (.iload_n 1, 1) := by decide +kernel
theorem dX3_leadBy_7 : decode cX3_leadBy 7 = .ok (.putfield 18, 3) := by decide +kernel
theorem dX3_leadBy_10 : decode cX3_leadBy 10 = .ok (.aload_n 0, 1) := by decide +kernel
theorem dX3_leadBy_11 : decode cX3_leadBy 11 = .ok (.dup, 1) := by decide +kernel
theorem dX3_leadBy_12 : decode cX3_leadBy 12 = .ok (.getfield 64, 3) := by decide +kernel
theorem dX3_leadBy_15 : decode cX3_leadBy 15 = .ok (.iconst 1, 1) := by decide +kernel
theorem dX3_leadBy_16 : decode cX3_leadBy 16 = .ok (.iadd, 1) := by decide +kernel
theorem dX3_leadBy_17 : decode cX3_leadBy 17 = .ok (.putfield 64, 3) := by decide +kernel
theorem dX3_leadBy_20 : decode cX3_leadBy 20 = .ok (.return_, 1) := by decide +kernel
theorem dX3_lot_0 : decode cX3_lot 0 = .ok (.iload_n 1, 1) := by decide +kernel
theorem dX3_lot_1 : decode cX3_lot 1 = .ok (.bipush 20, 2) := by decide +kernel
theorem dX3_lot_3 : decode cX3_lot 3 = .ok (.invokestatic 93, 3) := by decide +kernel
theorem dX3_lot_6 : decode cX3_lot 6 = .ok (.iload_n 2, 1) := by decide +kernel
theorem dX3_lot_7 : decode cX3_lot 7 = .ok (.invokestatic 93, 3) := by decide +kernel
theorem dX3_lot_10 : decode cX3_lot 10 = .ok (.istore_n 3, 1) := by decide +kernel
theorem dX3_lot_11 : decode cX3_lot 11 = .ok (.iload_n 0, 1) := by decide +kernel
theorem dX3_lot_12 : decode cX3_lot 12 = .ok (.ifCond .le 11, 3) := by decide +kernel
theorem dX3_lot_15 : decode cX3_lot 15 = .ok (.iload_n 3, 1) := by decide +kernel
theorem dX3_lot_16 : decode cX3_lot 16 = .ok (.iconst 1, 1) := by decide +kernel
theorem dX3_lot_17 : decode cX3_lot 17 = .ok (.iushr, 1) := by decide +kernel
theorem dX3_lot_18 : decode cX3_lot 18 = .ok (.iload_n 0, 1) := by decide +kernel
theorem dX3_lot_19 : decode cX3_lot 19 = .ok (.irem, 1) := by decide +kernel
theorem dX3_lot_20 : decode cX3_lot 20 = .ok (.goto 4, 3) := by decide +kernel
theorem dX3_lot_24 : decode cX3_lot 24 = .ok (.ireturn, 1) := by decide +kernel
theorem dX3_mixed_0 : decode cX3_mixed 0 = .ok (.iload_n 0, 1) := by decide +kernel
theorem dX3_mixed_1 : decode cX3_mixed 1 = .ok (.iload_n 1, 1) := by decide +kernel
theorem dX3_mixed_2 : decode cX3_mixed 2 = .ok (.ixor, 1) := by decide +kernel
theorem dX3_mixed_3 : decode cX3_mixed 3 = .ok (.ldc 97, 2) := by decide +kernel
theorem dX3_mixed_5 : decode cX3_mixed 5 = .ok (.imul, 1) := by decide +kernel
theorem dX3_mixed_6 : decode cX3_mixed 6 = .ok (.sipush 12345, 3) := by decide +kernel
theorem dX3_mixed_9 : decode cX3_mixed 9 = .ok (.iadd, 1) := by decide +kernel
theorem dX3_mixed_10 : decode cX3_mixed 10 = .ok (.istore_n 2, 1) := by decide +kernel
theorem dX3_mixed_11 : decode cX3_mixed 11 = .ok (.iload_n 2, 1) := by decide +kernel
theorem dX3_mixed_12 : decode cX3_mixed 12 = .ok (.iload_n 2, 1) := by decide +kernel
theorem dX3_mixed_13 : decode cX3_mixed 13 = .ok (.bipush 15, 2) := by decide +kernel
theorem dX3_mixed_15 : decode cX3_mixed 15 = .ok (.iushr, 1) := by decide +kernel
theorem dX3_mixed_16 : decode cX3_mixed 16 = .ok (.ixor, 1) := by decide +kernel
theorem dX3_mixed_17 : decode cX3_mixed 17 = .ok (.ireturn, 1) := by decide +kernel
theorem dX3_row_0 : decode cX3_row 0 = .ok (.iconst 0, 1) := by decide +kernel
theorem dX3_row_1 : decode cX3_row 1 = .ok (.istore_n 2, 1) := by decide +kernel
theorem dX3_row_2 : decode cX3_row 2 = .ok (.iconst 0, 1) := by decide +kernel
theorem dX3_row_3 : decode cX3_row 3 = .ok (.istore_n 3, 1) := by decide +kernel
theorem dX3_row_4 : decode cX3_row 4 = .ok (.iload_n 3, 1) := by decide +kernel
theorem dX3_row_5 : decode cX3_row 5 = .ok (.aload_n 0, 1) := by decide +kernel
theorem dX3_row_6 : decode cX3_row 6 = .ok (.getfield 49, 3) := by decide +kernel
theorem dX3_row_9 : decode cX3_row 9 = .ok (.getfield 90, 3) := by decide +kernel
theorem dX3_row_12 : decode cX3_row 12 = .ok (.if_icmp .ge 30, 3) := by decide +kernel
theorem dX3_row_15 : decode cX3_row 15 = .ok (.iload_n 2, 1) := by decide +kernel
theorem dX3_row_16 : decode cX3_row 16 = .ok (.iconst 1, 1) := by decide +kernel
theorem dX3_row_17 : decode cX3_row 17 = .ok (.aload_n 0, 1) := by decide +kernel
theorem dX3_row_18 : decode cX3_row 18 = .ok (.getfield 22, 3) := by decide +kernel
theorem dX3_row_21 : decode cX3_row 21 = .ok (.iload_n 1, 1) := by decide +kernel
theorem dX3_row_22 : decode cX3_row 22 = .ok (.aload_n 0, 1) := by decide +kernel
theorem dX3_row_23 : decode cX3_row 23 = .ok (.getfield 49, 3) := by decide +kernel
theorem dX3_row_26 : decode cX3_row 26 = .ok (.getfield 90, 3) := by decide +kernel
theorem dX3_row_29 : decode cX3_row 29 = .ok (.imul, 1) := by decide +kernel
theorem dX3_row_30 : decode cX3_row 30 = .ok (.iload_n 3, 1) := by decide +kernel
theorem dX3_row_31 : decode cX3_row 31 = .ok (.iadd, 1) := by decide +kernel
theorem dX3_row_32 : decode cX3_row 32 = .ok (.iaload, 1) := by decide +kernel
theorem dX3_row_33 : decode cX3_row 33 = .ok (.ishl, 1) := by decide +kernel
theorem dX3_row_34 : decode cX3_row 34 = .ok (.ior, 1) := by decide +kernel
theorem dX3_row_35 : decode cX3_row 35 = .ok (.istore_n 2, 1) := by decide +kernel
theorem dX3_row_36 : decode cX3_row 36 = .ok (.iinc 3 1, 3) := by decide +kernel
theorem dX3_row_39 : decode cX3_row 39 = .ok (.goto (-35), 3) := by decide +kernel
theorem dX3_row_42 : decode cX3_row 42 = .ok (.iload_n 2, 1) := by decide +kernel
theorem dX3_row_43 : decode cX3_row 43 = .ok (.ireturn, 1) := by decide +kernel
theorem dX5_allCards_0 : decode cX5_allCards 0 = .ok (.iconst 1, 1) := by decide +kernel
theorem dX5_allCards_1 : decode cX5_allCards 1 = .ok (.aload_n 0, 1) := by decide +kernel
theorem dX5_allCards_2 : decode cX5_allCards 2 = .ok (.getfield 54, 3) := by decide +kernel
theorem dX5_allCards_5 : decode cX5_allCards 5 = .ok (.ishl, 1) := by decide +kernel
theorem dX5_allCards_6 : decode cX5_allCards 6 = .ok (.iconst 1, 1) := by decide +kernel
theorem dX5_allCards_7 : decode cX5_allCards 7 = .ok (.isub, 1) := by decide +kernel
theorem dX5_allCards_8 : decode cX5_allCards 8 = .ok (.ireturn, 1) := by decide +kernel
