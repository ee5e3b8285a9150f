/-! names -/
abbrev cX12_deal : ByteArray := prog_14_method_47_code
def yX12_deal : MethodName := ⟨RX12, "deal", "(I)Z"⟩
abbrev cX12_lot : ByteArray := prog_14_method_46_code
def yX12_lot : MethodName := ⟨RX12, "lot", "(III)I"⟩
abbrev cX12_mixed : ByteArray := prog_14_method_45_code
def yX12_mixed : MethodName := ⟨RX12, "mixed", "(II)I"⟩
abbrev cX12_starts : ByteArray := prog_14_method_44_code
def yX12_starts : MethodName := ⟨RX12, "starts", "()V"⟩
theorem kw_83 : Cond.selects "SignalTableModel" yX12_starts yX12_starts ∈ lwg := wu_mem (i := 83) (by decide +kernel) rfl
theorem kw_1561 : Cond.fieldLink "SignalTableModel" 355 "SignalTableModel" "leader" "I" ∈ lwg := wu_mem (i := 1561) (by decide +kernel) rfl
theorem kw_1910 : Cond.methodLink "SignalTableModel" 362 yX12_lot ∈ lwg := wu_mem (i := 1910) (by decide +kernel) rfl
theorem kw_1911 : Cond.static yX12_lot ∈ lwg := wu_mem (i := 1911) (by decide +kernel) rfl
theorem kw_1912 : Cond.code yX12_lot cX12_lot 3 (some .int) ∈ lwg := wu_mem (i := 1912) (by decide +kernel) rfl
theorem kw_1913 : Cond.methodLink "SignalTableModel" 359 yX12_mixed ∈ lwg := wu_mem (i := 1913) (by decide +kernel) rfl
theorem kw_1914 : Cond.static yX12_mixed ∈ lwg := wu_mem (i := 1914) (by decide +kernel) rfl
theorem kw_1915 : Cond.code yX12_mixed cX12_mixed 3 (some .int) ∈ lwg := wu_mem (i := 1915) (by decide +kernel) rfl
theorem kw_1916 : Cond.constant "SignalTableModel" 358 1103515245 ∈ lwg := wu_mem (i := 1916) (by decide +kernel) rfl
theorem kw_1921 : Cond.methodLink "SignalTableModel" 368 yX12_starts ∈ lwg := wu_mem (i := 1921) (by decide +kernel) rfl
theorem kw_1923 : Cond.instanceMethod yX12_starts ∈ lwg := wu_mem (i := 1923) (by decide +kernel) rfl
theorem kw_1924 : Cond.code yX12_starts cX12_starts 1 none ∈ lwg := wu_mem (i := 1924) (by decide +kernel) rfl
theorem caS_SignalTableModel_359 : CaS "SignalTableModel" 359 yX12_mixed cX12_mixed 3 (some .int) 2 := ⟨kw_1913, kw_1914, kw_171, kw_1915, by decide +kernel, by decide +kernel, by decide +kernel⟩
theorem caS_SignalTableModel_362 : CaS "SignalTableModel" 362 yX12_lot cX12_lot 3 (some .int) 3 := ⟨kw_1910, kw_1911, kw_171, kw_1912, by decide +kernel, by decide +kernel, by decide +kernel⟩
theorem caV_SignalTableModel_368 : CaV "SignalTableModel" RX12 368 yX12_starts cX12_starts 1 none 0 := ⟨kw_1921, kw_1923, kw_83, kw_171, kw_1924, rfl, by decide +kernel, by decide +kernel, by decide +kernel⟩
theorem dX12_deal_0 : decode cX12_deal 0 = .ok (.iconst 0, 1) := by decide +kernel
theorem dX12_deal_1 : decode cX12_deal 1 = .ok (.istore_n 2, 1) := by decide +kernel
theorem dX12_deal_2 : decode cX12_deal 2 = .ok (.iload_n 2, 1) := by decide +kernel
theorem dX12_deal_3 : decode cX12_deal 3 = .ok (.aload_n 0, 1) := by decide +kernel
theorem dX12_deal_4 : decode cX12_deal 4 = .ok (.invokevirtual 351, 3) := by decide +kernel
theorem dX12_deal_7 : decode cX12_deal 7 = .ok (.if_icmp .ge 16, 3) := by decide +kernel
theorem dX12_deal_10 : decode cX12_deal 10 = .ok (.aload_n 0, 1) := by decide +kernel
theorem dX12_deal_11 : decode cX12_deal 11 = .ok (.getfield 110, 3) := by decide +kernel
theorem dX12_deal_14 : decode cX12_deal 14 = .ok (.iload_n 2, 1) := by decide +kernel
theorem dX12_deal_15 : decode cX12_deal 15 = .ok (.iload_n 2, 1) := by decide +kernel
theorem dX12_deal_16 : decode cX12_deal 16 = .ok (.iastore, 1) := by decide +kernel
theorem dX12_deal_17 : decode cX12_deal 17 = .ok (.iinc 2 1, 3) := by decide +kernel
theorem dX12_deal_20 : decode cX12_deal 20 = .ok (.goto (-18), 3) := by decide +kernel
theorem dX12_deal_23 : decode cX12_deal 23 = .ok (.aload_n 0, 1) := by decide +kernel
theorem dX12_deal_24 : decode cX12_deal 24 = .ok (.invokevirtual 351, 3) := by decide +kernel
theorem dX12_deal_27 : decode cX12_deal 27 = .ok (.iconst 1, 1) := by decide +kernel
theorem dX12_deal_28 : decode cX12_deal 28 = .ok (.isub, 1) := by decide +kernel
theorem dX12_deal_29 : decode cX12_deal 29 = .ok (.istore_n 2, 1) := by decide +kernel
theorem dX12_deal_30 : decode cX12_deal 30 = .ok (.iload_n 2, 1) := by decide +kernel
theorem dX12_deal_31 : decode cX12_deal 31 = .ok (.ifCond .le 46, 3) := by decide +kernel
theorem dX12_deal_34 : decode cX12_deal 34 = .ok (.iload_n 1, 1) := by decide +kernel
theorem dX12_deal_35 : decode cX12_deal 35 = .ok (.iload_n 2, 1) := by decide +kernel
theorem dX12_deal_36 : decode cX12_deal 36 = .ok (.iload_n 2, 1) := by decide +kernel
theorem dX12_deal_37 : decode cX12_deal 37 = .ok (.iconst 1, 1) := by decide +kernel
theorem dX12_deal_38 : decode cX12_deal 38 = .ok (.iadd, 1) := by decide +kernel
theorem dX12_deal_39 : decode cX12_deal 39 = .ok (.invokestatic 362, 3) := by decide +kernel
theorem dX12_deal_42 : decode cX12_deal 42 = .ok (.istore_n 3, 1) := by decide +kernel
theorem dX12_deal_43 : decode cX12_deal 43 = .ok (.aload_n 0, 1) := by decide +kernel
theorem dX12_deal_44 : decode cX12_deal 44 = .ok (.getfield 110, 3) := by decide +kernel
theorem dX12_deal_47 : decode cX12_deal 47 = .ok (.iload_n 2, 1) := by decide +kernel
theorem dX12_deal_48 : decode cX12_deal 48 = .ok (.iaload, 1) := by decide +kernel
theorem dX12_deal_49 : decode cX12_deal 49 = .ok (.istore 4, 2) := by decide +kernel
theorem dX12_deal_51 : decode cX12_deal 51 = .ok (.aload_n 0, 1) := by decide +kernel
theorem dX12_deal_52 : decode cX12_deal 52 = .ok (.getfield 110, 3) := by decide +kernel
theorem dX12_deal_55 : decode cX12_deal 55 = .ok (.iload_n 2, 1) := by decide +kernel
theorem dX12_deal_56 : decode cX12_deal 56 = .ok (.aload_n 0, 1) := by decide +kernel
theorem dX12_deal_57 : decode cX12_deal 57 = .ok (.getfield 110, 3) := by decide +kernel
theorem dX12_deal_60 : decode cX12_deal 60 = .ok (.iload_n 3, 1) := by decide +kernel
theorem dX12_deal_61 : decode cX12_deal 61 = .ok (.iaload, 1) := by decide +kernel
theorem dX12_deal_62 : decode cX12_deal 62 = .ok (.iastore, 1) := by decide +kernel
theorem dX12_deal_63 : decode cX12_deal 63 = .ok (.aload_n 0, 1) := by decide +kernel
theorem dX12_deal_64 : decode cX12_deal 64 = .ok (.getfield 110, 3) := by decide +kernel
theorem dX12_deal_67 : decode cX12_deal 67 = .ok (.iload_n 3, 1) := by decide +kernel
theorem dX12_deal_68 : decode cX12_deal 68 = .ok (.iload 4, 2) := by decide +kernel
theorem dX12_deal_70 : decode cX12_deal 70 = .ok (.iastore, 1) := by decide +kernel
theorem dX12_deal_71 : decode cX12_deal 71 = .ok (.iinc 2 (-1), 3) := by decide +kernel
theorem dX12_deal_74 : decode cX12_deal 74 = .ok (.goto (-44), 3) := by decide +kernel
theorem dX12_deal_77 : decode cX12_deal 77 = .ok (.iconst 0, 1) := by decide +kernel
theorem dX12_deal_78 : decode cX12_deal 78 = .ok (.istore_n 2, 1) := by decide +kernel
theorem dX12_deal_79 : decode cX12_deal 79 = .ok (.iload_n 2, 1) := by decide +kernel
theorem dX12_deal_80 : decode cX12_deal 80 = .ok (.iconst 4, 1) := by decide +kernel
theorem dX12_deal_81 : decode cX12_deal 81 = .ok (.if_icmp .ge 16, 3) := by decide +kernel
theorem dX12_deal_84 : decode cX12_deal 84 = .ok (.aload_n 0, 1) := by decide +kernel
theorem dX12_deal_85 : decode cX12_deal 85 = .ok (.getfield 101, 3) := by decide +kernel
theorem dX12_deal_88 : decode cX12_deal 88 = .ok (.iload_n 2, 1) := by decide +kernel
theorem dX12_deal_89 : decode cX12_deal 89 = .ok (.iconst 0, 1) := by decide +kernel
theorem dX12_deal_90 : decode cX12_deal 90 = .ok (.iastore, 1) := by decide +kernel
theorem dX12_deal_91 : decode cX12_deal 91 = .ok (.iinc 2 1, 3) := by decide +kernel
theorem dX12_deal_94 : decode cX12_deal 94 = .ok (.goto (-15), 3) := by decide +kernel
theorem dX12_deal_97 : decode cX12_deal 97 = .ok (.iconst 0, 1) := by decide +kernel
theorem dX12_deal_98 : decode cX12_deal 98 = .ok (.istore_n 2, 1) := by decide +kernel
theorem dX12_deal_99 : decode cX12_deal 99 = .ok (.iload_n 2, 1) := by decide +kernel
theorem dX12_deal_100 : decode cX12_deal 100 = .ok (.aload_n 0, 1) := by decide +kernel
theorem dX12_deal_101 : decode cX12_deal 101 = .ok (.invokevirtual 351, 3) := by decide +kernel
theorem dX12_deal_104 : decode cX12_deal 104 = .ok (.if_icmp .ge 31, 3) := by decide +kernel
theorem dX12_deal_107 : decode cX12_deal 107 = .ok (.aload_n 0, 1) := by decide +kernel
theorem dX12_deal_108 : decode cX12_deal 108 = .ok (.getfield 101, 3) := by decide +kernel
theorem dX12_deal_111 : decode cX12_deal 111 = .ok (.iload_n 2, 1) := by decide +kernel
theorem dX12_deal_112 : decode cX12_deal 112 = .ok (.aload_n 0, 1) := by decide +kernel
theorem dX12_deal_113 : decode cX12_deal 113 = .ok (.invokevirtual 365, 3) := by decide +kernel
theorem dX12_deal_116 : decode cX12_deal 116 = .ok (.idiv, 1) := by decide +kernel
theorem dX12_deal_117 : decode cX12_deal 117 = .ok (.dup2, 1) := by decide +kernel
theorem dX12_deal_118 : decode cX12_deal 118 = .ok (.iaload, 1) := by decide +kernel
theorem dX12_deal_119 : decode cX12_deal 119 = .ok (.iconst 1, 1) := by decide +kernel
theorem dX12_deal_120 : decode cX12_deal 120 = .ok (.aload_n 0, 1) := by decide +kernel
theorem dX12_deal_121 : decode cX12_deal 121 = .ok (.getfield 110, 3) := by decide +kernel
theorem dX12_deal_124 : decode cX12_deal 124 = .ok (.iload_n 2, 1) := by decide +kernel
theorem dX12_deal_125 : decode cX12_deal 125 = .ok (.iaload, 1) := by decide +kernel
theorem dX12_deal_126 : decode cX12_deal 126 = .ok (.ishl, 1) := by decide +kernel
theorem dX12_deal_127 : decode cX12_deal 127 = .ok (.ior, 1) := by decide +kernel
theorem dX12_deal_128 : decode cX12_deal 128 = .ok (.iastore, 1) := by decide +kernel
theorem dX12_deal_129 : decode cX12_deal 129 = .ok (.iinc 2 1, 3) := by decide +kernel
theorem dX12_deal_132 : decode cX12_deal 132 = .ok (.goto (-33), 3) := by decide +kernel
theorem dX12_deal_135 : decode cX12_deal 135 = .ok (.aload_n 0, 1) := by decide +kernel
theorem dX12_deal_136 : decode cX12_deal 136 = .ok (.invokevirtual 368, 3) := by decide +kernel
theorem dX12_deal_139 : decode cX12_deal 139 = .ok (.iconst 1, 1) := by decide +kernel
theorem dX12_deal_140 : decode cX12_deal 140 = .ok (.ireturn, 1) := by decide +kernel
theorem dX12_lot_0 : decode cX12_lot 0 = .ok (.iload_n 0, 1) := by decide +kernel
theorem dX12_lot_1 : decode cX12_lot 1 = .ok (.bipush 20, 2) := by decide +kernel
theorem dX12_lot_3 : decode cX12_lot 3 = .ok (.invokestatic 359, 3) := by decide +kernel
theorem dX12_lot_6 : decode cX12_lot 6 = .ok (.iload_n 1, 1) := by decide +kernel
theorem dX12_lot_7 : decode cX12_lot 7 = .ok (.invokestatic 359, 3) := by decide +kernel
theorem dX12_lot_10 : decode cX12_lot 10 = .ok (.iconst 1, 1) := by decide +kernel
theorem dX12_lot_11 : decode cX12_lot 11 = .ok (.iushr, 1) := by decide +kernel
theorem dX12_lot_12 : decode cX12_lot 12 = .ok (.iload_n 2, 1) := by decide +kernel
theorem dX12_lot_13 : decode cX12_lot 13 = .ok (.irem, 1) := by decide +kernel
theorem dX12_lot_14 : decode cX12_lot 14 = .ok (.ireturn, 1) := by decide +kernel
theorem dX12_mixed_0 : decode cX12_mixed 0 = .ok (.iload_n 0, 1) := by decide +kernel
theorem dX12_mixed_1 : decode cX12_mixed 1 = .ok (.iload_n 1, 1) := by decide +kernel
theorem dX12_mixed_2 : decode cX12_mixed 2 = .ok (.ixor, 1) := by decide +kernel
theorem dX12_mixed_3 : decode cX12_mixed 3 = .ok (.ldc_w 358, 3) := by decide +kernel
theorem dX12_mixed_6 : decode cX12_mixed 6 = .ok (.imul, 1) := by decide +kernel
theorem dX12_mixed_7 : decode cX12_mixed 7 = .ok (.sipush 12345, 3) := by decide +kernel
theorem dX12_mixed_10 : decode cX12_mixed 10 = .ok (.iadd, 1) := by decide +kernel
theorem dX12_mixed_11 : decode cX12_mixed 11 = .ok (.istore_n 2, 1) := by decide +kernel
theorem dX12_mixed_12 : decode cX12_mixed 12 = .ok (.iload_n 2, 1) := by decide +kernel
theorem dX12_mixed_13 : decode cX12_mixed 13 = .ok (.iload_n 2, 1) := by decide +kernel
theorem dX12_mixed_14 : decode cX12_mixed 14 = .ok (.bipush 15, 2) := by decide +kernel
theorem dX12_mixed_16 : decode cX12_mixed 16 = .ok (.iushr, 1) := by decide +kernel
theorem dX12_mixed_17 : decode cX12_mixed 17 = .ok (.ixor, 1) := by decide +kernel
theorem dX12_mixed_18 : decode cX12_mixed 18 = .ok (.ireturn, 1) := by decide +kernel
theorem dX12_starts_0 : decode cX12_starts 0 = .ok (.aload_n 0, 1) := by decide +kernel
theorem dX12_starts_1 : decode cX12_starts 1 = .ok (.iconst 1, 1) := by decide +kernel
theorem dX12_starts_2 : decode cX12_starts 2 = .ok (.putfield 292, 3) := by decide +kernel
theorem dX12_starts_5 : decode cX12_starts 5 = .ok (.aload_n 0, 1) := by decide +kernel
theorem dX12_starts_6 : decode cX12_starts 6 = .ok (.iconst 0, 1) := by decide +kernel
theorem dX12_starts_7 : decode cX12_starts 7 = .ok (.putfield 355, 3) := by decide +kernel
theorem dX12_starts_10 : decode cX12_starts 10 = .ok (.aload_n 0, 1) := by decide +kernel
theorem dX12_starts_11 : decode cX12_starts 11 = .ok (.iconst 0, 1) := by decide +kernel
theorem dX12_starts_12 : decode cX12_starts 12 = .ok (.putfield 296, 3) := by decide +kernel
theorem dX12_starts_15 : decode cX12_starts 15 = .ok (.return_, 1) := by decide +kernel
