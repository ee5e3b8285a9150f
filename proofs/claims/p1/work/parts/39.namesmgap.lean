/-! names -/
abbrev cX12_countOpenings : ByteArray := prog_14_method_142_code
def yX12_countOpenings : MethodName := ⟨RX12, "countOpenings", "(III)I"⟩
abbrev cX12_counts : ByteArray := prog_14_method_141_code
def yX12_counts : MethodName := ⟨RX12, "counts", "(IIIII)Z"⟩
abbrev cX12_gap : ByteArray := prog_14_method_145_code
def yX12_gap : MethodName := ⟨RX12, "gap", "()I"⟩
abbrev cX12_rankOf : ByteArray := prog_14_method_38_code
def yX12_rankOf : MethodName := ⟨RX12, "rankOf", "(I)I"⟩
abbrev cX12_sees : ByteArray := prog_14_method_73_code
def yX12_sees : MethodName := ⟨RX12, "sees", "(IIII)V"⟩
abbrev cX12_suitOf : ByteArray := prog_14_method_37_code
def yX12_suitOf : MethodName := ⟨RX12, "suitOf", "(I)I"⟩
theorem kw_89 : Cond.selects "SignalTableModel" yX12_suitOf yX12_suitOf ∈ lwg := wu_mem (i := 89) (by decide +kernel) rfl
theorem kw_99 : Cond.selects "SignalTableModel" yX12_rankOf yX12_rankOf ∈ lwg := wu_mem (i := 99) (by decide +kernel) rfl
theorem kw_105 : Cond.selects "SignalTableModel" yX12_sees yX12_sees ∈ lwg := wu_mem (i := 105) (by decide +kernel) rfl
theorem kw_151 : Cond.selects "SignalTableModel" yX12_countOpenings yX12_countOpenings ∈ lwg := wu_mem (i := 151) (by decide +kernel) rfl
theorem kw_152 : Cond.selects "SignalTableModel" yX12_counts yX12_counts ∈ lwg := wu_mem (i := 152) (by decide +kernel) rfl
theorem kw_1967 : Cond.methodLink "SignalTableModel" 383 yX12_suitOf ∈ lwg := wu_mem (i := 1967) (by decide +kernel) rfl
theorem kw_1969 : Cond.instanceMethod yX12_suitOf ∈ lwg := wu_mem (i := 1969) (by decide +kernel) rfl
theorem kw_1970 : Cond.code yX12_suitOf cX12_suitOf 2 (some .int) ∈ lwg := wu_mem (i := 1970) (by decide +kernel) rfl
theorem kw_2027 : Cond.methodLink "SignalTableModel" 417 yX12_rankOf ∈ lwg := wu_mem (i := 2027) (by decide +kernel) rfl
theorem kw_2029 : Cond.instanceMethod yX12_rankOf ∈ lwg := wu_mem (i := 2029) (by decide +kernel) rfl
theorem kw_2030 : Cond.code yX12_rankOf cX12_rankOf 2 (some .int) ∈ lwg := wu_mem (i := 2030) (by decide +kernel) rfl
theorem kw_2067 : Cond.methodLink "SignalTableModel" 435 yX12_sees ∈ lwg := wu_mem (i := 2067) (by decide +kernel) rfl
theorem kw_2069 : Cond.instanceMethod yX12_sees ∈ lwg := wu_mem (i := 2069) (by decide +kernel) rfl
theorem kw_2070 : Cond.code yX12_sees cX12_sees 6 none ∈ lwg := wu_mem (i := 2070) (by decide +kernel) rfl
theorem kw_2346 : Cond.methodLink "SignalTableModel" 640 yX12_countOpenings ∈ lwg := wu_mem (i := 2346) (by decide +kernel) rfl
theorem kw_2348 : Cond.instanceMethod yX12_countOpenings ∈ lwg := wu_mem (i := 2348) (by decide +kernel) rfl
theorem kw_2349 : Cond.code yX12_countOpenings cX12_countOpenings 7 (some .int) ∈ lwg := wu_mem (i := 2349) (by decide +kernel) rfl
theorem kw_2350 : Cond.methodLink "SignalTableModel" 636 yX12_counts ∈ lwg := wu_mem (i := 2350) (by decide +kernel) rfl
theorem kw_2352 : Cond.instanceMethod yX12_counts ∈ lwg := wu_mem (i := 2352) (by decide +kernel) rfl
theorem kw_2353 : Cond.code yX12_counts cX12_counts 7 (some .boolean) ∈ lwg := wu_mem (i := 2353) (by decide +kernel) rfl
theorem caV_SignalTableModel_383 : CaV "SignalTableModel" RX12 383 yX12_suitOf cX12_suitOf 2 (some .int) 1 := ⟨kw_1967, kw_1969, kw_89, kw_171, kw_1970, rfl, by decide +kernel, by decide +kernel, by decide +kernel⟩
theorem caV_SignalTableModel_417 : CaV "SignalTableModel" RX12 417 yX12_rankOf cX12_rankOf 2 (some .int) 1 := ⟨kw_2027, kw_2029, kw_99, kw_171, kw_2030, rfl, by decide +kernel, by decide +kernel, by decide +kernel⟩
theorem caV_SignalTableModel_435 : CaV "SignalTableModel" RX12 435 yX12_sees cX12_sees 6 none 4 := ⟨kw_2067, kw_2069, kw_105, kw_171, kw_2070, rfl, by decide +kernel, by decide +kernel, by decide +kernel⟩
theorem caV_SignalTableModel_636 : CaV "SignalTableModel" RX12 636 yX12_counts cX12_counts 7 (some .boolean) 5 := ⟨kw_2350, kw_2352, kw_152, kw_171, kw_2353, rfl, by decide +kernel, by decide +kernel, by decide +kernel⟩
theorem caV_SignalTableModel_640 : CaV "SignalTableModel" RX12 640 yX12_countOpenings cX12_countOpenings 7 (some .int) 3 := ⟨kw_2346, kw_2348, kw_151, kw_171, kw_2349, rfl, by decide +kernel, by decide +kernel, by decide +kernel⟩
theorem dX12_countOpenings_0 : decode cX12_countOpenings 0 = .ok (.iconst 0, 1) := by decide +kernel
theorem dX12_countOpenings_1 : decode cX12_countOpenings 1 = .ok (.istore 4, 2) := by decide +kernel
theorem dX12_countOpenings_3 : decode cX12_countOpenings 3 = .ok (.iconst 0, 1) := by decide +kernel
theorem dX12_countOpenings_4 : decode cX12_countOpenings 4 = .ok (.istore 5, 2) := by decide +kernel
theorem dX12_countOpenings_6 : decode cX12_countOpenings 6 = .ok (.iload 5, 2) := by decide +kernel
theorem dX12_countOpenings_8 : decode cX12_countOpenings 8 = .ok (.iconst 1, 1) := by decide +kernel
theorem dX12_countOpenings_9 : decode cX12_countOpenings 9 = .ok (.aload_n 0, 1) := by decide +kernel
theorem dX12_countOpenings_10 : decode cX12_countOpenings 10 = .ok (.invokevirtual 351, 3) := by decide +kernel
theorem dX12_countOpenings_13 : decode cX12_countOpenings 13 = .ok (.ishl, 1) := by decide +kernel
theorem dX12_countOpenings_14 : decode cX12_countOpenings 14 = .ok (.if_icmp .ge 70, 3) := by decide +kernel
theorem dX12_countOpenings_17 : decode cX12_countOpenings 17 = .ok (.iload 5, 2) := by decide +kernel
theorem dX12_countOpenings_19 : decode cX12_countOpenings 19 = .ok (.invokestatic 371, 3) := by decide +kernel
theorem dX12_countOpenings_22 : decode cX12_countOpenings 22 = .ok (.aload_n 0, 1) := by decide +kernel
theorem dX12_countOpenings_23 : decode cX12_countOpenings 23 = .ok (.invokevirtual 365, 3) := by decide +kernel
theorem dX12_countOpenings_26 : decode cX12_countOpenings 26 = .ok (.if_icmp .eq 6, 3) := by decide +kernel
theorem dX12_countOpenings_29 : decode cX12_countOpenings 29 = .ok (.goto 49, 3) := by decide +kernel
theorem dX12_countOpenings_32 : decode cX12_countOpenings 32 = .ok (.iconst 0, 1) := by decide +kernel
theorem dX12_countOpenings_33 : decode cX12_countOpenings 33 = .ok (.istore 6, 2) := by decide +kernel
theorem dX12_countOpenings_35 : decode cX12_countOpenings 35 = .ok (.iload 6, 2) := by decide +kernel
theorem dX12_countOpenings_37 : decode cX12_countOpenings 37 = .ok (.aload_n 0, 1) := by decide +kernel
theorem dX12_countOpenings_38 : decode cX12_countOpenings 38 = .ok (.invokevirtual 351, 3) := by decide +kernel
theorem dX12_countOpenings_41 : decode cX12_countOpenings 41 = .ok (.if_icmp .ge 37, 3) := by decide +kernel
theorem dX12_countOpenings_44 : decode cX12_countOpenings 44 = .ok (.iload 5, 2) := by decide +kernel
theorem dX12_countOpenings_46 : decode cX12_countOpenings 46 = .ok (.iload 6, 2) := by decide +kernel
theorem dX12_countOpenings_48 : decode cX12_countOpenings 48 = .ok (.ishr, 1) := by decide +kernel
theorem dX12_countOpenings_49 : decode cX12_countOpenings 49 = .ok (.iconst 1, 1) := by decide +kernel
theorem dX12_countOpenings_50 : decode cX12_countOpenings 50 = .ok (.iand, 1) := by decide +kernel
theorem dX12_countOpenings_51 : decode cX12_countOpenings 51 = .ok (.iconst 1, 1) := by decide +kernel
theorem dX12_countOpenings_52 : decode cX12_countOpenings 52 = .ok (.if_icmp .ne 20, 3) := by decide +kernel
theorem dX12_countOpenings_55 : decode cX12_countOpenings 55 = .ok (.aload_n 0, 1) := by decide +kernel
theorem dX12_countOpenings_56 : decode cX12_countOpenings 56 = .ok (.iload_n 1, 1) := by decide +kernel
theorem dX12_countOpenings_57 : decode cX12_countOpenings 57 = .ok (.iload_n 2, 1) := by decide +kernel
theorem dX12_countOpenings_58 : decode cX12_countOpenings 58 = .ok (.iload_n 3, 1) := by decide +kernel
theorem dX12_countOpenings_59 : decode cX12_countOpenings 59 = .ok (.iload 6, 2) := by decide +kernel
theorem dX12_countOpenings_61 : decode cX12_countOpenings 61 = .ok (.iload 5, 2) := by decide +kernel
theorem dX12_countOpenings_63 : decode cX12_countOpenings 63 = .ok (.invokevirtual 636, 3) := by decide +kernel
theorem dX12_countOpenings_66 : decode cX12_countOpenings 66 = .ok (.ifCond .eq 6, 3) := by decide +kernel
theorem dX12_countOpenings_69 : decode cX12_countOpenings 69 = .ok (.iinc 4 1, 3) := by decide +kernel
theorem dX12_countOpenings_72 : decode cX12_countOpenings 72 = .ok (.iinc 6 1, 3) := by decide +kernel
theorem dX12_countOpenings_75 : decode cX12_countOpenings 75 = .ok (.goto (-40), 3) := by decide +kernel
theorem dX12_countOpenings_78 : decode cX12_countOpenings 78 = .ok (.iinc 5 1, 3) := by decide +kernel
theorem dX12_countOpenings_81 : decode cX12_countOpenings 81 = .ok (.goto (-75), 3) := by decide +kernel
theorem dX12_countOpenings_84 : decode cX12_countOpenings 84 = .ok (.iload 4, 2) := by decide +kernel
theorem dX12_countOpenings_86 : decode cX12_countOpenings 86 = .ok (.ireturn, 1) := by decide +kernel
theorem dX12_counts_0 : decode cX12_counts 0 = .ok (.aload_n 0, 1) := by decide +kernel
theorem dX12_counts_1 : decode cX12_counts 1 = .ok (.iload 4, 2) := by decide +kernel
theorem dX12_counts_3 : decode cX12_counts 3 = .ok (.iconst (-1), 1) := by decide +kernel
theorem dX12_counts_4 : decode cX12_counts 4 = .ok (.iconst 0, 1) := by decide +kernel
theorem dX12_counts_5 : decode cX12_counts 5 = .ok (.iconst (-1), 1) := by decide +kernel
theorem dX12_counts_6 : decode cX12_counts 6 = .ok (.invokevirtual 435, 3) := by decide +kernel
theorem dX12_counts_9 : decode cX12_counts 9 = .ok (.iload_n 1, 1) := by decide +kernel
theorem dX12_counts_10 : decode cX12_counts 10 = .ok (.iconst 3, 1) := by decide +kernel
theorem dX12_counts_11 : decode cX12_counts 11 = .ok (.if_icmp .ne 48, 3) := by decide +kernel
theorem dX12_counts_14 : decode cX12_counts 14 = .ok (.iconst 0, 1) := by decide +kernel
theorem dX12_counts_15 : decode cX12_counts 15 = .ok (.istore 6, 2) := by decide +kernel
theorem dX12_counts_17 : decode cX12_counts 17 = .ok (.iload 6, 2) := by decide +kernel
theorem dX12_counts_19 : decode cX12_counts 19 = .ok (.aload_n 0, 1) := by decide +kernel
theorem dX12_counts_20 : decode cX12_counts 20 = .ok (.getfield 52, 3) := by decide +kernel
theorem dX12_counts_23 : decode cX12_counts 23 = .ok (.aload_n 0, 1) := by decide +kernel
theorem dX12_counts_24 : decode cX12_counts 24 = .ok (.getfield 274, 3) := by decide +kernel
theorem dX12_counts_27 : decode cX12_counts 27 = .ok (.iaload, 1) := by decide +kernel
theorem dX12_counts_28 : decode cX12_counts 28 = .ok (.if_icmp .ge 29, 3) := by decide +kernel
theorem dX12_counts_57 : decode cX12_counts 57 = .ok (.iconst 1, 1) := by decide +kernel
theorem dX12_counts_58 : decode cX12_counts 58 = .ok (.ireturn, 1) := by decide +kernel
theorem dX12_gap_0 : decode cX12_gap 0 = .ok (.aload_n 0, 1) := by decide +kernel
theorem dX12_gap_1 : decode cX12_gap 1 = .ok (.iconst 3, 1) := by decide +kernel
theorem dX12_gap_2 : decode cX12_gap 2 = .ok (.iconst 0, 1) := by decide +kernel
theorem dX12_gap_3 : decode cX12_gap 3 = .ok (.iconst 0, 1) := by decide +kernel
theorem dX12_gap_4 : decode cX12_gap 4 = .ok (.invokevirtual 640, 3) := by decide +kernel
theorem dX12_gap_7 : decode cX12_gap 7 = .ok (.ireturn, 1) := by decide +kernel
theorem dX12_rankOf_0 : decode cX12_rankOf 0 = .ok (.iload_n 1, 1) := by decide +kernel
theorem dX12_rankOf_1 : decode cX12_rankOf 1 = .ok (.aload_n 0, 1) := by decide +kernel
theorem dX12_rankOf_2 : decode cX12_rankOf 2 = .ok (.getfield 46, 3) := by decide +kernel
theorem dX12_rankOf_5 : decode cX12_rankOf 5 = .ok (.aload_n 0, 1) := by decide +kernel
theorem dX12_rankOf_6 : decode cX12_rankOf 6 = .ok (.getfield 274, 3) := by decide +kernel
theorem dX12_rankOf_9 : decode cX12_rankOf 9 = .ok (.iaload, 1) := by decide +kernel
theorem dX12_rankOf_10 : decode cX12_rankOf 10 = .ok (.irem, 1) := by decide +kernel
theorem dX12_rankOf_11 : decode cX12_rankOf 11 = .ok (.ireturn, 1) := by decide +kernel
theorem dX12_sees_0 : decode cX12_sees 0 = .ok (.iconst 0, 1) := by decide +kernel
theorem dX12_sees_1 : decode cX12_sees 1 = .ok (.istore 5, 2) := by decide +kernel
theorem dX12_sees_3 : decode cX12_sees 3 = .ok (.iload 5, 2) := by decide +kernel
theorem dX12_sees_5 : decode cX12_sees 5 = .ok (.bipush 14, 2) := by decide +kernel
theorem dX12_sees_7 : decode cX12_sees 7 = .ok (.if_icmp .ge 17, 3) := by decide +kernel
theorem dX12_sees_10 : decode cX12_sees 10 = .ok (.aload_n 0, 1) := by decide +kernel
theorem dX12_sees_11 : decode cX12_sees 11 = .ok (.getfield 95, 3) := by decide +kernel
theorem dX12_sees_14 : decode cX12_sees 14 = .ok (.iload 5, 2) := by decide +kernel
theorem dX12_sees_16 : decode cX12_sees 16 = .ok (.iconst 0, 1) := by decide +kernel
theorem dX12_sees_17 : decode cX12_sees 17 = .ok (.iastore, 1) := by decide +kernel
theorem dX12_sees_18 : decode cX12_sees 18 = .ok (.iinc 5 1, 3) := by decide +kernel
theorem dX12_sees_21 : decode cX12_sees 21 = .ok (.goto (-18), 3) := by decide +kernel
theorem dX12_sees_24 : decode cX12_sees 24 = .ok (.aload_n 0, 1) := by decide +kernel
theorem dX12_sees_25 : decode cX12_sees 25 = .ok (.getfield 95, 3) := by decide +kernel
theorem dX12_sees_28 : decode cX12_sees 28 = .ok (.iconst 0, 1) := by decide +kernel
theorem dX12_sees_29 : decode cX12_sees 29 = .ok (.aload_n 0, 1) := by decide +kernel
theorem dX12_sees_30 : decode cX12_sees 30 = .ok (.iload_n 1, 1) := by decide +kernel
theorem dX12_sees_31 : decode cX12_sees 31 = .ok (.invokevirtual 383, 3) := by decide +kernel
theorem dX12_sees_34 : decode cX12_sees 34 = .ok (.iastore, 1) := by decide +kernel
theorem dX12_sees_35 : decode cX12_sees 35 = .ok (.aload_n 0, 1) := by decide +kernel
theorem dX12_sees_36 : decode cX12_sees 36 = .ok (.getfield 95, 3) := by decide +kernel
theorem dX12_sees_39 : decode cX12_sees 39 = .ok (.iconst 1, 1) := by decide +kernel
theorem dX12_sees_40 : decode cX12_sees 40 = .ok (.aload_n 0, 1) := by decide +kernel
theorem dX12_sees_41 : decode cX12_sees 41 = .ok (.iload_n 1, 1) := by decide +kernel
theorem dX12_sees_42 : decode cX12_sees 42 = .ok (.invokevirtual 417, 3) := by decide +kernel
theorem dX12_sees_45 : decode cX12_sees 45 = .ok (.iastore, 1) := by decide +kernel
theorem dX12_sees_46 : decode cX12_sees 46 = .ok (.aload_n 0, 1) := by decide +kernel
theorem dX12_sees_47 : decode cX12_sees 47 = .ok (.getfield 95, 3) := by decide +kernel
theorem dX12_sees_50 : decode cX12_sees 50 = .ok (.iconst 2, 1) := by decide +kernel
theorem dX12_sees_51 : decode cX12_sees 51 = .ok (.iload_n 2, 1) := by decide +kernel
theorem dX12_sees_52 : decode cX12_sees 52 = .ok (.iastore, 1) := by decide +kernel
theorem dX12_sees_53 : decode cX12_sees 53 = .ok (.aload_n 0, 1) := by decide +kernel
theorem dX12_sees_54 : decode cX12_sees 54 = .ok (.getfield 95, 3) := by decide +kernel
theorem dX12_sees_57 : decode cX12_sees 57 = .ok (.iconst 3, 1) := by decide +kernel
theorem dX12_sees_58 : decode cX12_sees 58 = .ok (.iload_n 3, 1) := by decide +kernel
theorem dX12_sees_59 : decode cX12_sees 59 = .ok (.iastore, 1) := by decide +kernel
theorem dX12_sees_60 : decode cX12_sees 60 = .ok (.aload_n 0, 1) := by decide +kernel
theorem dX12_sees_61 : decode cX12_sees 61 = .ok (.getfield 95, 3) := by decide +kernel
theorem dX12_sees_64 : decode cX12_sees 64 = .ok (.iconst 4, 1) := by decide +kernel
theorem dX12_sees_65 : decode cX12_sees 65 = .ok (.iload 4, 2) := by decide +kernel
theorem dX12_sees_67 : decode cX12_sees 67 = .ok (.iastore, 1) := by decide +kernel
theorem dX12_sees_68 : decode cX12_sees 68 = .ok (.return_, 1) := by decide +kernel
theorem dX12_suitOf_0 : decode cX12_suitOf 0 = .ok (.iload_n 1, 1) := by decide +kernel
theorem dX12_suitOf_1 : decode cX12_suitOf 1 = .ok (.aload_n 0, 1) := by decide +kernel
theorem dX12_suitOf_2 : decode cX12_suitOf 2 = .ok (.getfield 46, 3) := by decide +kernel
theorem dX12_suitOf_5 : decode cX12_suitOf 5 = .ok (.aload_n 0, 1) := by decide +kernel
theorem dX12_suitOf_6 : decode cX12_suitOf 6 = .ok (.getfield 274, 3) := by decide +kernel
theorem dX12_suitOf_9 : decode cX12_suitOf 9 = .ok (.iaload, 1) := by decide +kernel
theorem dX12_suitOf_10 : decode cX12_suitOf 10 = .ok (.idiv, 1) := by decide +kernel
theorem dX12_suitOf_11 : decode cX12_suitOf 11 = .ok (.ireturn, 1) := by decide +kernel
