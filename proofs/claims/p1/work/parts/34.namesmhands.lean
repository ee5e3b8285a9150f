/-! names -/
abbrev cX12_bits : ByteArray := prog_14_method_34_code
def yX12_bits : MethodName := ⟨RX12, "bits", "(I)I"⟩
abbrev cX12_hands : ByteArray := prog_14_method_48_code
def yX12_hands : MethodName := ⟨RX12, "hands", "(III)Z"⟩
theorem kw_1929 : Cond.methodLink "SignalTableModel" 371 yX12_bits ∈ lwg := wu_mem (i := 1929) (by decide +kernel) rfl
theorem kw_1930 : Cond.static yX12_bits ∈ lwg := wu_mem (i := 1930) (by decide +kernel) rfl
theorem kw_1931 : Cond.code yX12_bits cX12_bits 3 (some .int) ∈ lwg := wu_mem (i := 1931) (by decide +kernel) rfl
theorem caS_SignalTableModel_371 : CaS "SignalTableModel" 371 yX12_bits cX12_bits 3 (some .int) 1 := ⟨kw_1929, kw_1930, kw_171, kw_1931, by decide +kernel, by decide +kernel, by decide +kernel⟩
theorem dX12_bits_0 : decode cX12_bits 0 = .ok (.iconst 0, 1) := by decide +kernel
theorem dX12_bits_1 : decode cX12_bits 1 = .ok (.istore_n 1, 1) := by decide +kernel
theorem dX12_bits_2 : decode cX12_bits 2 = .ok (.iconst 0, 1) := by decide +kernel
theorem dX12_bits_3 : decode cX12_bits 3 = .ok (.istore_n 2, 1) := by decide +kernel
theorem dX12_bits_4 : decode cX12_bits 4 = .ok (.iload_n 2, 1) := by decide +kernel
theorem dX12_bits_5 : decode cX12_bits 5 = .ok (.bipush 16, 2) := by decide +kernel
theorem dX12_bits_7 : decode cX12_bits 7 = .ok (.if_icmp .ge 17, 3) := by decide +kernel
theorem dX12_bits_10 : decode cX12_bits 10 = .ok (.iload_n 1, 1) := by decide +kernel
theorem dX12_bits_11 : decode cX12_bits 11 = .ok (.iload_n 0, 1) := by decide +kernel
theorem dX12_bits_12 : decode cX12_bits 12 = .ok (.iload_n 2, 1) := by decide +kernel
theorem dX12_bits_13 : decode cX12_bits 13 = .ok (.ishr, 1) := by decide +kernel
theorem dX12_bits_14 : decode cX12_bits 14 = .ok (.iconst 1, 1) := by decide +kernel
theorem dX12_bits_15 : decode cX12_bits 15 = .ok (.iand, 1) := by decide +kernel
theorem dX12_bits_16 : decode cX12_bits 16 = .ok (.iadd, 1) := by decide +kernel
theorem dX12_bits_17 : decode cX12_bits 17 = .ok (.istore_n 1, 1) := by decide +kernel
theorem dX12_bits_18 : decode cX12_bits 18 = .ok (.iinc 2 1, 3) := by decide +kernel
theorem dX12_bits_21 : decode cX12_bits 21 = .ok (.goto (-17), 3) := by decide +kernel
theorem dX12_bits_24 : decode cX12_bits 24 = .ok (.iload_n 1, 1) := by decide +kernel
theorem dX12_bits_25 : decode cX12_bits 25 = .ok (.ireturn, 1) := by decide +kernel
theorem dX12_hands_0 : decode cX12_hands 0 = .ok (.iconst 1, 1) := by decide +kernel
theorem dX12_hands_1 : decode cX12_hands 1 = .ok (.aload_n 0, 1) := by decide +kernel
theorem dX12_hands_2 : decode cX12_hands 2 = .ok (.invokevirtual 351, 3) := by decide +kernel
theorem dX12_hands_5 : decode cX12_hands 5 = .ok (.ishl, 1) := by decide +kernel
theorem dX12_hands_6 : decode cX12_hands 6 = .ok (.iconst 1, 1) := by decide +kernel
theorem dX12_hands_7 : decode cX12_hands 7 = .ok (.isub, 1) := by decide +kernel
theorem dX12_hands_8 : decode cX12_hands 8 = .ok (.istore 4, 2) := by decide +kernel
theorem dX12_hands_10 : decode cX12_hands 10 = .ok (.iload_n 1, 1) := by decide +kernel
theorem dX12_hands_11 : decode cX12_hands 11 = .ok (.iconst 0, 1) := by decide +kernel
theorem dX12_hands_12 : decode cX12_hands 12 = .ok (.iload 4, 2) := by decide +kernel
theorem dX12_hands_14 : decode cX12_hands 14 = .ok (.invokestatic 310, 3) := by decide +kernel
theorem dX12_hands_17 : decode cX12_hands 17 = .ok (.ifCond .eq 41, 3) := by decide +kernel
theorem dX12_hands_20 : decode cX12_hands 20 = .ok (.iload_n 2, 1) := by decide +kernel
theorem dX12_hands_21 : decode cX12_hands 21 = .ok (.iconst 0, 1) := by decide +kernel
theorem dX12_hands_22 : decode cX12_hands 22 = .ok (.iload 4, 2) := by decide +kernel
theorem dX12_hands_24 : decode cX12_hands 24 = .ok (.invokestatic 310, 3) := by decide +kernel
theorem dX12_hands_27 : decode cX12_hands 27 = .ok (.ifCond .eq 31, 3) := by decide +kernel
theorem dX12_hands_30 : decode cX12_hands 30 = .ok (.iload_n 3, 1) := by decide +kernel
theorem dX12_hands_31 : decode cX12_hands 31 = .ok (.iconst 0, 1) := by decide +kernel
theorem dX12_hands_32 : decode cX12_hands 32 = .ok (.iload 4, 2) := by decide +kernel
theorem dX12_hands_34 : decode cX12_hands 34 = .ok (.invokestatic 310, 3) := by decide +kernel
theorem dX12_hands_37 : decode cX12_hands 37 = .ok (.ifCond .eq 21, 3) := by decide +kernel
theorem dX12_hands_40 : decode cX12_hands 40 = .ok (.iload_n 1, 1) := by decide +kernel
theorem dX12_hands_41 : decode cX12_hands 41 = .ok (.iload_n 2, 1) := by decide +kernel
theorem dX12_hands_42 : decode cX12_hands 42 = .ok (.iand, 1) := by decide +kernel
theorem dX12_hands_43 : decode cX12_hands 43 = .ok (.ifCond .ne 15, 3) := by decide +kernel
theorem dX12_hands_46 : decode cX12_hands 46 = .ok (.iload_n 1, 1) := by decide +kernel
theorem dX12_hands_47 : decode cX12_hands 47 = .ok (.iload_n 3, 1) := by decide +kernel
theorem dX12_hands_48 : decode cX12_hands 48 = .ok (.iand, 1) := by decide +kernel
theorem dX12_hands_49 : decode cX12_hands 49 = .ok (.ifCond .ne 9, 3) := by decide +kernel
theorem dX12_hands_52 : decode cX12_hands 52 = .ok (.iload_n 2, 1) := by decide +kernel
theorem dX12_hands_53 : decode cX12_hands 53 = .ok (.iload_n 3, 1) := by decide +kernel
theorem dX12_hands_54 : decode cX12_hands 54 = .ok (.iand, 1) := by decide +kernel
theorem dX12_hands_55 : decode cX12_hands 55 = .ok (.ifCond .eq 5, 3) := by decide +kernel
theorem dX12_hands_58 : decode cX12_hands 58 = .ok (.iconst 0, 1) := by decide +kernel
theorem dX12_hands_59 : decode cX12_hands 59 = .ok (.ireturn, 1) := by decide +kernel
theorem dX12_hands_60 : decode cX12_hands 60 = .ok (.iload_n 1, 1) := by decide +kernel
theorem dX12_hands_61 : decode cX12_hands 61 = .ok (.invokestatic 371, 3) := by decide +kernel
theorem dX12_hands_64 : decode cX12_hands 64 = .ok (.aload_n 0, 1) := by decide +kernel
theorem dX12_hands_65 : decode cX12_hands 65 = .ok (.invokevirtual 365, 3) := by decide +kernel
theorem dX12_hands_68 : decode cX12_hands 68 = .ok (.if_icmp .ne 25, 3) := by decide +kernel
theorem dX12_hands_71 : decode cX12_hands 71 = .ok (.iload_n 2, 1) := by decide +kernel
theorem dX12_hands_72 : decode cX12_hands 72 = .ok (.invokestatic 371, 3) := by decide +kernel
theorem dX12_hands_75 : decode cX12_hands 75 = .ok (.aload_n 0, 1) := by decide +kernel
theorem dX12_hands_76 : decode cX12_hands 76 = .ok (.invokevirtual 365, 3) := by decide +kernel
theorem dX12_hands_79 : decode cX12_hands 79 = .ok (.if_icmp .ne 14, 3) := by decide +kernel
theorem dX12_hands_82 : decode cX12_hands 82 = .ok (.iload_n 3, 1) := by decide +kernel
theorem dX12_hands_83 : decode cX12_hands 83 = .ok (.invokestatic 371, 3) := by decide +kernel
theorem dX12_hands_86 : decode cX12_hands 86 = .ok (.aload_n 0, 1) := by decide +kernel
theorem dX12_hands_87 : decode cX12_hands 87 = .ok (.invokevirtual 365, 3) := by decide +kernel
theorem dX12_hands_90 : decode cX12_hands 90 = .ok (.if_icmp .eq 5, 3) := by decide +kernel
theorem dX12_hands_93 : decode cX12_hands 93 = .ok (.iconst 0, 1) := by decide +kernel
theorem dX12_hands_94 : decode cX12_hands 94 = .ok (.ireturn, 1) := by decide +kernel
theorem dX12_hands_95 : decode cX12_hands 95 = .ok (.aload_n 0, 1) := by decide +kernel
theorem dX12_hands_96 : decode cX12_hands 96 = .ok (.getfield 101, 3) := by decide +kernel
theorem dX12_hands_99 : decode cX12_hands 99 = .ok (.iconst 0, 1) := by decide +kernel
theorem dX12_hands_100 : decode cX12_hands 100 = .ok (.iload_n 1, 1) := by decide +kernel
theorem dX12_hands_101 : decode cX12_hands 101 = .ok (.iastore, 1) := by decide +kernel
theorem dX12_hands_102 : decode cX12_hands 102 = .ok (.aload_n 0, 1) := by decide +kernel
theorem dX12_hands_103 : decode cX12_hands 103 = .ok (.getfield 101, 3) := by decide +kernel
theorem dX12_hands_106 : decode cX12_hands 106 = .ok (.iconst 1, 1) := by decide +kernel
theorem dX12_hands_107 : decode cX12_hands 107 = .ok (.iload_n 2, 1) := by decide +kernel
theorem dX12_hands_108 : decode cX12_hands 108 = .ok (.iastore, 1) := by decide +kernel
theorem dX12_hands_109 : decode cX12_hands 109 = .ok (.aload_n 0, 1) := by decide +kernel
theorem dX12_hands_110 : decode cX12_hands 110 = .ok (.getfield 101, 3) := by decide +kernel
theorem dX12_hands_113 : decode cX12_hands 113 = .ok (.iconst 2, 1) := by decide +kernel
theorem dX12_hands_114 : decode cX12_hands 114 = .ok (.iload_n 3, 1) := by decide +kernel
theorem dX12_hands_115 : decode cX12_hands 115 = .ok (.iastore, 1) := by decide +kernel
theorem dX12_hands_116 : decode cX12_hands 116 = .ok (.aload_n 0, 1) := by decide +kernel
theorem dX12_hands_117 : decode cX12_hands 117 = .ok (.getfield 101, 3) := by decide +kernel
theorem dX12_hands_120 : decode cX12_hands 120 = .ok (.iconst 3, 1) := by decide +kernel
theorem dX12_hands_121 : decode cX12_hands 121 = .ok (.iload 4, 2) := by decide +kernel
theorem dX12_hands_123 : decode cX12_hands 123 = .ok (.iload_n 1, 1) := by decide +kernel
theorem dX12_hands_124 : decode cX12_hands 124 = .ok (.iconst (-1), 1) := by decide +kernel
theorem dX12_hands_125 : decode cX12_hands 125 = .ok (.ixor, 1) := by decide +kernel
theorem dX12_hands_126 : decode cX12_hands 126 = .ok (.iand, 1) := by decide +kernel
theorem dX12_hands_127 : decode cX12_hands 127 = .ok (.iload_n 2, 1) := by decide +kernel
theorem dX12_hands_128 : decode cX12_hands 128 = .ok (.iconst (-1), 1) := by decide +kernel
theorem dX12_hands_129 : decode cX12_hands 129 = .ok (.ixor, 1) := by decide +kernel
theorem dX12_hands_130 : decode cX12_hands 130 = .ok (.iand, 1) := by decide +kernel
theorem dX12_hands_131 : decode cX12_hands 131 = .ok (.iload_n 3, 1) := by decide +kernel
theorem dX12_hands_132 : decode cX12_hands 132 = .ok (.iconst (-1), 1) := by decide +kernel
theorem dX12_hands_133 : decode cX12_hands 133 = .ok (.ixor, 1) := by decide +kernel
theorem dX12_hands_134 : decode cX12_hands 134 = .ok (.iand, 1) := by decide +kernel
theorem dX12_hands_135 : decode cX12_hands 135 = .ok (.iastore, 1) := by decide +kernel
theorem dX12_hands_136 : decode cX12_hands 136 = .ok (.aload_n 0, 1) := by decide +kernel
theorem dX12_hands_137 : decode cX12_hands 137 = .ok (.invokevirtual 368, 3) := by decide +kernel
theorem dX12_hands_140 : decode cX12_hands 140 = .ok (.iconst 1, 1) := by decide +kernel
theorem dX12_hands_141 : decode cX12_hands 141 = .ok (.ireturn, 1) := by decide +kernel
