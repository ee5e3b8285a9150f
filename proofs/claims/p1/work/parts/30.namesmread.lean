/-! names -/
abbrev cX12_byteAt : ByteArray := prog_14_method_6_code
def yX12_byteAt : MethodName := ⟨RX12, "byteAt", "(I)I"⟩
abbrev cX12_cut : ByteArray := prog_14_method_12_code
def yX12_cut : MethodName := ⟨RX12, "cut", "()V"⟩
abbrev cX12_is : ByteArray := prog_14_method_14_code
def yX12_is : MethodName := ⟨RX12, "is", "(I)Z"⟩
abbrev cX12_read : ByteArray := prog_14_method_19_code
def yX12_read : MethodName := ⟨RX12, "read", "()I"⟩
abbrev cX12_token : ByteArray := prog_14_method_11_code
def yX12_token : MethodName := ⟨RX12, "token", "(IIIJ)V"⟩
theorem kw_63 : Cond.selects "SignalTableModel" yX12_cut yX12_cut ∈ lwg := wu_mem (i := 63) (by decide +kernel) rfl
theorem kw_64 : Cond.selects "SignalTableModel" yX12_byteAt yX12_byteAt ∈ lwg := wu_mem (i := 64) (by decide +kernel) rfl
theorem kw_65 : Cond.selects "SignalTableModel" yX12_token yX12_token ∈ lwg := wu_mem (i := 65) (by decide +kernel) rfl
theorem kw_67 : Cond.selects "SignalTableModel" yX12_is yX12_is ∈ lwg := wu_mem (i := 67) (by decide +kernel) rfl
theorem kw_1518 : Cond.fieldLink "SignalTableModel" 213 "SignalTableModel" "size" "I" ∈ lwg := wu_mem (i := 1518) (by decide +kernel) rfl
theorem kw_1524 : Cond.fieldLink "SignalTableModel" 222 "SignalTableModel" "tokens" "I" ∈ lwg := wu_mem (i := 1524) (by decide +kernel) rfl
theorem kw_1525 : Cond.fieldLink "SignalTableModel" 247 "SignalTableModel" "t" "I" ∈ lwg := wu_mem (i := 1525) (by decide +kernel) rfl
theorem kw_1526 : Cond.fieldLink "SignalTableModel" 271 "SignalTableModel" "open" "I" ∈ lwg := wu_mem (i := 1526) (by decide +kernel) rfl
theorem kw_1527 : Cond.fieldLink "SignalTableModel" 244 "SignalTableModel" "fault" "I" ∈ lwg := wu_mem (i := 1527) (by decide +kernel) rfl
theorem kw_1529 : Cond.fieldLink "SignalTableModel" 253 "SignalTableModel" "worst" "I" ∈ lwg := wu_mem (i := 1529) (by decide +kernel) rfl
theorem kw_1533 : Cond.fieldLink "SignalTableModel" 277 "SignalTableModel" "side" "I" ∈ lwg := wu_mem (i := 1533) (by decide +kernel) rfl
theorem kw_1534 : Cond.fieldLink "SignalTableModel" 280 "SignalTableModel" "names" "I" ∈ lwg := wu_mem (i := 1534) (by decide +kernel) rfl
theorem kw_1544 : Cond.fieldLink "SignalTableModel" 283 "SignalTableModel" "lits" "I" ∈ lwg := wu_mem (i := 1544) (by decide +kernel) rfl
theorem kw_1551 : Cond.fieldLink "SignalTableModel" 286 "SignalTableModel" "codes" "I" ∈ lwg := wu_mem (i := 1551) (by decide +kernel) rfl
theorem kw_1817 : Cond.methodLink "SignalTableModel" 268 yX12_cut ∈ lwg := wu_mem (i := 1817) (by decide +kernel) rfl
theorem kw_1819 : Cond.instanceMethod yX12_cut ∈ lwg := wu_mem (i := 1819) (by decide +kernel) rfl
theorem kw_1820 : Cond.code yX12_cut cX12_cut 8 none ∈ lwg := wu_mem (i := 1820) (by decide +kernel) rfl
theorem kw_1821 : Cond.methodLink "SignalTableModel" 225 yX12_byteAt ∈ lwg := wu_mem (i := 1821) (by decide +kernel) rfl
theorem kw_1823 : Cond.instanceMethod yX12_byteAt ∈ lwg := wu_mem (i := 1823) (by decide +kernel) rfl
theorem kw_1824 : Cond.code yX12_byteAt cX12_byteAt 2 (some .int) ∈ lwg := wu_mem (i := 1824) (by decide +kernel) rfl
theorem kw_1825 : Cond.methodLink "SignalTableModel" 229 yX12_token ∈ lwg := wu_mem (i := 1825) (by decide +kernel) rfl
theorem kw_1827 : Cond.instanceMethod yX12_token ∈ lwg := wu_mem (i := 1827) (by decide +kernel) rfl
theorem kw_1828 : Cond.code yX12_token cX12_token 6 none ∈ lwg := wu_mem (i := 1828) (by decide +kernel) rfl
theorem kw_1839 : Cond.methodLink "SignalTableModel" 262 yX12_is ∈ lwg := wu_mem (i := 1839) (by decide +kernel) rfl
theorem kw_1841 : Cond.instanceMethod yX12_is ∈ lwg := wu_mem (i := 1841) (by decide +kernel) rfl
theorem kw_1842 : Cond.code yX12_is cX12_is 2 (some .boolean) ∈ lwg := wu_mem (i := 1842) (by decide +kernel) rfl
theorem caV_SignalTableModel_225 : CaV "SignalTableModel" RX12 225 yX12_byteAt cX12_byteAt 2 (some .int) 1 := ⟨kw_1821, kw_1823, kw_64, kw_171, kw_1824, rfl, by decide +kernel, by decide +kernel, by decide +kernel⟩
theorem caV_SignalTableModel_229 : CaV "SignalTableModel" RX12 229 yX12_token cX12_token 6 none 4 := ⟨kw_1825, kw_1827, kw_65, kw_171, kw_1828, rfl, by decide +kernel, by decide +kernel, by decide +kernel⟩
theorem caV_SignalTableModel_268 : CaV "SignalTableModel" RX12 268 yX12_cut cX12_cut 8 none 0 := ⟨kw_1817, kw_1819, kw_63, kw_171, kw_1820, rfl, by decide +kernel, by decide +kernel, by decide +kernel⟩
theorem caV_SignalTableModel_262 : CaV "SignalTableModel" RX12 262 yX12_is cX12_is 2 (some .boolean) 1 := ⟨kw_1839, kw_1841, kw_67, kw_171, kw_1842, rfl, by decide +kernel, by decide +kernel, by decide +kernel⟩
theorem dX12_byteAt_0 : decode cX12_byteAt 0 = .ok (.iload_n 1, 1) := by decide +kernel
theorem dX12_byteAt_1 : decode cX12_byteAt 1 = .ok (.aload_n 0, 1) := by decide +kernel
theorem dX12_byteAt_2 : decode cX12_byteAt 2 = .ok (.getfield 213, 3) := by decide +kernel
theorem dX12_byteAt_5 : decode cX12_byteAt 5 = .ok (.if_icmp .ge 16, 3) := by decide +kernel
theorem dX12_byteAt_21 : decode cX12_byteAt 21 = .ok (.iconst 0, 1) := by decide +kernel
theorem dX12_byteAt_22 : decode cX12_byteAt 22 = .ok (.ireturn, 1) := by decide +kernel
theorem dX12_cut_0 : decode cX12_cut 0 = .ok (.aload_n 0, 1) := by decide +kernel
theorem dX12_cut_1 : decode cX12_cut 1 = .ok (.iconst 0, 1) := by decide +kernel
theorem dX12_cut_2 : decode cX12_cut 2 = .ok (.putfield 222, 3) := by decide +kernel
theorem dX12_cut_5 : decode cX12_cut 5 = .ok (.iconst 0, 1) := by decide +kernel
theorem dX12_cut_6 : decode cX12_cut 6 = .ok (.istore_n 1, 1) := by decide +kernel
theorem dX12_cut_7 : decode cX12_cut 7 = .ok (.aload_n 0, 1) := by decide +kernel
theorem dX12_cut_8 : decode cX12_cut 8 = .ok (.getfield 222, 3) := by decide +kernel
theorem dX12_cut_11 : decode cX12_cut 11 = .ok (.sipush 400, 3) := by decide +kernel
theorem dX12_cut_14 : decode cX12_cut 14 = .ok (.if_icmp .gt 280, 3) := by decide +kernel
theorem dX12_cut_17 : decode cX12_cut 17 = .ok (.aload_n 0, 1) := by decide +kernel
theorem dX12_cut_18 : decode cX12_cut 18 = .ok (.iload_n 1, 1) := by decide +kernel
theorem dX12_cut_19 : decode cX12_cut 19 = .ok (.invokevirtual 225, 3) := by decide +kernel
theorem dX12_cut_22 : decode cX12_cut 22 = .ok (.istore_n 2, 1) := by decide +kernel
theorem dX12_cut_23 : decode cX12_cut 23 = .ok (.iload_n 1, 1) := by decide +kernel
theorem dX12_cut_24 : decode cX12_cut 24 = .ok (.aload_n 0, 1) := by decide +kernel
theorem dX12_cut_25 : decode cX12_cut 25 = .ok (.getfield 213, 3) := by decide +kernel
theorem dX12_cut_28 : decode cX12_cut 28 = .ok (.if_icmp .lt 15, 3) := by decide +kernel
theorem dX12_cut_31 : decode cX12_cut 31 = .ok (.aload_n 0, 1) := by decide +kernel
theorem dX12_cut_32 : decode cX12_cut 32 = .ok (.iconst 0, 1) := by decide +kernel
theorem dX12_cut_33 : decode cX12_cut 33 = .ok (.aload_n 0, 1) := by decide +kernel
theorem dX12_cut_34 : decode cX12_cut 34 = .ok (.getfield 213, 3) := by decide +kernel
theorem dX12_cut_37 : decode cX12_cut 37 = .ok (.iconst 0, 1) := by decide +kernel
theorem dX12_cut_38 : decode cX12_cut 38 = .ok (.lconst 0, 1) := by decide +kernel
theorem dX12_cut_39 : decode cX12_cut 39 = .ok (.invokevirtual 229, 3) := by decide +kernel
theorem dX12_cut_42 : decode cX12_cut 42 = .ok (.return_, 1) := by decide +kernel
theorem dX12_is_0 : decode cX12_is 0 = .ok (.aload_n 0, 1) := by decide +kernel
theorem dX12_is_1 : decode cX12_is 1 = .ok (.getfield 244, 3) := by decide +kernel
theorem dX12_is_4 : decode cX12_is 4 = .ok (.ifCond .ne 20, 3) := by decide +kernel
theorem dX12_is_7 : decode cX12_is 7 = .ok (.aload_n 0, 1) := by decide +kernel
theorem dX12_is_8 : decode cX12_is 8 = .ok (.getfield 20, 3) := by decide +kernel
theorem dX12_is_11 : decode cX12_is 11 = .ok (.aload_n 0, 1) := by decide +kernel
theorem dX12_is_12 : decode cX12_is 12 = .ok (.getfield 247, 3) := by decide +kernel
theorem dX12_is_15 : decode cX12_is 15 = .ok (.iaload, 1) := by decide +kernel
theorem dX12_is_16 : decode cX12_is 16 = .ok (.iload_n 1, 1) := by decide +kernel
theorem dX12_is_17 : decode cX12_is 17 = .ok (.if_icmp .ne 7, 3) := by decide +kernel
theorem dX12_is_20 : decode cX12_is 20 = .ok (.iconst 1, 1) := by decide +kernel
theorem dX12_is_21 : decode cX12_is 21 = .ok (.goto 4, 3) := by decide +kernel
theorem dX12_is_25 : decode cX12_is 25 = .ok (.ireturn, 1) := by decide +kernel
theorem dX12_read_0 : decode cX12_read 0 = .ok (.aload_n 0, 1) := by decide +kernel
theorem dX12_read_1 : decode cX12_read 1 = .ok (.aload_n 0, 1) := by decide +kernel
theorem dX12_read_2 : decode cX12_read 2 = .ok (.getfield 206, 3) := by decide +kernel
theorem dX12_read_5 : decode cX12_read 5 = .ok (.putfield 213, 3) := by decide +kernel
theorem dX12_read_8 : decode cX12_read 8 = .ok (.iconst 0, 1) := by decide +kernel
theorem dX12_read_9 : decode cX12_read 9 = .ok (.istore_n 1, 1) := by decide +kernel
theorem dX12_read_10 : decode cX12_read 10 = .ok (.iload_n 1, 1) := by decide +kernel
theorem dX12_read_11 : decode cX12_read 11 = .ok (.aload_n 0, 1) := by decide +kernel
theorem dX12_read_12 : decode cX12_read 12 = .ok (.getfield 213, 3) := by decide +kernel
theorem dX12_read_15 : decode cX12_read 15 = .ok (.if_icmp .ge 21, 3) := by decide +kernel
theorem dX12_read_36 : decode cX12_read 36 = .ok (.aload_n 0, 1) := by decide +kernel
theorem dX12_read_37 : decode cX12_read 37 = .ok (.iconst 0, 1) := by decide +kernel
theorem dX12_read_38 : decode cX12_read 38 = .ok (.putfield 206, 3) := by decide +kernel
theorem dX12_read_41 : decode cX12_read 41 = .ok (.aload_n 0, 1) := by decide +kernel
theorem dX12_read_42 : decode cX12_read 42 = .ok (.invokevirtual 268, 3) := by decide +kernel
theorem dX12_read_45 : decode cX12_read 45 = .ok (.aload_n 0, 1) := by decide +kernel
theorem dX12_read_46 : decode cX12_read 46 = .ok (.iconst 0, 1) := by decide +kernel
theorem dX12_read_47 : decode cX12_read 47 = .ok (.putfield 247, 3) := by decide +kernel
theorem dX12_read_50 : decode cX12_read 50 = .ok (.aload_n 0, 1) := by decide +kernel
theorem dX12_read_51 : decode cX12_read 51 = .ok (.iconst 0, 1) := by decide +kernel
theorem dX12_read_52 : decode cX12_read 52 = .ok (.putfield 271, 3) := by decide +kernel
theorem dX12_read_55 : decode cX12_read 55 = .ok (.aload_n 0, 1) := by decide +kernel
theorem dX12_read_56 : decode cX12_read 56 = .ok (.iconst 0, 1) := by decide +kernel
theorem dX12_read_57 : decode cX12_read 57 = .ok (.putfield 244, 3) := by decide +kernel
theorem dX12_read_60 : decode cX12_read 60 = .ok (.aload_n 0, 1) := by decide +kernel
theorem dX12_read_61 : decode cX12_read 61 = .ok (.iconst 0, 1) := by decide +kernel
theorem dX12_read_62 : decode cX12_read 62 = .ok (.putfield 253, 3) := by decide +kernel
theorem dX12_read_65 : decode cX12_read 65 = .ok (.aload_n 0, 1) := by decide +kernel
theorem dX12_read_66 : decode cX12_read 66 = .ok (.iconst 1, 1) := by decide +kernel
theorem dX12_read_67 : decode cX12_read 67 = .ok (.aload_n 0, 1) := by decide +kernel
theorem dX12_read_68 : decode cX12_read 68 = .ok (.getfield 274, 3) := by decide +kernel
theorem dX12_read_71 : decode cX12_read 71 = .ok (.isub, 1) := by decide +kernel
theorem dX12_read_72 : decode cX12_read 72 = .ok (.putfield 277, 3) := by decide +kernel
theorem dX12_read_75 : decode cX12_read 75 = .ok (.aload_n 0, 1) := by decide +kernel
theorem dX12_read_76 : decode cX12_read 76 = .ok (.iconst 0, 1) := by decide +kernel
theorem dX12_read_77 : decode cX12_read 77 = .ok (.putfield 280, 3) := by decide +kernel
theorem dX12_read_80 : decode cX12_read 80 = .ok (.aload_n 0, 1) := by decide +kernel
theorem dX12_read_81 : decode cX12_read 81 = .ok (.getfield 43, 3) := by decide +kernel
theorem dX12_read_84 : decode cX12_read 84 = .ok (.aload_n 0, 1) := by decide +kernel
theorem dX12_read_85 : decode cX12_read 85 = .ok (.getfield 277, 3) := by decide +kernel
theorem dX12_read_88 : decode cX12_read 88 = .ok (.iconst 4, 1) := by decide +kernel
theorem dX12_read_89 : decode cX12_read 89 = .ok (.iastore, 1) := by decide +kernel
theorem dX12_read_90 : decode cX12_read 90 = .ok (.aload_n 0, 1) := by decide +kernel
theorem dX12_read_91 : decode cX12_read 91 = .ok (.getfield 46, 3) := by decide +kernel
theorem dX12_read_94 : decode cX12_read 94 = .ok (.aload_n 0, 1) := by decide +kernel
theorem dX12_read_95 : decode cX12_read 95 = .ok (.getfield 277, 3) := by decide +kernel
theorem dX12_read_98 : decode cX12_read 98 = .ok (.iconst 4, 1) := by decide +kernel
theorem dX12_read_99 : decode cX12_read 99 = .ok (.iastore, 1) := by decide +kernel
theorem dX12_read_100 : decode cX12_read 100 = .ok (.aload_n 0, 1) := by decide +kernel
theorem dX12_read_101 : decode cX12_read 101 = .ok (.getfield 49, 3) := by decide +kernel
theorem dX12_read_104 : decode cX12_read 104 = .ok (.aload_n 0, 1) := by decide +kernel
theorem dX12_read_105 : decode cX12_read 105 = .ok (.getfield 277, 3) := by decide +kernel
theorem dX12_read_108 : decode cX12_read 108 = .ok (.iconst (-1), 1) := by decide +kernel
theorem dX12_read_109 : decode cX12_read 109 = .ok (.iastore, 1) := by decide +kernel
theorem dX12_read_110 : decode cX12_read 110 = .ok (.aload_n 0, 1) := by decide +kernel
theorem dX12_read_111 : decode cX12_read 111 = .ok (.getfield 52, 3) := by decide +kernel
theorem dX12_read_114 : decode cX12_read 114 = .ok (.aload_n 0, 1) := by decide +kernel
theorem dX12_read_115 : decode cX12_read 115 = .ok (.getfield 277, 3) := by decide +kernel
theorem dX12_read_118 : decode cX12_read 118 = .ok (.iconst 0, 1) := by decide +kernel
theorem dX12_read_119 : decode cX12_read 119 = .ok (.iastore, 1) := by decide +kernel
theorem dX12_read_120 : decode cX12_read 120 = .ok (.aload_n 0, 1) := by decide +kernel
theorem dX12_read_121 : decode cX12_read 121 = .ok (.sipush 150, 3) := by decide +kernel
theorem dX12_read_124 : decode cX12_read 124 = .ok (.aload_n 0, 1) := by decide +kernel
theorem dX12_read_125 : decode cX12_read 125 = .ok (.getfield 277, 3) := by decide +kernel
theorem dX12_read_128 : decode cX12_read 128 = .ok (.imul, 1) := by decide +kernel
theorem dX12_read_129 : decode cX12_read 129 = .ok (.putfield 283, 3) := by decide +kernel
theorem dX12_read_132 : decode cX12_read 132 = .ok (.aload_n 0, 1) := by decide +kernel
theorem dX12_read_133 : decode cX12_read 133 = .ok (.sipush 420, 3) := by decide +kernel
theorem dX12_read_136 : decode cX12_read 136 = .ok (.aload_n 0, 1) := by decide +kernel
theorem dX12_read_137 : decode cX12_read 137 = .ok (.getfield 277, 3) := by decide +kernel
theorem dX12_read_140 : decode cX12_read 140 = .ok (.imul, 1) := by decide +kernel
theorem dX12_read_141 : decode cX12_read 141 = .ok (.putfield 286, 3) := by decide +kernel
theorem dX12_read_144 : decode cX12_read 144 = .ok (.aload_n 0, 1) := by decide +kernel
theorem dX12_read_145 : decode cX12_read 145 = .ok (.getfield 244, 3) := by decide +kernel
theorem dX12_read_148 : decode cX12_read 148 = .ok (.ifCond .ne 18, 3) := by decide +kernel
theorem dX12_read_151 : decode cX12_read 151 = .ok (.aload_n 0, 1) := by decide +kernel
theorem dX12_read_152 : decode cX12_read 152 = .ok (.iconst 0, 1) := by decide +kernel
theorem dX12_read_153 : decode cX12_read 153 = .ok (.invokevirtual 262, 3) := by decide +kernel
theorem dX12_read_156 : decode cX12_read 156 = .ok (.ifCond .ne 10, 3) := by decide +kernel
theorem dX12_read_166 : decode cX12_read 166 = .ok (.aload_n 0, 1) := by decide +kernel
theorem dX12_read_167 : decode cX12_read 167 = .ok (.aload_n 0, 1) := by decide +kernel
theorem dX12_read_168 : decode cX12_read 168 = .ok (.getfield 244, 3) := by decide +kernel
theorem dX12_read_171 : decode cX12_read 171 = .ok (.ifCond .le 10, 3) := by decide +kernel
theorem dX12_read_181 : decode cX12_read 181 = .ok (.aload_n 0, 1) := by decide +kernel
theorem dX12_read_182 : decode cX12_read 182 = .ok (.getfield 253, 3) := by decide +kernel
theorem dX12_read_185 : decode cX12_read 185 = .ok (.ifCond .le 10, 3) := by decide +kernel
theorem dX12_read_195 : decode cX12_read 195 = .ok (.iconst (-1), 1) := by decide +kernel
theorem dX12_read_196 : decode cX12_read 196 = .ok (.putfield 37, 3) := by decide +kernel
theorem dX12_read_199 : decode cX12_read 199 = .ok (.aload_n 0, 1) := by decide +kernel
theorem dX12_read_200 : decode cX12_read 200 = .ok (.getfield 244, 3) := by decide +kernel
theorem dX12_read_203 : decode cX12_read 203 = .ok (.ifCond .le 8, 3) := by decide +kernel
theorem dX12_read_211 : decode cX12_read 211 = .ok (.aload_n 0, 1) := by decide +kernel
theorem dX12_read_212 : decode cX12_read 212 = .ok (.getfield 253, 3) := by decide +kernel
theorem dX12_read_215 : decode cX12_read 215 = .ok (.ifCond .le 8, 3) := by decide +kernel
theorem dX12_read_223 : decode cX12_read 223 = .ok (.aload_n 0, 1) := by decide +kernel
theorem dX12_read_224 : decode cX12_read 224 = .ok (.aload_n 0, 1) := by decide +kernel
theorem dX12_read_225 : decode cX12_read 225 = .ok (.getfield 277, 3) := by decide +kernel
theorem dX12_read_228 : decode cX12_read 228 = .ok (.putfield 274, 3) := by decide +kernel
theorem dX12_read_231 : decode cX12_read 231 = .ok (.aload_n 0, 1) := by decide +kernel
theorem dX12_read_232 : decode cX12_read 232 = .ok (.iconst 0, 1) := by decide +kernel
theorem dX12_read_233 : decode cX12_read 233 = .ok (.putfield 292, 3) := by decide +kernel
theorem dX12_read_236 : decode cX12_read 236 = .ok (.aload_n 0, 1) := by decide +kernel
theorem dX12_read_237 : decode cX12_read 237 = .ok (.iconst 0, 1) := by decide +kernel
theorem dX12_read_238 : decode cX12_read 238 = .ok (.putfield 296, 3) := by decide +kernel
theorem dX12_read_241 : decode cX12_read 241 = .ok (.aload_n 0, 1) := by decide +kernel
theorem dX12_read_242 : decode cX12_read 242 = .ok (.iconst 0, 1) := by decide +kernel
theorem dX12_read_243 : decode cX12_read 243 = .ok (.putfield 299, 3) := by decide +kernel
theorem dX12_read_246 : decode cX12_read 246 = .ok (.aload_n 0, 1) := by decide +kernel
theorem dX12_read_247 : decode cX12_read 247 = .ok (.getfield 184, 3) := by decide +kernel
theorem dX12_read_250 : decode cX12_read 250 = .ok (.iconst 0, 1) := by decide +kernel
theorem dX12_read_251 : decode cX12_read 251 = .ok (.iconst 0, 1) := by decide +kernel
theorem dX12_read_252 : decode cX12_read 252 = .ok (.bastore, 1) := by decide +kernel
theorem dX12_read_253 : decode cX12_read 253 = .ok (.aload_n 0, 1) := by decide +kernel
theorem dX12_read_254 : decode cX12_read 254 = .ok (.getfield 184, 3) := by decide +kernel
theorem dX12_read_257 : decode cX12_read 257 = .ok (.iconst 1, 1) := by decide +kernel
theorem dX12_read_258 : decode cX12_read 258 = .ok (.iconst 0, 1) := by decide +kernel
theorem dX12_read_259 : decode cX12_read 259 = .ok (.bastore, 1) := by decide +kernel
theorem dX12_read_260 : decode cX12_read 260 = .ok (.iconst 0, 1) := by decide +kernel
theorem dX12_read_261 : decode cX12_read 261 = .ok (.ireturn, 1) := by decide +kernel
theorem dX12_token_0 : decode cX12_token 0 = .ok (.aload_n 0, 1) := by decide +kernel
theorem dX12_token_1 : decode cX12_token 1 = .ok (.getfield 20, 3) := by decide +kernel
theorem dX12_token_4 : decode cX12_token 4 = .ok (.aload_n 0, 1) := by decide +kernel
theorem dX12_token_5 : decode cX12_token 5 = .ok (.getfield 222, 3) := by decide +kernel
theorem dX12_token_8 : decode cX12_token 8 = .ok (.iload_n 1, 1) := by decide +kernel
theorem dX12_token_9 : decode cX12_token 9 = .ok (.iastore, 1) := by decide +kernel
theorem dX12_token_10 : decode cX12_token 10 = .ok (.aload_n 0, 1) := by decide +kernel
theorem dX12_token_11 : decode cX12_token 11 = .ok (.getfield 24, 3) := by decide +kernel
theorem dX12_token_14 : decode cX12_token 14 = .ok (.aload_n 0, 1) := by decide +kernel
theorem dX12_token_15 : decode cX12_token 15 = .ok (.getfield 222, 3) := by decide +kernel
theorem dX12_token_18 : decode cX12_token 18 = .ok (.iload_n 2, 1) := by decide +kernel
theorem dX12_token_19 : decode cX12_token 19 = .ok (.iastore, 1) := by decide +kernel
theorem dX12_token_20 : decode cX12_token 20 = .ok (.aload_n 0, 1) := by decide +kernel
theorem dX12_token_21 : decode cX12_token 21 = .ok (.getfield 27, 3) := by decide +kernel
theorem dX12_token_24 : decode cX12_token 24 = .ok (.aload_n 0, 1) := by decide +kernel
theorem dX12_token_25 : decode cX12_token 25 = .ok (.getfield 222, 3) := by decide +kernel
theorem dX12_token_28 : decode cX12_token 28 = .ok (.iload_n 3, 1) := by decide +kernel
theorem dX12_token_29 : decode cX12_token 29 = .ok (.iastore, 1) := by decide +kernel
theorem dX12_token_30 : decode cX12_token 30 = .ok (.aload_n 0, 1) := by decide +kernel
theorem dX12_token_31 : decode cX12_token 31 = .ok (.getfield 30, 3) := by decide +kernel
theorem dX12_token_34 : decode cX12_token 34 = .ok (.aload_n 0, 1) := by decide +kernel
theorem dX12_token_35 : decode cX12_token 35 = .ok (.getfield 222, 3) := by decide +kernel
theorem dX12_token_38 : decode cX12_token 38 = .ok (.lload 4, 2) := by decide +kernel
theorem dX12_token_40 : decode cX12_token 40 = .ok (.lastore, 1) := by decide +kernel
theorem dX12_token_41 : decode cX12_token 41 = .ok (.aload_n 0, 1) := by decide +kernel
theorem dX12_token_42 : decode cX12_token 42 = .ok (.dup, 1) := by decide +kernel
theorem dX12_token_43 : decode cX12_token 43 = .ok (.getfield 222, 3) := by decide +kernel
theorem dX12_token_46 : decode cX12_token 46 = .ok (.iconst 1, 1) := by decide +kernel
theorem dX12_token_47 : decode cX12_token 47 = .ok (.iadd, 1) := by decide +kernel
theorem dX12_token_48 : decode cX12_token 48 = .ok (.putfield 222, 3) := by decide +kernel
theorem dX12_token_51 : decode cX12_token 51 = .ok (.return_, 1) := by decide +kernel
