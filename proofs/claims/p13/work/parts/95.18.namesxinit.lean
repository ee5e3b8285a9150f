/-! names -/
abbrev cX11_init : ByteArray := prog_1_method_1_code
def yX11_init : MethodName := ⟨RX11, "<init>", "()V"⟩
theorem kw_156 : Cond.initialized "SignalTable$Judge" ∈ lwg := wu_mem (i := 156) (by decide +kernel) rfl
theorem kw_157 : Cond.initialized "SignalTable$Reader" ∈ lwg := wu_mem (i := 157) (by decide +kernel) rfl
theorem kw_163 : Cond.initialized "SignalTable$Game" ∈ lwg := wu_mem (i := 163) (by decide +kernel) rfl
theorem kw_164 : Cond.initialized "SignalTable$Open" ∈ lwg := wu_mem (i := 164) (by decide +kernel) rfl
theorem kw_165 : Cond.initialized "SignalTable$Deals" ∈ lwg := wu_mem (i := 165) (by decide +kernel) rfl
theorem kw_166 : Cond.initialized "SignalTable$Weigher" ∈ lwg := wu_mem (i := 166) (by decide +kernel) rfl
theorem kw_167 : Cond.initialized "SignalTable$Gains" ∈ lwg := wu_mem (i := 167) (by decide +kernel) rfl
theorem kw_168 : Cond.initialized "SignalTable$Books" ∈ lwg := wu_mem (i := 168) (by decide +kernel) rfl
theorem kw_169 : Cond.initialized "SignalTable$Openings" ∈ lwg := wu_mem (i := 169) (by decide +kernel) rfl
theorem kw_179 : Cond.methodLink "SignalTable" 1 ⟨"java/lang/Object", "<init>", "()V"⟩ ∈ lwg := wu_mem (i := 179) (by decide +kernel) rfl
theorem kw_182 : Cond.classLink "SignalTable" 13 "SignalTable$Laws" ∈ lwg := wu_mem (i := 182) (by decide +kernel) rfl
theorem kw_183 : Cond.instantiable "SignalTable$Laws" 16 ∈ lwg := wu_mem (i := 183) (by decide +kernel) rfl
theorem kw_185 : Cond.instanceMethod yX5_init ∈ lwg := wu_mem (i := 185) (by decide +kernel) rfl
theorem kw_186 : Cond.code yX5_init cX5_init 1 none ∈ lwg := wu_mem (i := 186) (by decide +kernel) rfl
theorem kw_279 : Cond.arrayClass .byte ∈ lwg := wu_mem (i := 279) (by decide +kernel) rfl
theorem kw_281 : Cond.classLink "SignalTable" 20 "SignalTable$Judge" ∈ lwg := wu_mem (i := 281) (by decide +kernel) rfl
theorem kw_282 : Cond.instantiable "SignalTable$Judge" 3 ∈ lwg := wu_mem (i := 282) (by decide +kernel) rfl
theorem kw_283 : Cond.methodLink "SignalTable" 22 yX4_init ∈ lwg := wu_mem (i := 283) (by decide +kernel) rfl
theorem kw_284 : Cond.instanceMethod yX4_init ∈ lwg := wu_mem (i := 284) (by decide +kernel) rfl
theorem kw_285 : Cond.code yX4_init cX4_init 2 none ∈ lwg := wu_mem (i := 285) (by decide +kernel) rfl
theorem kw_297 : Cond.classLink "SignalTable" 29 "SignalTable$Reader" ∈ lwg := wu_mem (i := 297) (by decide +kernel) rfl
theorem kw_298 : Cond.instantiable "SignalTable$Reader" 11 ∈ lwg := wu_mem (i := 298) (by decide +kernel) rfl
theorem kw_299 : Cond.methodLink "SignalTable" 31 yX8_init ∈ lwg := wu_mem (i := 299) (by decide +kernel) rfl
theorem kw_300 : Cond.instanceMethod yX8_init ∈ lwg := wu_mem (i := 300) (by decide +kernel) rfl
theorem kw_301 : Cond.code yX8_init cX8_init 2 none ∈ lwg := wu_mem (i := 301) (by decide +kernel) rfl
theorem kw_414 : Cond.classLink "SignalTable" 36 "SignalTable$Game" ∈ lwg := wu_mem (i := 414) (by decide +kernel) rfl
theorem kw_415 : Cond.instantiable "SignalTable$Game" 18 ∈ lwg := wu_mem (i := 415) (by decide +kernel) rfl
theorem kw_416 : Cond.methodLink "SignalTable" 38 yX3_init ∈ lwg := wu_mem (i := 416) (by decide +kernel) rfl
theorem kw_417 : Cond.instanceMethod yX3_init ∈ lwg := wu_mem (i := 417) (by decide +kernel) rfl
theorem kw_418 : Cond.code yX3_init cX3_init 3 none ∈ lwg := wu_mem (i := 418) (by decide +kernel) rfl
theorem kw_515 : Cond.classLink "SignalTable" 52 "SignalTable$Open" ∈ lwg := wu_mem (i := 515) (by decide +kernel) rfl
theorem kw_516 : Cond.instantiable "SignalTable$Open" 14 ∈ lwg := wu_mem (i := 516) (by decide +kernel) rfl
theorem kw_517 : Cond.methodLink "SignalTable" 54 yX6_init ∈ lwg := wu_mem (i := 517) (by decide +kernel) rfl
theorem kw_518 : Cond.instanceMethod yX6_init ∈ lwg := wu_mem (i := 518) (by decide +kernel) rfl
theorem kw_519 : Cond.code yX6_init cX6_init 2 none ∈ lwg := wu_mem (i := 519) (by decide +kernel) rfl
theorem kw_566 : Cond.classLink "SignalTable" 59 "SignalTable$Deals" ∈ lwg := wu_mem (i := 566) (by decide +kernel) rfl
theorem kw_567 : Cond.instantiable "SignalTable$Deals" 13 ∈ lwg := wu_mem (i := 567) (by decide +kernel) rfl
theorem kw_568 : Cond.methodLink "SignalTable" 61 yX1_init ∈ lwg := wu_mem (i := 568) (by decide +kernel) rfl
theorem kw_569 : Cond.instanceMethod yX1_init ∈ lwg := wu_mem (i := 569) (by decide +kernel) rfl
theorem kw_570 : Cond.code yX1_init cX1_init 3 none ∈ lwg := wu_mem (i := 570) (by decide +kernel) rfl
theorem kw_617 : Cond.classLink "SignalTable" 66 "SignalTable$Weigher" ∈ lwg := wu_mem (i := 617) (by decide +kernel) rfl
theorem kw_618 : Cond.instantiable "SignalTable$Weigher" 7 ∈ lwg := wu_mem (i := 618) (by decide +kernel) rfl
theorem kw_619 : Cond.methodLink "SignalTable" 68 yX10_init ∈ lwg := wu_mem (i := 619) (by decide +kernel) rfl
theorem kw_620 : Cond.instanceMethod yX10_init ∈ lwg := wu_mem (i := 620) (by decide +kernel) rfl
theorem kw_621 : Cond.code yX10_init cX10_init 3 none ∈ lwg := wu_mem (i := 621) (by decide +kernel) rfl
theorem kw_645 : Cond.classLink "SignalTable" 75 "SignalTable$Gains" ∈ lwg := wu_mem (i := 645) (by decide +kernel) rfl
theorem kw_646 : Cond.instantiable "SignalTable$Gains" 3 ∈ lwg := wu_mem (i := 646) (by decide +kernel) rfl
theorem kw_647 : Cond.methodLink "SignalTable" 77 yX2_init ∈ lwg := wu_mem (i := 647) (by decide +kernel) rfl
theorem kw_648 : Cond.instanceMethod yX2_init ∈ lwg := wu_mem (i := 648) (by decide +kernel) rfl
theorem kw_649 : Cond.code yX2_init cX2_init 3 none ∈ lwg := wu_mem (i := 649) (by decide +kernel) rfl
theorem kw_661 : Cond.classLink "SignalTable" 84 "SignalTable$Books" ∈ lwg := wu_mem (i := 661) (by decide +kernel) rfl
theorem kw_662 : Cond.instantiable "SignalTable$Books" 3 ∈ lwg := wu_mem (i := 662) (by decide +kernel) rfl
theorem kw_664 : Cond.instanceMethod yX0_init ∈ lwg := wu_mem (i := 664) (by decide +kernel) rfl
theorem kw_665 : Cond.code yX0_init cX0_init 1 none ∈ lwg := wu_mem (i := 665) (by decide +kernel) rfl
theorem kw_678 : Cond.classLink "SignalTable" 91 "SignalTable$Openings" ∈ lwg := wu_mem (i := 678) (by decide +kernel) rfl
theorem kw_679 : Cond.instantiable "SignalTable$Openings" 2 ∈ lwg := wu_mem (i := 679) (by decide +kernel) rfl
theorem kw_680 : Cond.methodLink "SignalTable" 93 yX7_init ∈ lwg := wu_mem (i := 680) (by decide +kernel) rfl
theorem kw_681 : Cond.instanceMethod yX7_init ∈ lwg := wu_mem (i := 681) (by decide +kernel) rfl
theorem kw_682 : Cond.code yX7_init cX7_init 3 none ∈ lwg := wu_mem (i := 682) (by decide +kernel) rfl
theorem kw_691 : Cond.methodLink "SignalTable" 98 yX5_clear ∈ lwg := wu_mem (i := 691) (by decide +kernel) rfl
theorem kw_692 : Cond.instanceMethod yX5_clear ∈ lwg := wu_mem (i := 692) (by decide +kernel) rfl
theorem kw_693 : Cond.selects "SignalTable$Laws" yX5_clear yX5_clear ∈ lwg := wu_mem (i := 693) (by decide +kernel) rfl
theorem kw_694 : Cond.code yX5_clear cX5_clear 1 none ∈ lwg := wu_mem (i := 694) (by decide +kernel) rfl
theorem kw_695 : Cond.methodLink "SignalTable" 101 yX5_settle ∈ lwg := wu_mem (i := 695) (by decide +kernel) rfl
theorem kw_696 : Cond.instanceMethod yX5_settle ∈ lwg := wu_mem (i := 696) (by decide +kernel) rfl
theorem kw_697 : Cond.selects "SignalTable$Laws" yX5_settle yX5_settle ∈ lwg := wu_mem (i := 697) (by decide +kernel) rfl
theorem kw_698 : Cond.code yX5_settle cX5_settle 2 none ∈ lwg := wu_mem (i := 698) (by decide +kernel) rfl
theorem kw_707 : Cond.fieldLink "SignalTable" 9 "SignalTable" "tape" "[B" ∈ lwg := wu_mem (i := 707) (by decide +kernel) rfl
theorem kw_709 : Cond.fieldLink "SignalTable" 16 "SignalTable" "laws" "LSignalTable$Laws;" ∈ lwg := wu_mem (i := 709) (by decide +kernel) rfl
theorem kw_710 : Cond.fieldLink "SignalTable" 25 "SignalTable" "judge" "LSignalTable$Judge;" ∈ lwg := wu_mem (i := 710) (by decide +kernel) rfl
theorem kw_711 : Cond.fieldLink "SignalTable" 32 "SignalTable" "reader" "LSignalTable$Reader;" ∈ lwg := wu_mem (i := 711) (by decide +kernel) rfl
theorem kw_712 : Cond.fieldLink "SignalTable" 41 "SignalTable" "game" "LSignalTable$Game;" ∈ lwg := wu_mem (i := 712) (by decide +kernel) rfl
theorem kw_713 : Cond.fieldLink "SignalTable" 45 "SignalTable" "trial" "LSignalTable$Game;" ∈ lwg := wu_mem (i := 713) (by decide +kernel) rfl
theorem kw_714 : Cond.fieldLink "SignalTable" 48 "SignalTable" "slots" "[LSignalTable$Game;" ∈ lwg := wu_mem (i := 714) (by decide +kernel) rfl
theorem kw_715 : Cond.fieldLink "SignalTable" 55 "SignalTable" "solver" "LSignalTable$Open;" ∈ lwg := wu_mem (i := 715) (by decide +kernel) rfl
theorem kw_716 : Cond.fieldLink "SignalTable" 62 "SignalTable" "deals" "LSignalTable$Deals;" ∈ lwg := wu_mem (i := 716) (by decide +kernel) rfl
theorem kw_717 : Cond.fieldLink "SignalTable" 71 "SignalTable" "weigher" "LSignalTable$Weigher;" ∈ lwg := wu_mem (i := 717) (by decide +kernel) rfl
theorem kw_718 : Cond.fieldLink "SignalTable" 80 "SignalTable" "gains" "LSignalTable$Gains;" ∈ lwg := wu_mem (i := 718) (by decide +kernel) rfl
theorem kw_719 : Cond.fieldLink "SignalTable" 87 "SignalTable" "shelf" "LSignalTable$Books;" ∈ lwg := wu_mem (i := 719) (by decide +kernel) rfl
theorem kw_720 : Cond.fieldLink "SignalTable" 94 "SignalTable" "firstLeads" "LSignalTable$Openings;" ∈ lwg := wu_mem (i := 720) (by decide +kernel) rfl
theorem caI_SignalTable_22 : CaI "SignalTable" 22 yX4_init cX4_init 2 1 := ⟨kw_283, kw_284, kw_156, kw_285, rfl, by decide +kernel, by decide +kernel, by decide +kernel⟩
theorem caI_SignalTable_31 : CaI "SignalTable" 31 yX8_init cX8_init 2 1 := ⟨kw_299, kw_300, kw_157, kw_301, rfl, by decide +kernel, by decide +kernel, by decide +kernel⟩
theorem caI_SignalTable_38 : CaI "SignalTable" 38 yX3_init cX3_init 3 2 := ⟨kw_416, kw_417, kw_163, kw_418, rfl, by decide +kernel, by decide +kernel, by decide +kernel⟩
theorem caI_SignalTable_54 : CaI "SignalTable" 54 yX6_init cX6_init 2 1 := ⟨kw_517, kw_518, kw_164, kw_519, rfl, by decide +kernel, by decide +kernel, by decide +kernel⟩
theorem caI_SignalTable_61 : CaI "SignalTable" 61 yX1_init cX1_init 3 2 := ⟨kw_568, kw_569, kw_165, kw_570, rfl, by decide +kernel, by decide +kernel, by decide +kernel⟩
theorem caI_SignalTable_68 : CaI "SignalTable" 68 yX10_init cX10_init 3 2 := ⟨kw_619, kw_620, kw_166, kw_621, rfl, by decide +kernel, by decide +kernel, by decide +kernel⟩
theorem caI_SignalTable_77 : CaI "SignalTable" 77 yX2_init cX2_init 3 2 := ⟨kw_647, kw_648, kw_167, kw_649, rfl, by decide +kernel, by decide +kernel, by decide +kernel⟩
theorem caI_SignalTable_93 : CaI "SignalTable" 93 yX7_init cX7_init 3 2 := ⟨kw_680, kw_681, kw_169, kw_682, rfl, by decide +kernel, by decide +kernel, by decide +kernel⟩
theorem caV_SignalTable_98 : CaV "SignalTable" RX5 98 yX5_clear cX5_clear 1 none 0 := ⟨kw_691, kw_692, kw_693, kw_155, kw_694, rfl, by decide +kernel, by decide +kernel, by decide +kernel⟩
theorem caV_SignalTable_101 : CaV "SignalTable" RX5 101 yX5_settle cX5_settle 2 none 0 := ⟨kw_695, kw_696, kw_697, kw_155, kw_698, rfl, by decide +kernel, by decide +kernel, by decide +kernel⟩
theorem dX11_init_0 : decode cX11_init 0 = .ok (.aload_n 0, 1) := by decide +kernel
theorem dX11_init_1 : decode cX11_init 1 = .ok (.invokespecial 1, 3) := by decide +kernel
theorem dX11_init_4 : decode cX11_init 4 = .ok (.aload_n 0, 1) := by decide +kernel
theorem dX11_init_5 : decode cX11_init 5 = .ok (.sipush 2000, 3) := by decide +kernel
theorem dX11_init_8 : decode cX11_init 8 = .ok (.newarray .byte, 2) := by decide +kernel
theorem dX11_init_10 : decode cX11_init 10 = .ok (.putfield 9, 3) := by decide +kernel
theorem dX11_init_13 : decode cX11_init 13 = .ok (.aload_n 0, 1) := by decide +kernel
theorem dX11_init_14 : decode cX11_init 14 = .ok (.new 13, 3) := by decide +kernel
theorem dX11_init_17 : decode cX11_init 17 = .ok (.dup, 1) := by decide +kernel
theorem dX11_init_18 : decode cX11_init 18 = .ok (.invokespecial 15, 3) := by decide +kernel
theorem dX11_init_21 : decode cX11_init 21 = .ok (.putfield 16, 3) := by decide +kernel
theorem dX11_init_24 : decode cX11_init 24 = .ok (.aload_n 0, 1) := by decide +kernel
theorem dX11_init_25 : decode cX11_init 25 = .ok (.new 20, 3) := by decide +kernel
theorem dX11_init_28 : decode cX11_init 28 = .ok (.dup, 1) := by decide +kernel
theorem dX11_init_29 : decode cX11_init 29 = .ok (.aload_n 0, 1) := by decide +kernel
theorem dX11_init_30 : decode cX11_init 30 = .ok (.getfield 16, 3) := by decide +kernel
theorem dX11_init_33 : decode cX11_init 33 = .ok (.invokespecial 22, 3) := by decide +kernel
theorem dX11_init_36 : decode cX11_init 36 = .ok (.putfield 25, 3) := by decide +kernel
theorem dX11_init_39 : decode cX11_init 39 = .ok (.aload_n 0, 1) := by decide +kernel
theorem dX11_init_40 : decode cX11_init 40 = .ok (.new 29, 3) := by decide +kernel
theorem dX11_init_43 : decode cX11_init 43 = .ok (.dup, 1) := by decide +kernel
theorem dX11_init_44 : decode cX11_init 44 = .ok (.aload_n 0, 1) := by decide +kernel
theorem dX11_init_45 : decode cX11_init 45 = .ok (.getfield 16, 3) := by decide +kernel
theorem dX11_init_48 : decode cX11_init 48 = .ok (.invokespecial 31, 3) := by decide +kernel
theorem dX11_init_51 : decode cX11_init 51 = .ok (.putfield 32, 3) := by decide +kernel
theorem dX11_init_54 : decode cX11_init 54 = .ok (.aload_n 0, 1) := by decide +kernel
theorem dX11_init_55 : decode cX11_init 55 = .ok (.new 36, 3) := by decide +kernel
theorem dX11_init_58 : decode cX11_init 58 = .ok (.dup, 1) := by decide +kernel
theorem dX11_init_59 : decode cX11_init 59 = .ok (.aload_n 0, 1) := by decide +kernel
theorem dX11_init_60 : decode cX11_init 60 = .ok (.getfield 16, 3) := by decide +kernel
theorem dX11_init_63 : decode cX11_init 63 = .ok (.aload_n 0, 1) := by decide +kernel
theorem dX11_init_64 : decode cX11_init 64 = .ok (.getfield 25, 3) := by decide +kernel
theorem dX11_init_67 : decode cX11_init 67 = .ok (.invokespecial 38, 3) := by decide +kernel
theorem dX11_init_70 : decode cX11_init 70 = .ok (.putfield 41, 3) := by decide +kernel
theorem dX11_init_73 : decode cX11_init 73 = .ok (.aload_n 0, 1) := by decide +kernel
theorem dX11_init_74 : decode cX11_init 74 = .ok (.new 36, 3) := by decide +kernel
theorem dX11_init_77 : decode cX11_init 77 = .ok (.dup, 1) := by decide +kernel
theorem dX11_init_78 : decode cX11_init 78 = .ok (.aload_n 0, 1) := by decide +kernel
theorem dX11_init_79 : decode cX11_init 79 = .ok (.getfield 16, 3) := by decide +kernel
theorem dX11_init_82 : decode cX11_init 82 = .ok (.aload_n 0, 1) := by decide +kernel
theorem dX11_init_83 : decode cX11_init 83 = .ok (.getfield 25, 3) := by decide +kernel
theorem dX11_init_86 : decode cX11_init 86 = .ok (.invokespecial 38, 3) := by decide +kernel
theorem dX11_init_89 : decode cX11_init 89 = .ok (.putfield 45, 3) := by decide +kernel
theorem dX11_init_92 : decode cX11_init 92 = .ok (.aload_n 0, 1) := by decide +kernel
theorem dX11_init_93 : decode cX11_init 93 = .ok (.iconst 2, 1) := by decide +kernel
theorem dX11_init_94 : decode cX11_init 94 = .ok (.anewarray 36, 3) := by decide +kernel
theorem dX11_init_97 : decode cX11_init 97 = .ok (.putfield 48, 3) := by decide +kernel
theorem dX11_init_100 : decode cX11_init 100 = .ok (.aload_n 0, 1) := by decide +kernel
theorem dX11_init_101 : decode cX11_init 101 = .ok (.new 52, 3) := by decide +kernel
theorem dX11_init_104 : decode cX11_init 104 = .ok (.dup, 1) := by decide +kernel
theorem dX11_init_105 : decode cX11_init 105 = .ok (.aload_n 0, 1) := by decide +kernel
theorem dX11_init_106 : decode cX11_init 106 = .ok (.getfield 16, 3) := by decide +kernel
theorem dX11_init_109 : decode cX11_init 109 = .ok (.invokespecial 54, 3) := by decide +kernel
theorem dX11_init_112 : decode cX11_init 112 = .ok (.putfield 55, 3) := by decide +kernel
theorem dX11_init_115 : decode cX11_init 115 = .ok (.aload_n 0, 1) := by decide +kernel
theorem dX11_init_116 : decode cX11_init 116 = .ok (.new 59, 3) := by decide +kernel
theorem dX11_init_119 : decode cX11_init 119 = .ok (.dup, 1) := by decide +kernel
theorem dX11_init_120 : decode cX11_init 120 = .ok (.aload_n 0, 1) := by decide +kernel
theorem dX11_init_121 : decode cX11_init 121 = .ok (.getfield 16, 3) := by decide +kernel
theorem dX11_init_124 : decode cX11_init 124 = .ok (.aload_n 0, 1) := by decide +kernel
theorem dX11_init_125 : decode cX11_init 125 = .ok (.getfield 25, 3) := by decide +kernel
theorem dX11_init_128 : decode cX11_init 128 = .ok (.invokespecial 61, 3) := by decide +kernel
theorem dX11_init_131 : decode cX11_init 131 = .ok (.putfield 62, 3) := by decide +kernel
theorem dX11_init_134 : decode cX11_init 134 = .ok (.aload_n 0, 1) := by decide +kernel
theorem dX11_init_135 : decode cX11_init 135 = .ok (.new 66, 3) := by decide +kernel
theorem dX11_init_138 : decode cX11_init 138 = .ok (.dup, 1) := by decide +kernel
theorem dX11_init_139 : decode cX11_init 139 = .ok (.aload_n 0, 1) := by decide +kernel
theorem dX11_init_140 : decode cX11_init 140 = .ok (.getfield 62, 3) := by decide +kernel
theorem dX11_init_143 : decode cX11_init 143 = .ok (.aload_n 0, 1) := by decide +kernel
theorem dX11_init_144 : decode cX11_init 144 = .ok (.getfield 55, 3) := by decide +kernel
theorem dX11_init_147 : decode cX11_init 147 = .ok (.invokespecial 68, 3) := by decide +kernel
theorem dX11_init_150 : decode cX11_init 150 = .ok (.putfield 71, 3) := by decide +kernel
theorem dX11_init_153 : decode cX11_init 153 = .ok (.aload_n 0, 1) := by decide +kernel
theorem dX11_init_154 : decode cX11_init 154 = .ok (.new 75, 3) := by decide +kernel
theorem dX11_init_157 : decode cX11_init 157 = .ok (.dup, 1) := by decide +kernel
theorem dX11_init_158 : decode cX11_init 158 = .ok (.aload_n 0, 1) := by decide +kernel
theorem dX11_init_159 : decode cX11_init 159 = .ok (.getfield 45, 3) := by decide +kernel
theorem dX11_init_162 : decode cX11_init 162 = .ok (.aload_n 0, 1) := by decide +kernel
theorem dX11_init_163 : decode cX11_init 163 = .ok (.getfield 71, 3) := by decide +kernel
theorem dX11_init_166 : decode cX11_init 166 = .ok (.invokespecial 77, 3) := by decide +kernel
theorem dX11_init_169 : decode cX11_init 169 = .ok (.putfield 80, 3) := by decide +kernel
theorem dX11_init_172 : decode cX11_init 172 = .ok (.aload_n 0, 1) := by decide +kernel
theorem dX11_init_173 : decode cX11_init 173 = .ok (.new 84, 3) := by decide +kernel
theorem dX11_init_176 : decode cX11_init 176 = .ok (.dup, 1) := by decide +kernel
theorem dX11_init_177 : decode cX11_init 177 = .ok (.invokespecial 86, 3) := by decide +kernel
theorem dX11_init_180 : decode cX11_init 180 = .ok (.putfield 87, 3) := by decide +kernel
theorem dX11_init_183 : decode cX11_init 183 = .ok (.aload_n 0, 1) := by decide +kernel
theorem dX11_init_184 : decode cX11_init 184 = .ok (.new 91, 3) := by decide +kernel
theorem dX11_init_187 : decode cX11_init 187 = .ok (.dup, 1) := by decide +kernel
theorem dX11_init_188 : decode cX11_init 188 = .ok (.aload_n 0, 1) := by decide +kernel
theorem dX11_init_189 : decode cX11_init 189 = .ok (.getfield 16, 3) := by decide +kernel
theorem dX11_init_192 : decode cX11_init 192 = .ok (.aload_n 0, 1) := by decide +kernel
theorem dX11_init_193 : decode cX11_init 193 = .ok (.getfield 25, 3) := by decide +kernel
theorem dX11_init_196 : decode cX11_init 196 = .ok (.invokespecial 93, 3) := by decide +kernel
theorem dX11_init_199 : decode cX11_init 199 = .ok (.putfield 94, 3) := by decide +kernel
theorem dX11_init_202 : decode cX11_init 202 = .ok (.iconst 0, 1) := by decide +kernel
theorem dX11_init_203 : decode cX11_init 203 = .ok (.istore_n 1, 1) := by decide +kernel
theorem dX11_init_204 : decode cX11_init 204 = .ok (.iload_n 1, 1) := by decide +kernel
theorem dX11_init_205 : decode cX11_init 205 = .ok (.iconst 2, 1) := by decide +kernel
theorem dX11_init_206 : decode cX11_init 206 = .ok (.if_icmp .ge 30, 3) := by decide +kernel
theorem dX11_init_209 : decode cX11_init 209 = .ok (.aload_n 0, 1) := by decide +kernel
theorem dX11_init_210 : decode cX11_init 210 = .ok (.getfield 48, 3) := by decide +kernel
theorem dX11_init_213 : decode cX11_init 213 = .ok (.iload_n 1, 1) := by decide +kernel
theorem dX11_init_214 : decode cX11_init 214 = .ok (.new 36, 3) := by decide +kernel
theorem dX11_init_217 : decode cX11_init 217 = .ok (.dup, 1) := by decide +kernel
theorem dX11_init_218 : decode cX11_init 218 = .ok (.aload_n 0, 1) := by decide +kernel
theorem dX11_init_219 : decode cX11_init 219 = .ok (.getfield 16, 3) := by decide +kernel
theorem dX11_init_222 : decode cX11_init 222 = .ok (.aload_n 0, 1) := by decide +kernel
theorem dX11_init_223 : decode cX11_init 223 = .ok (.getfield 25, 3) := by decide +kernel
theorem dX11_init_226 : decode cX11_init 226 = .ok (.invokespecial 38, 3) := by decide +kernel
theorem dX11_init_229 : decode cX11_init 229 = .ok (.aastore, 1) := by decide +kernel
theorem dX11_init_230 : decode cX11_init 230 = .ok (.iinc 1 1, 3) := by decide +kernel
theorem dX11_init_233 : decode cX11_init 233 = .ok (.goto (-29), 3) := by decide +kernel
theorem dX11_init_236 : decode cX11_init 236 = .ok (.aload_n 0, 1) := by decide +kernel
theorem dX11_init_237 : decode cX11_init 237 = .ok (.getfield 16, 3) := by decide +kernel
theorem dX11_init_240 : decode cX11_init 240 = .ok (.invokevirtual 98, 3) := by decide +kernel
theorem dX11_init_243 : decode cX11_init 243 = .ok (.aload_n 0, 1) := by decide +kernel
theorem dX11_init_244 : decode cX11_init 244 = .ok (.getfield 16, 3) := by decide +kernel
theorem dX11_init_247 : decode cX11_init 247 = .ok (.invokevirtual 101, 3) := by decide +kernel
theorem dX11_init_250 : decode cX11_init 250 = .ok (.return_, 1) := by decide +kernel
