/-! names of the law, second part -/
theorem kw_174 : Cond.classLink "SignalTableLaw" 7 "SignalTable" ∈ lwg := wu_mem (i := 174) (by decide +kernel) rfl
theorem kw_175 : Cond.instantiable "SignalTable" 14 ∈ lwg := wu_mem (i := 175) (by decide +kernel) rfl
theorem kw_176 : Cond.methodLink "SignalTableLaw" 9 yX11_init ∈ lwg := wu_mem (i := 176) (by decide +kernel) rfl
theorem kw_177 : Cond.instanceMethod yX11_init ∈ lwg := wu_mem (i := 177) (by decide +kernel) rfl
theorem kw_178 : Cond.code yX11_init cX11_init 2 none ∈ lwg := wu_mem (i := 178) (by decide +kernel) rfl
theorem kw_1500 : Cond.classLink "SignalTableLaw" 10 "SignalTableModel" ∈ lwg := wu_mem (i := 1500) (by decide +kernel) rfl
theorem kw_1501 : Cond.instantiable "SignalTableModel" 95 ∈ lwg := wu_mem (i := 1501) (by decide +kernel) rfl
theorem kw_1502 : Cond.methodLink "SignalTableLaw" 12 yX12_init ∈ lwg := wu_mem (i := 1502) (by decide +kernel) rfl
theorem kw_1503 : Cond.instanceMethod yX12_init ∈ lwg := wu_mem (i := 1503) (by decide +kernel) rfl
set_option maxRecDepth 100000 in
theorem kw_1504 : Cond.code yX12_init cX12_init 1 none ∈ lwg := wu_mem (i := 1504) (by exact rfl) rfl
theorem caI_SignalTableLaw_9 : CaI "SignalTableLaw" 9 yX11_init cX11_init 2 0 := ⟨kw_176, kw_177, kw_154, kw_178, rfl, by decide +kernel, by decide +kernel, by decide +kernel⟩
theorem caI_SignalTableLaw_12 : CaI "SignalTableLaw" 12 yX12_init cX12_init 1 0 := ⟨kw_1502, kw_1503, kw_171, kw_1504, rfl, by decide +kernel, by decide +kernel, by decide +kernel⟩
theorem dL_law_0 : decode code 0 = .ok (.new 7, 3) := by decide +kernel
theorem dL_law_3 : decode code 3 = .ok (.dup, 1) := by decide +kernel
theorem dL_law_4 : decode code 4 = .ok (.invokespecial 9, 3) := by decide +kernel
theorem dL_law_7 : decode code 7 = .ok (.astore_n 1, 1) := by decide +kernel
theorem dL_law_8 : decode code 8 = .ok (.new 10, 3) := by decide +kernel
theorem dL_law_11 : decode code 11 = .ok (.dup, 1) := by decide +kernel
theorem dL_law_12 : decode code 12 = .ok (.invokespecial 12, 3) := by decide +kernel
theorem dL_law_15 : decode code 15 = .ok (.astore_n 2, 1) := by decide +kernel
theorem dL_law_16 : decode code 16 = .ok (.iconst 0, 1) := by decide +kernel
theorem dL_law_17 : decode code 17 = .ok (.istore_n 3, 1) := by decide +kernel
theorem dL_law_18 : decode code 18 = .ok (.iload_n 3, 1) := by decide +kernel
theorem dL_law_19 : decode code 19 = .ok (.aload_n 0, 1) := by decide +kernel
theorem dL_law_20 : decode code 20 = .ok (.arraylength, 1) := by decide +kernel
theorem dL_law_21 : decode code 21 = .ok (.bipush 6, 2) := by decide +kernel
theorem dL_law_23 : decode code 23 = .ok (.isub, 1) := by decide +kernel
theorem dL_law_24 : decode code 24 = .ok (.if_icmp .gt 1474, 3) := by decide +kernel
theorem dL_law_27 : decode code 27 = .ok (.aload_n 0, 1) := by decide +kernel
theorem dL_law_28 : decode code 28 = .ok (.iload_n 3, 1) := by decide +kernel
theorem dL_law_29 : decode code 29 = .ok (.iaload, 1) := by decide +kernel
theorem dL_law_30 : decode code 30 = .ok (.bipush 63, 2) := by decide +kernel
theorem dL_law_32 : decode code 32 = .ok (.iand, 1) := by decide +kernel
theorem dL_law_33 : decode code 33 = .ok (.tableswitch 1459 0 43 #[191, 254, 277, 290, 303, 326, 369, 392, 441, 454, 467, 490, 513, 526, 559, 582, 605, 648, 681, 734, 767, 810, 863, 886, 899, 922, 955, 978, 1021, 1054, 1077, 1100, 1123, 1146, 1189, 1232, 1245, 1268, 1311, 1344, 1377, 1390, 1413, 1436], 191) := by decide +kernel
theorem dL_law_1495 : decode code 1495 = .ok (.goto (-1477), 3) := by decide +kernel
theorem dL_law_1498 : decode code 1498 = .ok (.iconst 1, 1) := by decide +kernel
theorem dL_law_1499 : decode code 1499 = .ok (.ireturn, 1) := by decide +kernel
