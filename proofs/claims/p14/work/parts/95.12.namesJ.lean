/-! names of the JDK's methods -/
abbrev cJ0_charAt_5068e : ByteArray := prog_17_method_56_code
def yJ0_charAt_5068e : MethodName := ⟨"java/lang/String", "charAt", "(I)C"⟩
abbrev cJ0_checkIndex_df160 : ByteArray := prog_17_method_155_code
def yJ0_checkIndex_df160 : MethodName := ⟨"java/lang/String", "checkIndex", "(II)V"⟩
abbrev cJ0_coder_7d493 : ByteArray := prog_17_method_152_code
def yJ0_coder_7d493 : MethodName := ⟨"java/lang/String", "coder", "()B"⟩
abbrev cJ0_isLatin1_aae02 : ByteArray := prog_17_method_154_code
def yJ0_isLatin1_aae02 : MethodName := ⟨"java/lang/String", "isLatin1", "()Z"⟩
abbrev cJ0_length_8abf5 : ByteArray := prog_17_method_54_code
def yJ0_length_8abf5 : MethodName := ⟨"java/lang/String", "length", "()I"⟩
abbrev cJ1_charAt_3b067 : ByteArray := prog_18_method_2_code
def yJ1_charAt_3b067 : MethodName := ⟨"java/lang/StringLatin1", "charAt", "([BI)C"⟩
abbrev cJ3_checkIndex_8e157 : ByteArray := prog_21_method_11_code
def yJ3_checkIndex_8e157 : MethodName := ⟨"jdk/internal/util/Preconditions", "checkIndex", "(IILjava/util/function/BiFunction;)I"⟩
theorem kw_159 : Cond.initialized "java/lang/String" ∈ lwg := wu_mem (i := 159) (by decide +kernel) rfl
theorem kw_160 : Cond.initialized "java/lang/StringLatin1" ∈ lwg := wu_mem (i := 160) (by decide +kernel) rfl
theorem kw_161 : Cond.initialized "jdk/internal/util/Preconditions" ∈ lwg := wu_mem (i := 161) (by decide +kernel) rfl
theorem kw_314 : Cond.methodLink "java/lang/String" 335 yJ0_coder_7d493 ∈ lwg := wu_mem (i := 314) (by decide +kernel) rfl
theorem kw_315 : Cond.instanceMethod yJ0_coder_7d493 ∈ lwg := wu_mem (i := 315) (by decide +kernel) rfl
theorem kw_316 : Cond.selects "java/lang/String" yJ0_coder_7d493 yJ0_coder_7d493 ∈ lwg := wu_mem (i := 316) (by decide +kernel) rfl
theorem kw_317 : Cond.code yJ0_coder_7d493 cJ0_coder_7d493 1 (some .byte) ∈ lwg := wu_mem (i := 317) (by decide +kernel) rfl
theorem kw_318 : Cond.fieldLink "java/lang/String" 38 "java/lang/String" "COMPACT_STRINGS" "Z" ∈ lwg := wu_mem (i := 318) (by decide +kernel) rfl
theorem kw_324 : Cond.methodLink "java/lang/String" 492 yJ0_isLatin1_aae02 ∈ lwg := wu_mem (i := 324) (by decide +kernel) rfl
theorem kw_325 : Cond.instanceMethod yJ0_isLatin1_aae02 ∈ lwg := wu_mem (i := 325) (by decide +kernel) rfl
theorem kw_326 : Cond.selects "java/lang/String" yJ0_isLatin1_aae02 yJ0_isLatin1_aae02 ∈ lwg := wu_mem (i := 326) (by decide +kernel) rfl
theorem kw_327 : Cond.code yJ0_isLatin1_aae02 cJ0_isLatin1_aae02 1 (some .boolean) ∈ lwg := wu_mem (i := 327) (by decide +kernel) rfl
theorem kw_328 : Cond.methodLink "java/lang/String" 495 yJ1_charAt_3b067 ∈ lwg := wu_mem (i := 328) (by decide +kernel) rfl
theorem kw_329 : Cond.static yJ1_charAt_3b067 ∈ lwg := wu_mem (i := 329) (by decide +kernel) rfl
theorem kw_330 : Cond.code yJ1_charAt_3b067 cJ1_charAt_3b067 2 (some .char) ∈ lwg := wu_mem (i := 330) (by decide +kernel) rfl
theorem kw_331 : Cond.methodLink "java/lang/StringLatin1" 9 yJ0_checkIndex_df160 ∈ lwg := wu_mem (i := 331) (by decide +kernel) rfl
theorem kw_332 : Cond.static yJ0_checkIndex_df160 ∈ lwg := wu_mem (i := 332) (by decide +kernel) rfl
theorem kw_333 : Cond.code yJ0_checkIndex_df160 cJ0_checkIndex_df160 2 none ∈ lwg := wu_mem (i := 333) (by decide +kernel) rfl
theorem kw_334 : Cond.fieldLink "java/lang/String" 1053 "jdk/internal/util/Preconditions" "SIOOBE_FORMATTER" "Ljava/util/function/BiFunction;" ∈ lwg := wu_mem (i := 334) (by decide +kernel) rfl
theorem kw_336 : Cond.methodLink "java/lang/String" 1059 yJ3_checkIndex_8e157 ∈ lwg := wu_mem (i := 336) (by decide +kernel) rfl
theorem kw_337 : Cond.static yJ3_checkIndex_8e157 ∈ lwg := wu_mem (i := 337) (by decide +kernel) rfl
theorem kw_338 : Cond.code yJ3_checkIndex_8e157 cJ3_checkIndex_8e157 3 (some .int) ∈ lwg := wu_mem (i := 338) (by decide +kernel) rfl
theorem kw_2374 : Cond.fieldLink "java/lang/String" 9 "java/lang/String" "value" "[B" ∈ lwg := wu_mem (i := 2374) (by decide +kernel) rfl
theorem kw_2375 : Cond.fieldLink "java/lang/String" 15 "java/lang/String" "coder" "B" ∈ lwg := wu_mem (i := 2375) (by decide +kernel) rfl
theorem caV_java_lang_String_335 : CaV "java/lang/String" "java/lang/String" 335 yJ0_coder_7d493 cJ0_coder_7d493 1 (some .byte) 0 := ⟨kw_314, kw_315, kw_316, kw_159, kw_317, rfl, by decide +kernel, by decide +kernel, by decide +kernel⟩
theorem caS_java_lang_String_1059 : CaS "java/lang/String" 1059 yJ3_checkIndex_8e157 cJ3_checkIndex_8e157 3 (some .int) 3 := ⟨kw_336, kw_337, kw_161, kw_338, by decide +kernel, by decide +kernel, by decide +kernel⟩
theorem caS_java_lang_StringLatin1_9 : CaS "java/lang/StringLatin1" 9 yJ0_checkIndex_df160 cJ0_checkIndex_df160 2 none 2 := ⟨kw_331, kw_332, kw_159, kw_333, by decide +kernel, by decide +kernel, by decide +kernel⟩
theorem caV_java_lang_String_492 : CaV "java/lang/String" "java/lang/String" 492 yJ0_isLatin1_aae02 cJ0_isLatin1_aae02 1 (some .boolean) 0 := ⟨kw_324, kw_325, kw_326, kw_159, kw_327, rfl, by decide +kernel, by decide +kernel, by decide +kernel⟩
theorem caS_java_lang_String_495 : CaS "java/lang/String" 495 yJ1_charAt_3b067 cJ1_charAt_3b067 2 (some .char) 2 := ⟨kw_328, kw_329, kw_160, kw_330, by decide +kernel, by decide +kernel, by decide +kernel⟩
theorem dJ0_charAt_5068e_0 : decode cJ0_charAt_5068e 0 = .ok (.aload_n 0, 1) := by decide +kernel
theorem dJ0_charAt_5068e_1 : decode cJ0_charAt_5068e 1 = .ok (.invokevirtual 492, 3) := by decide +kernel
theorem dJ0_charAt_5068e_4 : decode cJ0_charAt_5068e 4 = .ok (.ifCond .eq 12, 3) := by decide +kernel
theorem dJ0_charAt_5068e_7 : decode cJ0_charAt_5068e 7 = .ok (.aload_n 0, 1) := by decide +kernel
theorem dJ0_charAt_5068e_8 : decode cJ0_charAt_5068e 8 = .ok (.getfield 9, 3) := by decide +kernel
theorem dJ0_charAt_5068e_11 : decode cJ0_charAt_5068e 11 = .ok (.iload_n 1, 1) := by decide +kernel
theorem dJ0_charAt_5068e_12 : decode cJ0_charAt_5068e 12 = .ok (.invokestatic 495, 3) := by decide +kernel
theorem dJ0_charAt_5068e_15 : decode cJ0_charAt_5068e 15 = .ok (.ireturn, 1) := by decide +kernel
theorem dJ0_checkIndex_df160_0 : decode cJ0_checkIndex_df160 0 = .ok (.iload_n 0, 1) := by decide +kernel
theorem dJ0_checkIndex_df160_1 : decode cJ0_checkIndex_df160 1 = .ok (.iload_n 1, 1) := by decide +kernel
theorem dJ0_checkIndex_df160_2 : decode cJ0_checkIndex_df160 2 = .ok (.getstatic 1053, 3) := by decide +kernel
theorem dJ0_checkIndex_df160_5 : decode cJ0_checkIndex_df160 5 = .ok (.invokestatic 1059, 3) := by decide +kernel
theorem dJ0_checkIndex_df160_8 : decode cJ0_checkIndex_df160 8 = .ok (.pop, 1) := by decide +kernel
theorem dJ0_checkIndex_df160_9 : decode cJ0_checkIndex_df160 9 = .ok (.return_, 1) := by decide +kernel
theorem dJ0_coder_7d493_0 : decode cJ0_coder_7d493 0 = .ok (.getstatic 38, 3) := by decide +kernel
theorem dJ0_coder_7d493_3 : decode cJ0_coder_7d493 3 = .ok (.ifCond .eq 10, 3) := by decide +kernel
theorem dJ0_coder_7d493_6 : decode cJ0_coder_7d493 6 = .ok (.aload_n 0, 1) := by decide +kernel
theorem dJ0_coder_7d493_7 : decode cJ0_coder_7d493 7 = .ok (.getfield 15, 3) := by decide +kernel
theorem dJ0_coder_7d493_10 : decode cJ0_coder_7d493 10 = .ok (.goto 4, 3) := by decide +kernel
theorem dJ0_coder_7d493_14 : decode cJ0_coder_7d493 14 = .ok (.ireturn, 1) := by decide +kernel
theorem dJ0_isLatin1_aae02_0 : decode cJ0_isLatin1_aae02 0 = .ok (.getstatic 38, 3) := by decide +kernel
theorem dJ0_isLatin1_aae02_3 : decode cJ0_isLatin1_aae02 3 = .ok (.ifCond .eq 14, 3) := by decide +kernel
theorem dJ0_isLatin1_aae02_6 : decode cJ0_isLatin1_aae02 6 = .ok (.aload_n 0, 1) := by decide +kernel
theorem dJ0_isLatin1_aae02_7 : decode cJ0_isLatin1_aae02 7 = .ok (.getfield 15, 3) := by decide +kernel
theorem dJ0_isLatin1_aae02_10 : decode cJ0_isLatin1_aae02 10 = .ok (.ifCond .ne 7, 3) := by decide +kernel
theorem dJ0_isLatin1_aae02_13 : decode cJ0_isLatin1_aae02 13 = .ok (.iconst 1, 1) := by decide +kernel
theorem dJ0_isLatin1_aae02_14 : decode cJ0_isLatin1_aae02 14 = .ok (.goto 4, 3) := by decide +kernel
theorem dJ0_isLatin1_aae02_18 : decode cJ0_isLatin1_aae02 18 = .ok (.ireturn, 1) := by decide +kernel
theorem dJ0_length_8abf5_0 : decode cJ0_length_8abf5 0 = .ok (.aload_n 0, 1) := by decide +kernel
theorem dJ0_length_8abf5_1 : decode cJ0_length_8abf5 1 = .ok (.getfield 9, 3) := by decide +kernel
theorem dJ0_length_8abf5_4 : decode cJ0_length_8abf5 4 = .ok (.arraylength, 1) := by decide +kernel
theorem dJ0_length_8abf5_5 : decode cJ0_length_8abf5 5 = .ok (.aload_n 0, 1) := by decide +kernel
theorem dJ0_length_8abf5_6 : decode cJ0_length_8abf5 6 = .ok (.invokevirtual 335, 3) := by decide +kernel
theorem dJ0_length_8abf5_9 : decode cJ0_length_8abf5 9 = .ok (.ishr, 1) := by decide +kernel
theorem dJ0_length_8abf5_10 : decode cJ0_length_8abf5 10 = .ok (.ireturn, 1) := by decide +kernel
theorem dJ1_charAt_3b067_0 : decode cJ1_charAt_3b067 0 = .ok (.iload_n 1, 1) := by decide +kernel
theorem dJ1_charAt_3b067_1 : decode cJ1_charAt_3b067 1 = .ok (.aload_n 0, 1) := by decide +kernel
theorem dJ1_charAt_3b067_2 : decode cJ1_charAt_3b067 2 = .ok (.arraylength, 1) := by decide +kernel
theorem dJ1_charAt_3b067_3 : decode cJ1_charAt_3b067 3 = .ok (.invokestatic 9, 3) := by decide +kernel
theorem dJ1_charAt_3b067_6 : decode cJ1_charAt_3b067 6 = .ok (.aload_n 0, 1) := by decide +kernel
theorem dJ1_charAt_3b067_7 : decode cJ1_charAt_3b067 7 = .ok (.iload_n 1, 1) := by decide +kernel
theorem dJ1_charAt_3b067_8 : decode cJ1_charAt_3b067 8 = .ok (.baload, 1) := by decide +kernel
theorem dJ1_charAt_3b067_9 : decode cJ1_charAt_3b067 9 = .ok (.sipush 255, 3) := by decide +kernel
theorem dJ1_charAt_3b067_12 : decode cJ1_charAt_3b067 12 = .ok (.iand, 1) := by decide +kernel
theorem dJ1_charAt_3b067_13 : decode cJ1_charAt_3b067 13 = .ok (.i2c, 1) := by decide +kernel
theorem dJ1_charAt_3b067_14 : decode cJ1_charAt_3b067 14 = .ok (.ireturn, 1) := by decide +kernel
theorem dJ3_checkIndex_8e157_0 : decode cJ3_checkIndex_8e157 0 = .ok (.iload_n 0, 1) := by decide +kernel
theorem dJ3_checkIndex_8e157_1 : decode cJ3_checkIndex_8e157 1 = .ok (.ifCond .lt 8, 3) := by decide +kernel
theorem dJ3_checkIndex_8e157_4 : decode cJ3_checkIndex_8e157 4 = .ok (.iload_n 0, 1) := by decide +kernel
theorem dJ3_checkIndex_8e157_5 : decode cJ3_checkIndex_8e157 5 = .ok (.iload_n 1, 1) := by decide +kernel
theorem dJ3_checkIndex_8e157_6 : decode cJ3_checkIndex_8e157 6 = .ok (.if_icmp .lt 10, 3) := by decide +kernel
theorem dJ3_checkIndex_8e157_16 : decode cJ3_checkIndex_8e157 16 = .ok (.iload_n 0, 1) := by decide +kernel
theorem dJ3_checkIndex_8e157_17 : decode cJ3_checkIndex_8e157 17 = .ok (.ireturn, 1) := by decide +kernel
