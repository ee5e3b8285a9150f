def byW : List Int32 := [112, 97, 99, 107, 32, 116, 114, 117, 109, 112, 32, 99, 117, 115, 116, 111, 109, 32, 108, 101, 97, 100, 32, 102, 111, 108, 108, 111, 119, 32, 100, 105, 115, 99, 97, 114, 100, 32, 119, 104, 101, 110, 32, 115, 97, 121, 115, 32, 111, 114, 32, 97, 110, 100, 32, 110, 111, 116, 32, 99, 111, 117, 110, 116, 32, 115, 117, 105, 116, 32, 114, 97, 110, 107, 32, 108, 101, 100, 32, 116, 114, 105, 99, 107, 32, 98, 101, 102, 111, 114, 101, 32, 104, 101, 108, 100, 32, 104, 105, 103, 104, 32, 108, 111, 119, 32, 118, 111, 105, 100, 115, 32, 116, 114, 117, 109, 112, 115, 32]
abbrev tmW : Term := Term.string "SignalTable$Tokens" 25
abbrev fvW : Term := Term.field tmW "java/lang/String" "value" "[B"
abbrev nvW : List Cond := flatC (Jvm.Cond.and given_1 narrow_1)
set_option maxRecDepth 100000 in
theorem mm_0 : Cond.exactly tmW "java/lang/String" ∈ nvW := by decide +kernel
set_option maxRecDepth 100000 in
theorem mm_1 : Cond.eq (.field tmW "java/lang/String" "coder" "B") (.int 0) ∈ nvW := by decide +kernel
set_option maxRecDepth 100000 in
theorem mm_2 : Cond.arrayOf fvW .byte ∈ nvW := by decide +kernel
set_option maxRecDepth 100000 in
theorem mm_3 : Cond.eq (.length fvW) (.int (Int32.ofNat 119)) ∈ nvW := by decide +kernel
set_option maxRecDepth 100000 in
theorem mm_4 : ∀ j, j < 119 → Cond.eq (.elem fvW (.int (Int32.ofNat j))) (.int (byW.getD j 0)) ∈ nvW := by decide +kernel
set_option maxRecDepth 100000 in
theorem mm_5 : Cond.eq (Term.static "java/lang/String" "COMPACT_STRINGS" "Z") (.int 1) ∈ nvW := by decide +kernel
set_option maxRecDepth 100000 in
theorem mm_6 : Cond.isRef (Term.static "jdk/internal/util/Preconditions" "SIOOBE_FORMATTER" "Ljava/util/function/BiFunction;") ∈ nvW := by decide +kernel
set_option maxHeartbeats 4000000 in
set_option maxRecDepth 100000 in
theorem law_str {s : State} {b : Nat} {A : Nat → Prop} (hgv : (Jvm.Cond.and given_1 narrow_1).before #[Value.ref b] s = true) (hts0 : ∀ w ∈ lw_tbl, w.before #[Value.ref b] s = true) (hAn : ∀ a : Nat, a < s.heap.size → ¬ A a) : ∃ (a v : Nat) (fm : Option Nat), vk_R "SignalTable$Tokens" 25 "pack trump custom lead follow discard when says or and not count suit rank led trick before held high low voids trumps " a s ∧ StrF a v 119 (fun j => byW.getD j 0) fm A s s.heap := by
  have hs := flat_of_before _ hgv
  have q3 : ∀ i : Nat, i < 1 → (Cond.eq (.length fvW) (.int (Int32.ofNat (([119] : List Nat).getD i 0)))).before #[Value.ref b] s = true := by
    intro i hi
    obtain rfl : i = 0 := by omega
    exact hs _ mm_3
  have q4 : ∀ i : Nat, i < 1 → ∀ j : Nat, j < ([119] : List Nat).getD i 0 → (Cond.eq (.elem fvW (.int (Int32.ofNat j))) (.int (([byW] : List (List Int32)).getD i [] |>.getD j 0))).before #[Value.ref b] s = true := by
    intro i hi j hj
    obtain rfl : i = 0 := by omega
    exact hs _ (mm_4 j hj)
  obtain ⟨adK, adV, hSS, hev⟩ := vk_Sof (args := #[Value.ref b]) (s := s) (N := 1) (tm := fun _ => tmW) (len := [119]) (byt := [byW]) (A := A) (by decide) (fun _ _ => hs _ mm_0) (fun _ _ => hs _ mm_1) (fun _ _ => hs _ mm_2) q3 q4 (fun i j hi hj h => absurd (by omega) h) hAn
  have h0 := hSS.1 0 (by decide)
  obtain ⟨y, e1, e2⟩ := Cond.eq_one (show (Cond.eq (Term.static "java/lang/String" "COMPACT_STRINGS" "Z") (.int 1)).holds #[Value.ref b] s none s [] = true from hs _ mm_5)
  have e3 : some (Value.int 1) = some y := e2
  cases e3
  have z1 := va_Zof (A := A) (hts0 (.laysStatic "java/lang/String" "COMPACT_STRINGS" "Z") (List.mem_of_getElem? (i := 319) (by decide +kernel))) (hts0 (.initialized "java/lang/String") (List.mem_of_getElem? (i := 159) (by decide +kernel))) e1 hAn
  have z2 := va_Zqof (A := A) (hts0 (.laysStatic "jdk/internal/util/Preconditions" "SIOOBE_FORMATTER" "Ljava/util/function/BiFunction;") (List.mem_of_getElem? (i := 335) (by decide +kernel))) (hts0 (.initialized "jdk/internal/util/Preconditions") (List.mem_of_getElem? (i := 161) (by decide +kernel))) (hs _ mm_6) hAn
  have hR := vk_R.of (hts0 (.stringRef "SignalTable$Tokens" 25 "pack trump custom lead follow discard when says or and not count suit rank led trick before held high low voids trumps ") (List.mem_of_getElem? (i := 309) (by decide +kernel))) (hev 0 (by decide))
  rcases z2 with z2 | ⟨t, z2⟩
  · exact ⟨adK 0, adV 0, none, hR, h0.1, h0.2.1, h0.2.2.1, h0.2.2.2, z1, z2⟩
  · exact ⟨adK 0, adV 0, some t, hR, h0.1, h0.2.1, h0.2.2.1, h0.2.2.2, z1, z2⟩
