/-! names -/
abbrev cX0_init : ByteArray := prog_2_method_1_code
def yX0_init : MethodName := ⟨RX0, "<init>", "()V"⟩
abbrev cX1_init : ByteArray := prog_3_method_1_code
def yX1_init : MethodName := ⟨RX1, "<init>", "(LSignalTable$Laws;LSignalTable$Judge;)V"⟩
abbrev cX10_init : ByteArray := prog_12_method_1_code
def yX10_init : MethodName := ⟨RX10, "<init>", "(LSignalTable$Deals;LSignalTable$Open;)V"⟩
abbrev cX2_init : ByteArray := prog_4_method_1_code
def yX2_init : MethodName := ⟨RX2, "<init>", "(LSignalTable$Game;LSignalTable$Weigher;)V"⟩
abbrev cX3_init : ByteArray := prog_5_method_1_code
def yX3_init : MethodName := ⟨RX3, "<init>", "(LSignalTable$Laws;LSignalTable$Judge;)V"⟩
abbrev cX4_init : ByteArray := prog_6_method_1_code
def yX4_init : MethodName := ⟨RX4, "<init>", "(LSignalTable$Laws;)V"⟩
abbrev cX5_init : ByteArray := prog_7_method_1_code
def yX5_init : MethodName := ⟨RX5, "<init>", "()V"⟩
abbrev cX6_init : ByteArray := prog_8_method_1_code
def yX6_init : MethodName := ⟨RX6, "<init>", "(LSignalTable$Laws;)V"⟩
abbrev cX7_init : ByteArray := prog_9_method_1_code
def yX7_init : MethodName := ⟨RX7, "<init>", "(LSignalTable$Laws;LSignalTable$Judge;)V"⟩
theorem kw_180 : Cond.instanceMethod ⟨"java/lang/Object", "<init>", "()V"⟩ ∈ lwg := wu_mem (i := 180) (by decide +kernel) rfl
theorem kw_181 : Cond.code Lib.objectInit ⟨#[0xb1]⟩ 1 none ∈ lwg := wu_mem (i := 181) (by decide +kernel) rfl
theorem kw_187 : Cond.methodLink "SignalTable$Laws" 3 ⟨"java/lang/Object", "<init>", "()V"⟩ ∈ lwg := wu_mem (i := 187) (by decide +kernel) rfl
theorem kw_205 : Cond.fieldLink "SignalTable$Laws" 9 "SignalTable$Laws" "side" "[I" ∈ lwg := wu_mem (i := 205) (by decide +kernel) rfl
theorem kw_208 : Cond.fieldLink "SignalTable$Laws" 15 "SignalTable$Laws" "kind" "[I" ∈ lwg := wu_mem (i := 208) (by decide +kernel) rfl
theorem kw_212 : Cond.fieldLink "SignalTable$Laws" 18 "SignalTable$Laws" "from" "[I" ∈ lwg := wu_mem (i := 212) (by decide +kernel) rfl
theorem kw_214 : Cond.fieldLink "SignalTable$Laws" 21 "SignalTable$Laws" "to" "[I" ∈ lwg := wu_mem (i := 214) (by decide +kernel) rfl
theorem kw_216 : Cond.fieldLink "SignalTable$Laws" 26 "SignalTable$Laws" "step" "[I" ∈ lwg := wu_mem (i := 216) (by decide +kernel) rfl
theorem kw_231 : Cond.fieldLink "SignalTable$Laws" 29 "SignalTable$Laws" "suitCards" "[I" ∈ lwg := wu_mem (i := 231) (by decide +kernel) rfl
theorem kw_232 : Cond.fieldLink "SignalTable$Open" 35 "SignalTable$Laws" "suitCards" "[I" ∈ lwg := wu_mem (i := 232) (by decide +kernel) rfl
theorem kw_236 : Cond.fieldLink "SignalTable$Laws" 32 "SignalTable$Laws" "suitOf" "[I" ∈ lwg := wu_mem (i := 236) (by decide +kernel) rfl
theorem kw_237 : Cond.fieldLink "SignalTable$Open" 41 "SignalTable$Laws" "suitOf" "[I" ∈ lwg := wu_mem (i := 237) (by decide +kernel) rfl
theorem kw_240 : Cond.fieldLink "SignalTable$Laws" 35 "SignalTable$Laws" "hands" "[I" ∈ lwg := wu_mem (i := 240) (by decide +kernel) rfl
theorem kw_280 : Cond.arrayClass .int ∈ lwg := wu_mem (i := 280) (by decide +kernel) rfl
theorem kw_286 : Cond.methodLink "SignalTable$Judge" 1 ⟨"java/lang/Object", "<init>", "()V"⟩ ∈ lwg := wu_mem (i := 286) (by decide +kernel) rfl
theorem kw_287 : Cond.fieldLink "SignalTable$Judge" 16 "SignalTable$Judge" "laws" "LSignalTable$Laws;" ∈ lwg := wu_mem (i := 287) (by decide +kernel) rfl
theorem kw_288 : Cond.fieldLink "SignalTable$Judge" 9 "SignalTable$Judge" "variable" "[I" ∈ lwg := wu_mem (i := 288) (by decide +kernel) rfl
theorem kw_289 : Cond.fieldLink "SignalTable$Judge" 13 "SignalTable$Judge" "stack" "[I" ∈ lwg := wu_mem (i := 289) (by decide +kernel) rfl
theorem kw_378 : Cond.arrayClass .long ∈ lwg := wu_mem (i := 378) (by decide +kernel) rfl
theorem kw_419 : Cond.methodLink "SignalTable$Game" 3 ⟨"java/lang/Object", "<init>", "()V"⟩ ∈ lwg := wu_mem (i := 419) (by decide +kernel) rfl
theorem kw_420 : Cond.fieldLink "SignalTable$Game" 49 "SignalTable$Game" "laws" "LSignalTable$Laws;" ∈ lwg := wu_mem (i := 420) (by decide +kernel) rfl
theorem kw_421 : Cond.fieldLink "SignalTable$Game" 53 "SignalTable$Game" "judge" "LSignalTable$Judge;" ∈ lwg := wu_mem (i := 421) (by decide +kernel) rfl
theorem kw_424 : Cond.fieldLink "SignalTable$Game" 9 "SignalTable$Game" "dealt" "[I" ∈ lwg := wu_mem (i := 424) (by decide +kernel) rfl
theorem kw_428 : Cond.fieldLink "SignalTable$Game" 15 "SignalTable$Game" "now" "[I" ∈ lwg := wu_mem (i := 428) (by decide +kernel) rfl
theorem kw_433 : Cond.fieldLink "SignalTable$Game" 18 "SignalTable$Game" "turn" "I" ∈ lwg := wu_mem (i := 433) (by decide +kernel) rfl
theorem kw_444 : Cond.fieldLink "SignalTable$Game" 22 "SignalTable$Game" "cards" "[I" ∈ lwg := wu_mem (i := 444) (by decide +kernel) rfl
theorem kw_449 : Cond.fieldLink "SignalTable$Game" 25 "SignalTable$Game" "who" "[I" ∈ lwg := wu_mem (i := 449) (by decide +kernel) rfl
theorem kw_454 : Cond.fieldLink "SignalTable$Game" 28 "SignalTable$Game" "kind" "[I" ∈ lwg := wu_mem (i := 454) (by decide +kernel) rfl
theorem kw_457 : Cond.fieldLink "SignalTable$Game" 31 "SignalTable$Game" "led" "[I" ∈ lwg := wu_mem (i := 457) (by decide +kernel) rfl
theorem kw_459 : Cond.fieldLink "SignalTable$Game" 34 "SignalTable$Game" "before" "[I" ∈ lwg := wu_mem (i := 459) (by decide +kernel) rfl
theorem kw_462 : Cond.fieldLink "SignalTable$Game" 37 "SignalTable$Game" "broken" "[I" ∈ lwg := wu_mem (i := 462) (by decide +kernel) rfl
theorem kw_464 : Cond.fieldLink "SignalTable$Game" 40 "SignalTable$Game" "applies" "[I" ∈ lwg := wu_mem (i := 464) (by decide +kernel) rfl
theorem kw_469 : Cond.fieldLink "SignalTable$Game" 43 "SignalTable$Game" "lied" "[I" ∈ lwg := wu_mem (i := 469) (by decide +kernel) rfl
theorem kw_472 : Cond.fieldLink "SignalTable$Game" 46 "SignalTable$Game" "winners" "[I" ∈ lwg := wu_mem (i := 472) (by decide +kernel) rfl
theorem kw_520 : Cond.methodLink "SignalTable$Open" 3 ⟨"java/lang/Object", "<init>", "()V"⟩ ∈ lwg := wu_mem (i := 520) (by decide +kernel) rfl
theorem kw_521 : Cond.fieldLink "SignalTable$Open" 31 "SignalTable$Open" "laws" "LSignalTable$Laws;" ∈ lwg := wu_mem (i := 521) (by decide +kernel) rfl
theorem kw_522 : Cond.fieldLink "SignalTable$Open" 40 "SignalTable$Open" "suitCards" "[I" ∈ lwg := wu_mem (i := 522) (by decide +kernel) rfl
theorem kw_523 : Cond.fieldLink "SignalTable$Open" 44 "SignalTable$Open" "suitOf" "[I" ∈ lwg := wu_mem (i := 523) (by decide +kernel) rfl
theorem kw_524 : Cond.fieldLink "SignalTable$Open" 9 "SignalTable$Open" "hand" "[I" ∈ lwg := wu_mem (i := 524) (by decide +kernel) rfl
theorem kw_531 : Cond.fieldLink "SignalTable$Open" 15 "SignalTable$Open" "memory" "[I" ∈ lwg := wu_mem (i := 531) (by decide +kernel) rfl
theorem kw_533 : Cond.fieldLink "SignalTable$Open" 18 "SignalTable$Open" "age" "I" ∈ lwg := wu_mem (i := 533) (by decide +kernel) rfl
theorem kw_534 : Cond.fieldLink "SignalTable$Open" 22 "SignalTable$Open" "memoryDeal" "[I" ∈ lwg := wu_mem (i := 534) (by decide +kernel) rfl
theorem kw_535 : Cond.fieldLink "SignalTable$Open" 25 "SignalTable$Open" "line" "[I" ∈ lwg := wu_mem (i := 535) (by decide +kernel) rfl
theorem kw_536 : Cond.fieldLink "SignalTable$Open" 28 "SignalTable$Open" "lineStamp" "I" ∈ lwg := wu_mem (i := 536) (by decide +kernel) rfl
theorem kw_571 : Cond.methodLink "SignalTable$Deals" 3 ⟨"java/lang/Object", "<init>", "()V"⟩ ∈ lwg := wu_mem (i := 571) (by decide +kernel) rfl
theorem kw_572 : Cond.classLink "SignalTable$Deals" 11 "[[I" ∈ lwg := wu_mem (i := 572) (by decide +kernel) rfl
theorem kw_574 : Cond.classLink "SignalTable$Deals" 20 "[[J" ∈ lwg := wu_mem (i := 574) (by decide +kernel) rfl
theorem kw_576 : Cond.fieldLink "SignalTable$Deals" 31 "SignalTable$Deals" "laws" "LSignalTable$Laws;" ∈ lwg := wu_mem (i := 576) (by decide +kernel) rfl
theorem kw_577 : Cond.fieldLink "SignalTable$Deals" 35 "SignalTable$Deals" "judge" "LSignalTable$Judge;" ∈ lwg := wu_mem (i := 577) (by decide +kernel) rfl
theorem kw_578 : Cond.fieldLink "SignalTable$Deals" 13 "SignalTable$Deals" "listed" "[[I" ∈ lwg := wu_mem (i := 578) (by decide +kernel) rfl
theorem kw_579 : Cond.fieldLink "SignalTable$Deals" 16 "SignalTable$Deals" "size" "[I" ∈ lwg := wu_mem (i := 579) (by decide +kernel) rfl
theorem kw_580 : Cond.fieldLink "SignalTable$Deals" 22 "SignalTable$Deals" "fitting" "[[J" ∈ lwg := wu_mem (i := 580) (by decide +kernel) rfl
theorem kw_581 : Cond.fieldLink "SignalTable$Deals" 25 "SignalTable$Deals" "played" "[I" ∈ lwg := wu_mem (i := 581) (by decide +kernel) rfl
theorem kw_582 : Cond.fieldLink "SignalTable$Deals" 28 "SignalTable$Deals" "hand" "[I" ∈ lwg := wu_mem (i := 582) (by decide +kernel) rfl
theorem kw_622 : Cond.methodLink "SignalTable$Weigher" 3 ⟨"java/lang/Object", "<init>", "()V"⟩ ∈ lwg := wu_mem (i := 622) (by decide +kernel) rfl
theorem kw_623 : Cond.fieldLink "SignalTable$Weigher" 15 "SignalTable$Weigher" "deals" "LSignalTable$Deals;" ∈ lwg := wu_mem (i := 623) (by decide +kernel) rfl
theorem kw_624 : Cond.fieldLink "SignalTable$Weigher" 19 "SignalTable$Weigher" "solver" "LSignalTable$Open;" ∈ lwg := wu_mem (i := 624) (by decide +kernel) rfl
theorem kw_625 : Cond.fieldLink "SignalTable$Weigher" 11 "SignalTable$Weigher" "tally" "[I" ∈ lwg := wu_mem (i := 625) (by decide +kernel) rfl
theorem kw_650 : Cond.methodLink "SignalTable$Gains" 3 ⟨"java/lang/Object", "<init>", "()V"⟩ ∈ lwg := wu_mem (i := 650) (by decide +kernel) rfl
theorem kw_651 : Cond.fieldLink "SignalTable$Gains" 15 "SignalTable$Gains" "trial" "LSignalTable$Game;" ∈ lwg := wu_mem (i := 651) (by decide +kernel) rfl
theorem kw_652 : Cond.fieldLink "SignalTable$Gains" 19 "SignalTable$Gains" "weigher" "LSignalTable$Weigher;" ∈ lwg := wu_mem (i := 652) (by decide +kernel) rfl
theorem kw_653 : Cond.fieldLink "SignalTable$Gains" 11 "SignalTable$Gains" "memory" "[I" ∈ lwg := wu_mem (i := 653) (by decide +kernel) rfl
theorem kw_666 : Cond.methodLink "SignalTable$Books" 3 ⟨"java/lang/Object", "<init>", "()V"⟩ ∈ lwg := wu_mem (i := 666) (by decide +kernel) rfl
theorem kw_667 : Cond.fieldLink "SignalTable$Books" 9 "SignalTable$Books" "applied" "[I" ∈ lwg := wu_mem (i := 667) (by decide +kernel) rfl
theorem kw_668 : Cond.fieldLink "SignalTable$Books" 15 "SignalTable$Books" "lied" "[I" ∈ lwg := wu_mem (i := 668) (by decide +kernel) rfl
theorem kw_683 : Cond.methodLink "SignalTable$Openings" 3 ⟨"java/lang/Object", "<init>", "()V"⟩ ∈ lwg := wu_mem (i := 683) (by decide +kernel) rfl
theorem kw_684 : Cond.fieldLink "SignalTable$Openings" 9 "SignalTable$Openings" "laws" "LSignalTable$Laws;" ∈ lwg := wu_mem (i := 684) (by decide +kernel) rfl
theorem kw_685 : Cond.fieldLink "SignalTable$Openings" 15 "SignalTable$Openings" "judge" "LSignalTable$Judge;" ∈ lwg := wu_mem (i := 685) (by decide +kernel) rfl
theorem dX0_init_0 : decode cX0_init 0 = .ok (.aload_n 0, 1) := by decide +kernel
theorem dX0_init_1 : decode cX0_init 1 = .ok (.invokespecial 3, 3) := by decide +kernel
theorem dX0_init_4 : decode cX0_init 4 = .ok (.aload_n 0, 1) := by decide +kernel
theorem dX0_init_5 : decode cX0_init 5 = .ok (.bipush 48, 2) := by decide +kernel
theorem dX0_init_7 : decode cX0_init 7 = .ok (.newarray .int, 2) := by decide +kernel
theorem dX0_init_9 : decode cX0_init 9 = .ok (.putfield 9, 3) := by decide +kernel
theorem dX0_init_12 : decode cX0_init 12 = .ok (.aload_n 0, 1) := by decide +kernel
theorem dX0_init_13 : decode cX0_init 13 = .ok (.bipush 48, 2) := by decide +kernel
theorem dX0_init_15 : decode cX0_init 15 = .ok (.newarray .int, 2) := by decide +kernel
theorem dX0_init_17 : decode cX0_init 17 = .ok (.putfield 15, 3) := by decide +kernel
theorem dX0_init_20 : decode cX0_init 20 = .ok (.return_, 1) := by decide +kernel
theorem dX1_init_0 : decode cX1_init 0 = .ok (.aload_n 0, 1) := by decide +kernel
theorem dX1_init_1 : decode cX1_init 1 = .ok (.invokespecial 3, 3) := by decide +kernel
theorem dX1_init_4 : decode cX1_init 4 = .ok (.aload_n 0, 1) := by decide +kernel
theorem dX1_init_5 : decode cX1_init 5 = .ok (.iconst 4, 1) := by decide +kernel
theorem dX1_init_6 : decode cX1_init 6 = .ok (.sipush 495, 3) := by decide +kernel
theorem dX1_init_9 : decode cX1_init 9 = .ok (.multianewarray 11 2, 4) := by decide +kernel
theorem dX1_init_13 : decode cX1_init 13 = .ok (.putfield 13, 3) := by decide +kernel
theorem dX1_init_16 : decode cX1_init 16 = .ok (.aload_n 0, 1) := by decide +kernel
theorem dX1_init_17 : decode cX1_init 17 = .ok (.iconst 4, 1) := by decide +kernel
theorem dX1_init_18 : decode cX1_init 18 = .ok (.newarray .int, 2) := by decide +kernel
theorem dX1_init_20 : decode cX1_init 20 = .ok (.putfield 16, 3) := by decide +kernel
theorem dX1_init_23 : decode cX1_init 23 = .ok (.aload_n 0, 1) := by decide +kernel
theorem dX1_init_24 : decode cX1_init 24 = .ok (.iconst 4, 1) := by decide +kernel
theorem dX1_init_25 : decode cX1_init 25 = .ok (.sipush 1024, 3) := by decide +kernel
theorem dX1_init_28 : decode cX1_init 28 = .ok (.multianewarray 20 2, 4) := by decide +kernel
theorem dX1_init_32 : decode cX1_init 32 = .ok (.putfield 22, 3) := by decide +kernel
theorem dX1_init_35 : decode cX1_init 35 = .ok (.aload_n 0, 1) := by decide +kernel
theorem dX1_init_36 : decode cX1_init 36 = .ok (.iconst 4, 1) := by decide +kernel
theorem dX1_init_37 : decode cX1_init 37 = .ok (.newarray .int, 2) := by decide +kernel
theorem dX1_init_39 : decode cX1_init 39 = .ok (.putfield 25, 3) := by decide +kernel
theorem dX1_init_42 : decode cX1_init 42 = .ok (.aload_n 0, 1) := by decide +kernel
theorem dX1_init_43 : decode cX1_init 43 = .ok (.iconst 4, 1) := by decide +kernel
theorem dX1_init_44 : decode cX1_init 44 = .ok (.newarray .int, 2) := by decide +kernel
theorem dX1_init_46 : decode cX1_init 46 = .ok (.putfield 28, 3) := by decide +kernel
theorem dX1_init_49 : decode cX1_init 49 = .ok (.aload_n 0, 1) := by decide +kernel
theorem dX1_init_50 : decode cX1_init 50 = .ok (.aload_n 1, 1) := by decide +kernel
theorem dX1_init_51 : decode cX1_init 51 = .ok (.putfield 31, 3) := by decide +kernel
theorem dX1_init_54 : decode cX1_init 54 = .ok (.aload_n 0, 1) := by decide +kernel
theorem dX1_init_55 : decode cX1_init 55 = .ok (.aload_n 2, 1) := by decide +kernel
theorem dX1_init_56 : decode cX1_init 56 = .ok (.putfield 35, 3) := by decide +kernel
theorem dX1_init_59 : decode cX1_init 59 = .ok (.return_, 1) := by decide +kernel
theorem dX10_init_0 : decode cX10_init 0 = .ok (.aload_n 0, 1) := by decide +kernel
theorem dX10_init_1 : decode cX10_init 1 = .ok (.invokespecial 3, 3) := by decide +kernel
theorem dX10_init_4 : decode cX10_init 4 = .ok (.aload_n 0, 1) := by decide +kernel
theorem dX10_init_5 : decode cX10_init 5 = .ok (.bipush 80, 2) := by decide +kernel
theorem dX10_init_7 : decode cX10_init 7 = .ok (.newarray .int, 2) := by decide +kernel
theorem dX10_init_9 : decode cX10_init 9 = .ok (.putfield 11, 3) := by decide +kernel
theorem dX10_init_12 : decode cX10_init 12 = .ok (.aload_n 0, 1) := by decide +kernel
theorem dX10_init_13 : decode cX10_init 13 = .ok (.aload_n 1, 1) := by decide +kernel
theorem dX10_init_14 : decode cX10_init 14 = .ok (.putfield 15, 3) := by decide +kernel
theorem dX10_init_17 : decode cX10_init 17 = .ok (.aload_n 0, 1) := by decide +kernel
theorem dX10_init_18 : decode cX10_init 18 = .ok (.aload_n 2, 1) := by decide +kernel
theorem dX10_init_19 : decode cX10_init 19 = .ok (.putfield 19, 3) := by decide +kernel
theorem dX10_init_22 : decode cX10_init 22 = .ok (.return_, 1) := by decide +kernel
theorem dX2_init_0 : decode cX2_init 0 = .ok (.aload_n 0, 1) := by decide +kernel
theorem dX2_init_1 : decode cX2_init 1 = .ok (.invokespecial 3, 3) := by decide +kernel
theorem dX2_init_4 : decode cX2_init 4 = .ok (.aload_n 0, 1) := by decide +kernel
theorem dX2_init_5 : decode cX2_init 5 = .ok (.sipush 1024, 3) := by decide +kernel
theorem dX2_init_8 : decode cX2_init 8 = .ok (.newarray .int, 2) := by decide +kernel
theorem dX2_init_10 : decode cX2_init 10 = .ok (.putfield 11, 3) := by decide +kernel
theorem dX2_init_13 : decode cX2_init 13 = .ok (.aload_n 0, 1) := by decide +kernel
theorem dX2_init_14 : decode cX2_init 14 = .ok (.aload_n 1, 1) := by decide +kernel
theorem dX2_init_15 : decode cX2_init 15 = .ok (.putfield 15, 3) := by decide +kernel
theorem dX2_init_18 : decode cX2_init 18 = .ok (.aload_n 0, 1) := by decide +kernel
theorem dX2_init_19 : decode cX2_init 19 = .ok (.aload_n 2, 1) := by decide +kernel
theorem dX2_init_20 : decode cX2_init 20 = .ok (.putfield 19, 3) := by decide +kernel
theorem dX2_init_23 : decode cX2_init 23 = .ok (.return_, 1) := by decide +kernel
theorem dX3_init_0 : decode cX3_init 0 = .ok (.aload_n 0, 1) := by decide +kernel
theorem dX3_init_1 : decode cX3_init 1 = .ok (.invokespecial 3, 3) := by decide +kernel
theorem dX3_init_4 : decode cX3_init 4 = .ok (.aload_n 0, 1) := by decide +kernel
theorem dX3_init_5 : decode cX3_init 5 = .ok (.iconst 4, 1) := by decide +kernel
theorem dX3_init_6 : decode cX3_init 6 = .ok (.newarray .int, 2) := by decide +kernel
theorem dX3_init_8 : decode cX3_init 8 = .ok (.putfield 9, 3) := by decide +kernel
theorem dX3_init_11 : decode cX3_init 11 = .ok (.aload_n 0, 1) := by decide +kernel
theorem dX3_init_12 : decode cX3_init 12 = .ok (.iconst 4, 1) := by decide +kernel
theorem dX3_init_13 : decode cX3_init 13 = .ok (.newarray .int, 2) := by decide +kernel
theorem dX3_init_15 : decode cX3_init 15 = .ok (.putfield 15, 3) := by decide +kernel
theorem dX3_init_18 : decode cX3_init 18 = .ok (.aload_n 0, 1) := by decide +kernel
theorem dX3_init_19 : decode cX3_init 19 = .ok (.bipush (-2), 2) := by decide +kernel
theorem dX3_init_21 : decode cX3_init 21 = .ok (.putfield 18, 3) := by decide +kernel
theorem dX3_init_24 : decode cX3_init 24 = .ok (.aload_n 0, 1) := by decide +kernel
theorem dX3_init_25 : decode cX3_init 25 = .ok (.bipush 16, 2) := by decide +kernel
theorem dX3_init_27 : decode cX3_init 27 = .ok (.newarray .int, 2) := by decide +kernel
theorem dX3_init_29 : decode cX3_init 29 = .ok (.putfield 22, 3) := by decide +kernel
theorem dX3_init_32 : decode cX3_init 32 = .ok (.aload_n 0, 1) := by decide +kernel
theorem dX3_init_33 : decode cX3_init 33 = .ok (.bipush 16, 2) := by decide +kernel
theorem dX3_init_35 : decode cX3_init 35 = .ok (.newarray .int, 2) := by decide +kernel
theorem dX3_init_37 : decode cX3_init 37 = .ok (.putfield 25, 3) := by decide +kernel
theorem dX3_init_40 : decode cX3_init 40 = .ok (.aload_n 0, 1) := by decide +kernel
theorem dX3_init_41 : decode cX3_init 41 = .ok (.bipush 16, 2) := by decide +kernel
theorem dX3_init_43 : decode cX3_init 43 = .ok (.newarray .int, 2) := by decide +kernel
theorem dX3_init_45 : decode cX3_init 45 = .ok (.putfield 28, 3) := by decide +kernel
theorem dX3_init_48 : decode cX3_init 48 = .ok (.aload_n 0, 1) := by decide +kernel
theorem dX3_init_49 : decode cX3_init 49 = .ok (.bipush 16, 2) := by decide +kernel
theorem dX3_init_51 : decode cX3_init 51 = .ok (.newarray .int, 2) := by decide +kernel
theorem dX3_init_53 : decode cX3_init 53 = .ok (.putfield 31, 3) := by decide +kernel
theorem dX3_init_56 : decode cX3_init 56 = .ok (.aload_n 0, 1) := by decide +kernel
theorem dX3_init_57 : decode cX3_init 57 = .ok (.bipush 16, 2) := by decide +kernel
theorem dX3_init_59 : decode cX3_init 59 = .ok (.newarray .int, 2) := by decide +kernel
theorem dX3_init_61 : decode cX3_init 61 = .ok (.putfield 34, 3) := by decide +kernel
theorem dX3_init_64 : decode cX3_init 64 = .ok (.aload_n 0, 1) := by decide +kernel
theorem dX3_init_65 : decode cX3_init 65 = .ok (.bipush 16, 2) := by decide +kernel
theorem dX3_init_67 : decode cX3_init 67 = .ok (.newarray .int, 2) := by decide +kernel
theorem dX3_init_69 : decode cX3_init 69 = .ok (.putfield 37, 3) := by decide +kernel
theorem dX3_init_72 : decode cX3_init 72 = .ok (.aload_n 0, 1) := by decide +kernel
theorem dX3_init_73 : decode cX3_init 73 = .ok (.bipush 16, 2) := by decide +kernel
theorem dX3_init_75 : decode cX3_init 75 = .ok (.newarray .int, 2) := by decide +kernel
theorem dX3_init_77 : decode cX3_init 77 = .ok (.putfield 40, 3) := by decide +kernel
theorem dX3_init_80 : decode cX3_init 80 = .ok (.aload_n 0, 1) := by decide +kernel
theorem dX3_init_81 : decode cX3_init 81 = .ok (.bipush 16, 2) := by decide +kernel
theorem dX3_init_83 : decode cX3_init 83 = .ok (.newarray .int, 2) := by decide +kernel
theorem dX3_init_85 : decode cX3_init 85 = .ok (.putfield 43, 3) := by decide +kernel
theorem dX3_init_88 : decode cX3_init 88 = .ok (.aload_n 0, 1) := by decide +kernel
theorem dX3_init_89 : decode cX3_init 89 = .ok (.iconst 4, 1) := by decide +kernel
theorem dX3_init_90 : decode cX3_init 90 = .ok (.newarray .int, 2) := by decide +kernel
theorem dX3_init_92 : decode cX3_init 92 = .ok (.putfield 46, 3) := by decide +kernel
theorem dX3_init_95 : decode cX3_init 95 = .ok (.aload_n 0, 1) := by decide +kernel
theorem dX3_init_96 : decode cX3_init 96 = .ok (.aload_n 1, 1) := by decide +kernel
theorem dX3_init_97 : decode cX3_init 97 = .ok (.putfield 49, 3) := by decide +kernel
theorem dX3_init_100 : decode cX3_init 100 = .ok (.aload_n 0, 1) := by decide +kernel
theorem dX3_init_101 : decode cX3_init 101 = .ok (.aload_n 2, 1) := by decide +kernel
theorem dX3_init_102 : decode cX3_init 102 = .ok (.putfield 53, 3) := by decide +kernel
theorem dX3_init_105 : decode cX3_init 105 = .ok (.return_, 1) := by decide +kernel
theorem dX4_init_0 : decode cX4_init 0 = .ok (.aload_n 0, 1) := by decide +kernel
theorem dX4_init_1 : decode cX4_init 1 = .ok (.invokespecial 1, 3) := by decide +kernel
theorem dX4_init_4 : decode cX4_init 4 = .ok (.aload_n 0, 1) := by decide +kernel
theorem dX4_init_5 : decode cX4_init 5 = .ok (.bipush 14, 2) := by decide +kernel
theorem dX4_init_7 : decode cX4_init 7 = .ok (.newarray .int, 2) := by decide +kernel
theorem dX4_init_9 : decode cX4_init 9 = .ok (.putfield 9, 3) := by decide +kernel
theorem dX4_init_12 : decode cX4_init 12 = .ok (.aload_n 0, 1) := by decide +kernel
theorem dX4_init_13 : decode cX4_init 13 = .ok (.bipush 64, 2) := by decide +kernel
theorem dX4_init_15 : decode cX4_init 15 = .ok (.newarray .int, 2) := by decide +kernel
theorem dX4_init_17 : decode cX4_init 17 = .ok (.putfield 13, 3) := by decide +kernel
theorem dX4_init_20 : decode cX4_init 20 = .ok (.aload_n 0, 1) := by decide +kernel
theorem dX4_init_21 : decode cX4_init 21 = .ok (.aload_n 1, 1) := by decide +kernel
theorem dX4_init_22 : decode cX4_init 22 = .ok (.putfield 16, 3) := by decide +kernel
theorem dX4_init_25 : decode cX4_init 25 = .ok (.return_, 1) := by decide +kernel
theorem dX5_init_0 : decode cX5_init 0 = .ok (.aload_n 0, 1) := by decide +kernel
theorem dX5_init_1 : decode cX5_init 1 = .ok (.invokespecial 3, 3) := by decide +kernel
theorem dX5_init_4 : decode cX5_init 4 = .ok (.aload_n 0, 1) := by decide +kernel
theorem dX5_init_5 : decode cX5_init 5 = .ok (.bipush 6, 2) := by decide +kernel
theorem dX5_init_7 : decode cX5_init 7 = .ok (.newarray .int, 2) := by decide +kernel
theorem dX5_init_9 : decode cX5_init 9 = .ok (.putfield 9, 3) := by decide +kernel
theorem dX5_init_12 : decode cX5_init 12 = .ok (.aload_n 0, 1) := by decide +kernel
theorem dX5_init_13 : decode cX5_init 13 = .ok (.bipush 6, 2) := by decide +kernel
theorem dX5_init_15 : decode cX5_init 15 = .ok (.newarray .int, 2) := by decide +kernel
theorem dX5_init_17 : decode cX5_init 17 = .ok (.putfield 15, 3) := by decide +kernel
theorem dX5_init_20 : decode cX5_init 20 = .ok (.aload_n 0, 1) := by decide +kernel
theorem dX5_init_21 : decode cX5_init 21 = .ok (.bipush 12, 2) := by decide +kernel
theorem dX5_init_23 : decode cX5_init 23 = .ok (.newarray .int, 2) := by decide +kernel
theorem dX5_init_25 : decode cX5_init 25 = .ok (.putfield 18, 3) := by decide +kernel
theorem dX5_init_28 : decode cX5_init 28 = .ok (.aload_n 0, 1) := by decide +kernel
theorem dX5_init_29 : decode cX5_init 29 = .ok (.bipush 12, 2) := by decide +kernel
theorem dX5_init_31 : decode cX5_init 31 = .ok (.newarray .int, 2) := by decide +kernel
theorem dX5_init_33 : decode cX5_init 33 = .ok (.putfield 21, 3) := by decide +kernel
theorem dX5_init_36 : decode cX5_init 36 = .ok (.aload_n 0, 1) := by decide +kernel
theorem dX5_init_37 : decode cX5_init 37 = .ok (.sipush 400, 3) := by decide +kernel
theorem dX5_init_40 : decode cX5_init 40 = .ok (.newarray .int, 2) := by decide +kernel
theorem dX5_init_42 : decode cX5_init 42 = .ok (.putfield 26, 3) := by decide +kernel
theorem dX5_init_45 : decode cX5_init 45 = .ok (.aload_n 0, 1) := by decide +kernel
theorem dX5_init_46 : decode cX5_init 46 = .ok (.iconst 4, 1) := by decide +kernel
theorem dX5_init_47 : decode cX5_init 47 = .ok (.newarray .int, 2) := by decide +kernel
theorem dX5_init_49 : decode cX5_init 49 = .ok (.putfield 29, 3) := by decide +kernel
theorem dX5_init_52 : decode cX5_init 52 = .ok (.aload_n 0, 1) := by decide +kernel
theorem dX5_init_53 : decode cX5_init 53 = .ok (.bipush 16, 2) := by decide +kernel
theorem dX5_init_55 : decode cX5_init 55 = .ok (.newarray .int, 2) := by decide +kernel
theorem dX5_init_57 : decode cX5_init 57 = .ok (.putfield 32, 3) := by decide +kernel
theorem dX5_init_60 : decode cX5_init 60 = .ok (.aload_n 0, 1) := by decide +kernel
theorem dX5_init_61 : decode cX5_init 61 = .ok (.sipush 1820, 3) := by decide +kernel
theorem dX5_init_64 : decode cX5_init 64 = .ok (.newarray .int, 2) := by decide +kernel
theorem dX5_init_66 : decode cX5_init 66 = .ok (.putfield 35, 3) := by decide +kernel
theorem dX5_init_69 : decode cX5_init 69 = .ok (.return_, 1) := by decide +kernel
theorem dX6_init_0 : decode cX6_init 0 = .ok (.aload_n 0, 1) := by decide +kernel
theorem dX6_init_1 : decode cX6_init 1 = .ok (.invokespecial 3, 3) := by decide +kernel
theorem dX6_init_4 : decode cX6_init 4 = .ok (.aload_n 0, 1) := by decide +kernel
theorem dX6_init_5 : decode cX6_init 5 = .ok (.iconst 4, 1) := by decide +kernel
theorem dX6_init_6 : decode cX6_init 6 = .ok (.newarray .int, 2) := by decide +kernel
theorem dX6_init_8 : decode cX6_init 8 = .ok (.putfield 9, 3) := by decide +kernel
theorem dX6_init_11 : decode cX6_init 11 = .ok (.aload_n 0, 1) := by decide +kernel
theorem dX6_init_12 : decode cX6_init 12 = .ok (.sipush 2048, 3) := by decide +kernel
theorem dX6_init_15 : decode cX6_init 15 = .ok (.newarray .int, 2) := by decide +kernel
theorem dX6_init_17 : decode cX6_init 17 = .ok (.putfield 15, 3) := by decide +kernel
theorem dX6_init_20 : decode cX6_init 20 = .ok (.aload_n 0, 1) := by decide +kernel
theorem dX6_init_21 : decode cX6_init 21 = .ok (.iconst 1, 1) := by decide +kernel
theorem dX6_init_22 : decode cX6_init 22 = .ok (.putfield 18, 3) := by decide +kernel
theorem dX6_init_25 : decode cX6_init 25 = .ok (.aload_n 0, 1) := by decide +kernel
theorem dX6_init_26 : decode cX6_init 26 = .ok (.iconst 4, 1) := by decide +kernel
theorem dX6_init_27 : decode cX6_init 27 = .ok (.newarray .int, 2) := by decide +kernel
theorem dX6_init_29 : decode cX6_init 29 = .ok (.putfield 22, 3) := by decide +kernel
theorem dX6_init_32 : decode cX6_init 32 = .ok (.aload_n 0, 1) := by decide +kernel
theorem dX6_init_33 : decode cX6_init 33 = .ok (.bipush 16, 2) := by decide +kernel
theorem dX6_init_35 : decode cX6_init 35 = .ok (.newarray .int, 2) := by decide +kernel
theorem dX6_init_37 : decode cX6_init 37 = .ok (.putfield 25, 3) := by decide +kernel
theorem dX6_init_40 : decode cX6_init 40 = .ok (.aload_n 0, 1) := by decide +kernel
theorem dX6_init_41 : decode cX6_init 41 = .ok (.iconst (-1), 1) := by decide +kernel
theorem dX6_init_42 : decode cX6_init 42 = .ok (.putfield 28, 3) := by decide +kernel
theorem dX6_init_45 : decode cX6_init 45 = .ok (.aload_n 0, 1) := by decide +kernel
theorem dX6_init_46 : decode cX6_init 46 = .ok (.aload_n 1, 1) := by decide +kernel
theorem dX6_init_47 : decode cX6_init 47 = .ok (.putfield 31, 3) := by decide +kernel
theorem dX6_init_50 : decode cX6_init 50 = .ok (.aload_n 0, 1) := by decide +kernel
theorem dX6_init_51 : decode cX6_init 51 = .ok (.aload_n 1, 1) := by decide +kernel
theorem dX6_init_52 : decode cX6_init 52 = .ok (.getfield 35, 3) := by decide +kernel
theorem dX6_init_55 : decode cX6_init 55 = .ok (.putfield 40, 3) := by decide +kernel
theorem dX6_init_58 : decode cX6_init 58 = .ok (.aload_n 0, 1) := by decide +kernel
theorem dX6_init_59 : decode cX6_init 59 = .ok (.aload_n 1, 1) := by decide +kernel
theorem dX6_init_60 : decode cX6_init 60 = .ok (.getfield 41, 3) := by decide +kernel
theorem dX6_init_63 : decode cX6_init 63 = .ok (.putfield 44, 3) := by decide +kernel
theorem dX6_init_66 : decode cX6_init 66 = .ok (.return_, 1) := by decide +kernel
theorem dX7_init_0 : decode cX7_init 0 = .ok (.aload_n 0, 1) := by decide +kernel
theorem dX7_init_1 : decode cX7_init 1 = .ok (.invokespecial 3, 3) := by decide +kernel
theorem dX7_init_4 : decode cX7_init 4 = .ok (.aload_n 0, 1) := by decide +kernel
theorem dX7_init_5 : decode cX7_init 5 = .ok (.aload_n 1, 1) := by decide +kernel
theorem dX7_init_6 : decode cX7_init 6 = .ok (.putfield 9, 3) := by decide +kernel
theorem dX7_init_9 : decode cX7_init 9 = .ok (.aload_n 0, 1) := by decide +kernel
theorem dX7_init_10 : decode cX7_init 10 = .ok (.aload_n 2, 1) := by decide +kernel
theorem dX7_init_11 : decode cX7_init 11 = .ok (.putfield 15, 3) := by decide +kernel
theorem dX7_init_14 : decode cX7_init 14 = .ok (.return_, 1) := by decide +kernel
